theorem isWood_in {M : gM} {p z : Int32} (hW : M.1 4 ≤ nI 16) (hz : z = f_X1_isWood M p) (c : ¬ z = 0) : vp_in p 16 := by
  unfold f_X1_isWood at hz
  split at hz
  · exact absurd hz c
  · split at hz
    · exact absurd hz c
    · rename_i h1 h2
      exact in_cnt (by decide) hW h1 (Int32.not_le.mp h2)
theorem isRink_in {M : gM} {p z : Int32} (hR : M.1 3 ≤ nI 4) (hz : z = f_X1_isRink M p) (c : ¬ z = 0) : vp_in p 4 := by
  unfold f_X1_isRink at hz
  split at hz
  · exact absurd hz c
  · split at hz
    · exact absurd hz c
    · rename_i h1 h2
      exact in_cnt (by decide) hR h1 (Int32.not_le.mp h2)

def f_X1_landing_l93 (M : gM) (p1 : Int32) (p2 : Int32) (p3 : Int32) (p4 : Int32) (p5 : Int32) : Nat → Int32 → Int32 → Int32
  | 0, ec, x => 0
  | n + 1, ec, x =>
    if x < 0 then
      (-4)
    else
      bd (f_X1_isTaken M p1 p2 ec x) fun z6 =>
      if z6 = 0 then
        ((100 * ec) + x)
      else
        f_X1_landing_l93 M p1 p2 p3 p4 p5 n ec (x + (-1))
def f_X1_landing (M : gM) (p1 : Int32) (p2 : Int32) (p3 : Int32) (p4 : Int32) (p5 : Int32) : Int32 :=
  if p5 = 0 then
    bd (f_X5_holds M p1.toNatClampNeg (p3 - (((M.2.2.1 p2.toNatClampNeg 1) * p4) / 10))) fun z2 =>
    if z2 = 0 then
      (-4)
    else
      if (if 0 < (((4 + (2 * p4)) - ((M.2.1 p1.toNatClampNeg 2) / 2)) - (M.2.1 p1.toNatClampNeg 3)) then (((4 + (2 * p4)) - ((M.2.1 p1.toNatClampNeg 2) / 2)) - (M.2.1 p1.toNatClampNeg 3)) else 0) ≤ 40 then
        f_X1_landing_l93 M p1 p2 p3 p4 p5 42 (p3 - (((M.2.2.1 p2.toNatClampNeg 1) * p4) / 10)) (if 0 < (((4 + (2 * p4)) - ((M.2.1 p1.toNatClampNeg 2) / 2)) - (M.2.1 p1.toNatClampNeg 3)) then (((4 + (2 * p4)) - ((M.2.1 p1.toNatClampNeg 2) / 2)) - (M.2.1 p1.toNatClampNeg 3)) else 0)
      else
        (-4)
  else
    bd (f_X5_holds M p1.toNatClampNeg (p3 + (((M.2.2.1 p2.toNatClampNeg 1) * p4) / 10))) fun z8 =>
    if z8 = 0 then
      (-4)
    else
      if (if 0 < (((4 + (2 * p4)) - ((M.2.1 p1.toNatClampNeg 2) / 2)) - (M.2.1 p1.toNatClampNeg 3)) then (((4 + (2 * p4)) - ((M.2.1 p1.toNatClampNeg 2) / 2)) - (M.2.1 p1.toNatClampNeg 3)) else 0) ≤ 40 then
        f_X1_landing_l93 M p1 p2 p3 p4 p5 42 (p3 + (((M.2.2.1 p2.toNatClampNeg 1) * p4) / 10)) (if 0 < (((4 + (2 * p4)) - ((M.2.1 p1.toNatClampNeg 2) / 2)) - (M.2.1 p1.toNatClampNeg 3)) then (((4 + (2 * p4)) - ((M.2.1 p1.toNatClampNeg 2) / 2)) - (M.2.1 p1.toNatClampNeg 3)) else 0)
      else
        (-4)
abbrev rm_X1_landing : Room := { frames := 2, cells := 0, slots := 0, locals := 47 }
set_option maxRecDepth 100000 in
set_option maxHeartbeats 4000000 in
theorem c_X1_landing (l : Launch) (D : gD) (cy : Nat → ClassId) (L : Nat → Nat → Nat) (G : Nat → gM) (X : Nat → Int32) (A : Nat → Nat → Int32) (b : cB) (M : gM) {g : Nat} (hg : g < 11) (p1 : Int32) (p2 : Int32) (p3 : Int32) (p4 : Int32) (p5 : Int32) (v1 : vp_in p1 4) (v2 : vp_in p2 16) (hW16 : M.1 4 ≤ nI 16) : CtI l D cy (CW cy L) yX1_landing cX1_landing 11 (some .int) rm_X1_landing [.ref (L g 0), .int p1, .int p2, .int p3, .int p4, .int p5] ((va_up G g M, X, A), b) (fun rv u => rv = f_X1_landing M p1 p2 p3 p4 p5 ∧ u = ((va_up G g M, X, A), b)) 0 0 := by
  refine m_entI cX1_landing 11 (by decide) (Nat.le_of_ble_eq_true rfl) (fun J h hR => ?_)
  show J ((va_up G g M, X, A), b) (0, 0) [(0, .ref (L g 0)), (1, .int p1), (2, .int p2), (3, .int p3), (4, .int p4), (5, .int p5)] 0 []
  have b1 : p1.toNatClampNeg < 4 := vp_lt v1
  have e1 : p1 = nI p1.toNatClampNeg := vp_nI v1 (by decide)
  have b2 : p2.toNatClampNeg < 16 := vp_lt v2
  have e2 : p2 = nI p2.toNatClampNeg := vp_nI v2 (by decide)
  refine j_aload_n h dX1_landing_0 rfl 0 rfl ?_
  refine j_get h inlX1 (30 * g + 0) (at_G hg) rfl 0 (by decide) (xr_2 21 rfl) rfl (v := .ref (L g 1)) rfl dX1_landing_1 ?_
  refine j_iload_n h dX1_landing_4 rfl 1 rfl ?_
  refine j_aaldE h (30 * g + 1) 1 (at_Ra hg) rfl p1.toNatClampNeg e1 (by omega) (by decide) dX1_landing_5 ?_
  refine j_astore h (lv' := [(6, _), (0, _), (1, _), (2, _), (3, _), (4, _), (5, _)]) dX1_landing_6 (by decide) rfl ?_
  refine j_aload_n h dX1_landing_8 rfl 1 rfl ?_
  refine j_get h inlX1 (30 * g + 0) (at_G hg) rfl 1 (by decide) (xr_3 1 rfl) rfl (v := .ref (L g 2)) rfl dX1_landing_9 ?_
  refine j_iload_n h dX1_landing_12 rfl 3 rfl ?_
  refine j_aaldE h (30 * g + 2) 2 (at_Wa hg) rfl p2.toNatClampNeg e2 (by omega) (by decide) dX1_landing_13 ?_
  refine j_get h inlX6 (30 * g + (12 + p2.toNatClampNeg)) (at_W hg (by omega)) rfl 1 (by decide) (xr_23 20 rfl) rfl (v := .int (M.2.2.1 p2.toNatClampNeg 1)) rfl dX1_landing_14 ?_
  refine j_iload h dX1_landing_17 5 rfl ?_
  refine j_imul h dX1_landing_19 ?_
  refine j_bipush h (v := 10) dX1_landing_20 (by decide) ?_
  refine j_idiv h dX1_landing_22 (by decide) ?_
  refine j_istore h (lv' := [(7, _), (6, _), (0, _), (1, _), (2, _), (3, _), (4, _), (5, _)]) dX1_landing_23 (by decide) rfl ?_
  refine j_iload h dX1_landing_25 7 rfl ?_
  refine j_if_eq h (tgt := 37) dX1_landing_27 (by decide) (fun c1 => ?_) (fun c1 => ?_)
  · refine j_iload_n h dX1_landing_37 rfl 5 rfl ?_
    refine j_iload h dX1_landing_38 0 rfl ?_
    refine j_isub h dX1_landing_40 ?_
    refine j_istore h (lv' := [(8, _), (7, _), (6, _), (0, _), (1, _), (2, _), (3, _), (4, _), (5, _)]) dX1_landing_41 (by decide) rfl ?_
    refine j_iconst h (v := 0) dX1_landing_43 (by decide) ?_
    refine j_iconst h (v := 4) dX1_landing_44 (by decide) ?_
    refine j_iconst h (v := 2) dX1_landing_45 (by decide) ?_
    refine j_iload h dX1_landing_46 7 rfl ?_
    refine j_imul h dX1_landing_48 ?_
    refine j_iadd h dX1_landing_49 ?_
    refine j_aload h dX1_landing_50 2 rfl ?_
    refine j_get h inlX5 (30 * g + (4 + p1.toNatClampNeg)) (at_R hg (by omega)) rfl 2 (by decide) (xr_9 7 rfl) rfl (v := .int (M.2.1 p1.toNatClampNeg 2)) rfl dX1_landing_52 ?_
    refine j_iconst h (v := 2) dX1_landing_55 (by decide) ?_
    refine j_idiv h dX1_landing_56 (by decide) ?_
    refine j_isub h dX1_landing_57 ?_
    refine j_aload h dX1_landing_58 2 rfl ?_
    refine j_get h inlX5 (30 * g + (4 + p1.toNatClampNeg)) (at_R hg (by omega)) rfl 3 (by decide) (xr_9 8 rfl) rfl (v := .int (M.2.1 p1.toNatClampNeg 3)) rfl dX1_landing_60 ?_
    refine j_isub h dX1_landing_63 ?_
    refine j_mmax h (xr_9 14 rfl) (xr_9 15 rfl) (xr_1 8 rfl) (xr_9 16 rfl) (by decide) (Nat.le_of_ble_eq_true rfl) (by decide) (by decide) dX1_landing_64 ?_
    refine j_istore h (lv' := [(9, _), (8, _), (7, _), (6, _), (0, _), (1, _), (2, _), (3, _), (4, _), (5, _)]) dX1_landing_67 (by decide) rfl ?_
    refine j_aload h dX1_landing_69 3 rfl ?_
    refine j_iload h dX1_landing_71 1 rfl ?_
    refine j_callI h (n := 1) (c_X5_holds l D cy L _ _ _ _ _ hg (by omega) _) (xg_V (xr_23 21 rfl) (xr_23 6 rfl) (xr_23 7 rfl) (xr_2 23 rfl) (xr_23 8 rfl)) rfl rfl (by decide +kernel) ⟨Nat.le_of_ble_eq_true rfl, Nat.le_of_ble_eq_true rfl⟩ (30 * g + (4 + p1.toNatClampNeg)) (at_R hg (by omega)) rfl rfl rfl rfl (Nat.le_of_ble_eq_true rfl) dX1_landing_73 ⟨by decide, by decide⟩ (fun z2 u' hq => ?_)
    obtain ⟨hz2, rfl, bz2⟩ := hq
    refine j_if_eq h (tgt := 86) dX1_landing_76 (by decide) (fun c3 => ?_) (fun c3 => ?_)
    · refine j_bipush h (v := (-4)) dX1_landing_86 (by decide) ?_
      exact hR _ _ _ _ dX1_landing_88 ⟨Eq.symm ((ite_p c1 (bd_eq hz2 (ite_p c3 rfl)))), rfl⟩
    · refine j_iload h dX1_landing_79 0 rfl ?_
      refine j_bipush h (v := 40) dX1_landing_81 (by decide) ?_
      refine j_icmp_le h (tgt := 89) dX1_landing_83 (by decide) (fun c4 => ?_) (fun c4 => ?_)
      · refine j_iload h dX1_landing_89 0 rfl ?_
        refine j_istore h (lv' := [(10, _), (9, _), (8, _), (7, _), (6, _), (0, _), (1, _), (2, _), (3, _), (4, _), (5, _)]) dX1_landing_91 (by decide) rfl ?_
        have lp93 : ∀ (n : Nat) (ec : Int32) (x : Int32), -1 ≤ x.toInt ∧ x.toInt + 2 ≤ (n : Int) → f_X1_landing M p1 p2 p3 p4 p5 = f_X1_landing_l93 M p1 p2 p3 p4 p5 n ec x → J ((va_up G g M, X, A), b) (0, 0) [(0, .ref (L g 0)), (1, .int p1), (2, .int p2), (8, .int ec), (10, .int x)] 93 [] := by
          intro n
          induction n with
          | zero => intro ec x hx hf; exact absurd hx (by omega)
          | succ n ih =>
            intro ec x hx hf
            refine j_iload h dX1_landing_93 4 rfl ?_
            refine j_if_lt h (tgt := 126) dX1_landing_95 (by decide) (fun c5 => ?_) (fun c5 => ?_)
            · refine j_bipush h (v := (-4)) dX1_landing_126 (by decide) ?_
              exact hR _ _ _ _ dX1_landing_128 ⟨Eq.symm (hf.trans ((ite_p c5 rfl))), rfl⟩
            · refine j_aload_n h dX1_landing_98 rfl 0 rfl ?_
              refine j_iload_n h dX1_landing_99 rfl 1 rfl ?_
              refine j_iload_n h dX1_landing_100 rfl 2 rfl ?_
              refine j_iload h dX1_landing_101 3 rfl ?_
              refine j_iload h dX1_landing_103 4 rfl ?_
              refine j_callI h (n := 4) (c_X1_isTaken l D cy L _ _ _ _ _ hg _ _ _ _ hW16) (xg_V (xr_23 22 rfl) (xr_23 23 rfl) (xr_24 0 rfl) (xr_1 18 rfl) (xr_24 1 rfl)) rfl rfl (by decide +kernel) ⟨Nat.le_of_ble_eq_true rfl, Nat.le_of_ble_eq_true rfl⟩ (30 * g + 0) (at_G hg) rfl rfl rfl rfl (Nat.le_of_ble_eq_true rfl) dX1_landing_105 ⟨by decide, by decide⟩ (fun z6 u' hq => ?_)
              obtain ⟨hz6, rfl, bz6⟩ := hq
              refine j_if_ne h (tgt := 120) dX1_landing_108 (by decide) (fun c7 => ?_) (fun c7 => ?_)
              · refine j_iinc h (v := x + (-1)) (lv' := [(10, _), (0, _), (1, _), (2, _), (8, _)]) dX1_landing_120 (k := 4) rfl rfl (by decide) rfl ?_
                refine j_goto h (tgt := 93) dX1_landing_123 (by decide) ?_
                refine j_sub h [1, 2, 3, 4, 0] rfl ?_
                exact ih _ _ (dn_back hx c5) (hf.trans ((ite_n c5 (bd_eq hz6 (ite_n c7 rfl)))))
              · refine j_bipush h (v := 100) dX1_landing_111 (by decide) ?_
                refine j_iload h dX1_landing_113 3 rfl ?_
                refine j_imul h dX1_landing_115 ?_
                refine j_iload h dX1_landing_116 4 rfl ?_
                refine j_iadd h dX1_landing_118 ?_
                exact hR _ _ _ _ dX1_landing_119 ⟨Eq.symm (hf.trans ((ite_n c5 (bd_eq hz6 (ite_p c7 rfl))))), rfl⟩
        refine j_sub h [5, 6, 7, 2, 0] rfl ?_
        exact lp93 42 _ _ (dn_start c4) ((ite_p c1 (bd_eq hz2 (ite_n c3 (ite_p c4 rfl)))))
      · refine j_bipush h (v := (-4)) dX1_landing_86 (by decide) ?_
        exact hR _ _ _ _ dX1_landing_88 ⟨Eq.symm ((ite_p c1 (bd_eq hz2 (ite_n c3 (ite_n c4 rfl))))), rfl⟩
  · refine j_iload_n h dX1_landing_30 rfl 5 rfl ?_
    refine j_iload h dX1_landing_31 0 rfl ?_
    refine j_iadd h dX1_landing_33 ?_
    refine j_goto h (tgt := 41) dX1_landing_34 (by decide) ?_
    refine j_istore h (lv' := [(8, _), (7, _), (6, _), (0, _), (1, _), (2, _), (3, _), (4, _), (5, _)]) dX1_landing_41 (by decide) rfl ?_
    refine j_iconst h (v := 0) dX1_landing_43 (by decide) ?_
    refine j_iconst h (v := 4) dX1_landing_44 (by decide) ?_
    refine j_iconst h (v := 2) dX1_landing_45 (by decide) ?_
    refine j_iload h dX1_landing_46 7 rfl ?_
    refine j_imul h dX1_landing_48 ?_
    refine j_iadd h dX1_landing_49 ?_
    refine j_aload h dX1_landing_50 2 rfl ?_
    refine j_get h inlX5 (30 * g + (4 + p1.toNatClampNeg)) (at_R hg (by omega)) rfl 2 (by decide) (xr_9 7 rfl) rfl (v := .int (M.2.1 p1.toNatClampNeg 2)) rfl dX1_landing_52 ?_
    refine j_iconst h (v := 2) dX1_landing_55 (by decide) ?_
    refine j_idiv h dX1_landing_56 (by decide) ?_
    refine j_isub h dX1_landing_57 ?_
    refine j_aload h dX1_landing_58 2 rfl ?_
    refine j_get h inlX5 (30 * g + (4 + p1.toNatClampNeg)) (at_R hg (by omega)) rfl 3 (by decide) (xr_9 8 rfl) rfl (v := .int (M.2.1 p1.toNatClampNeg 3)) rfl dX1_landing_60 ?_
    refine j_isub h dX1_landing_63 ?_
    refine j_mmax h (xr_9 14 rfl) (xr_9 15 rfl) (xr_1 8 rfl) (xr_9 16 rfl) (by decide) (Nat.le_of_ble_eq_true rfl) (by decide) (by decide) dX1_landing_64 ?_
    refine j_istore h (lv' := [(9, _), (8, _), (7, _), (6, _), (0, _), (1, _), (2, _), (3, _), (4, _), (5, _)]) dX1_landing_67 (by decide) rfl ?_
    refine j_aload h dX1_landing_69 3 rfl ?_
    refine j_iload h dX1_landing_71 1 rfl ?_
    refine j_callI h (n := 1) (c_X5_holds l D cy L _ _ _ _ _ hg (by omega) _) (xg_V (xr_23 21 rfl) (xr_23 6 rfl) (xr_23 7 rfl) (xr_2 23 rfl) (xr_23 8 rfl)) rfl rfl (by decide +kernel) ⟨Nat.le_of_ble_eq_true rfl, Nat.le_of_ble_eq_true rfl⟩ (30 * g + (4 + p1.toNatClampNeg)) (at_R hg (by omega)) rfl rfl rfl rfl (Nat.le_of_ble_eq_true rfl) dX1_landing_73 ⟨by decide, by decide⟩ (fun z8 u' hq => ?_)
    obtain ⟨hz8, rfl, bz8⟩ := hq
    refine j_if_eq h (tgt := 86) dX1_landing_76 (by decide) (fun c9 => ?_) (fun c9 => ?_)
    · refine j_bipush h (v := (-4)) dX1_landing_86 (by decide) ?_
      exact hR _ _ _ _ dX1_landing_88 ⟨Eq.symm ((ite_n c1 (bd_eq hz8 (ite_p c9 rfl)))), rfl⟩
    · refine j_iload h dX1_landing_79 0 rfl ?_
      refine j_bipush h (v := 40) dX1_landing_81 (by decide) ?_
      refine j_icmp_le h (tgt := 89) dX1_landing_83 (by decide) (fun c10 => ?_) (fun c10 => ?_)
      · refine j_iload h dX1_landing_89 0 rfl ?_
        refine j_istore h (lv' := [(10, _), (9, _), (8, _), (7, _), (6, _), (0, _), (1, _), (2, _), (3, _), (4, _), (5, _)]) dX1_landing_91 (by decide) rfl ?_
        have lp93 : ∀ (n : Nat) (ec : Int32) (x : Int32), -1 ≤ x.toInt ∧ x.toInt + 2 ≤ (n : Int) → f_X1_landing M p1 p2 p3 p4 p5 = f_X1_landing_l93 M p1 p2 p3 p4 p5 n ec x → J ((va_up G g M, X, A), b) (0, 0) [(0, .ref (L g 0)), (1, .int p1), (2, .int p2), (8, .int ec), (10, .int x)] 93 [] := by
          intro n
          induction n with
          | zero => intro ec x hx hf; exact absurd hx (by omega)
          | succ n ih =>
            intro ec x hx hf
            refine j_iload h dX1_landing_93 4 rfl ?_
            refine j_if_lt h (tgt := 126) dX1_landing_95 (by decide) (fun c11 => ?_) (fun c11 => ?_)
            · refine j_bipush h (v := (-4)) dX1_landing_126 (by decide) ?_
              exact hR _ _ _ _ dX1_landing_128 ⟨Eq.symm (hf.trans ((ite_p c11 rfl))), rfl⟩
            · refine j_aload_n h dX1_landing_98 rfl 0 rfl ?_
              refine j_iload_n h dX1_landing_99 rfl 1 rfl ?_
              refine j_iload_n h dX1_landing_100 rfl 2 rfl ?_
              refine j_iload h dX1_landing_101 3 rfl ?_
              refine j_iload h dX1_landing_103 4 rfl ?_
              refine j_callI h (n := 4) (c_X1_isTaken l D cy L _ _ _ _ _ hg _ _ _ _ hW16) (xg_V (xr_23 22 rfl) (xr_23 23 rfl) (xr_24 0 rfl) (xr_1 18 rfl) (xr_24 1 rfl)) rfl rfl (by decide +kernel) ⟨Nat.le_of_ble_eq_true rfl, Nat.le_of_ble_eq_true rfl⟩ (30 * g + 0) (at_G hg) rfl rfl rfl rfl (Nat.le_of_ble_eq_true rfl) dX1_landing_105 ⟨by decide, by decide⟩ (fun z12 u' hq => ?_)
              obtain ⟨hz12, rfl, bz12⟩ := hq
              refine j_if_ne h (tgt := 120) dX1_landing_108 (by decide) (fun c13 => ?_) (fun c13 => ?_)
              · refine j_iinc h (v := x + (-1)) (lv' := [(10, _), (0, _), (1, _), (2, _), (8, _)]) dX1_landing_120 (k := 4) rfl rfl (by decide) rfl ?_
                refine j_goto h (tgt := 93) dX1_landing_123 (by decide) ?_
                refine j_sub h [1, 2, 3, 4, 0] rfl ?_
                exact ih _ _ (dn_back hx c11) (hf.trans ((ite_n c11 (bd_eq hz12 (ite_n c13 rfl)))))
              · refine j_bipush h (v := 100) dX1_landing_111 (by decide) ?_
                refine j_iload h dX1_landing_113 3 rfl ?_
                refine j_imul h dX1_landing_115 ?_
                refine j_iload h dX1_landing_116 4 rfl ?_
                refine j_iadd h dX1_landing_118 ?_
                exact hR _ _ _ _ dX1_landing_119 ⟨Eq.symm (hf.trans ((ite_n c11 (bd_eq hz12 (ite_p c13 rfl))))), rfl⟩
        refine j_sub h [5, 6, 7, 2, 0] rfl ?_
        exact lp93 42 _ _ (dn_start c10) ((ite_n c1 (bd_eq hz8 (ite_n c9 (ite_p c10 rfl)))))
      · refine j_bipush h (v := (-4)) dX1_landing_86 (by decide) ?_
        exact hR _ _ _ _ dX1_landing_88 ⟨Eq.symm ((ite_n c1 (bd_eq hz8 (ite_n c9 (ite_n c10 rfl))))), rfl⟩

def f_X1_woodsBefore_l16 (M : gM) (p1 : Int32) (p2 : Int32) : Nat → Nat → Int32 → Int32
  | 0, _, n0 => n0
  | n + 1, k, n0 =>
    if (M.1 4) ≤ (nI k) then
      n0
    else
      if (M.2.2.1 k 6) < (M.2.2.1 p2.toNatClampNeg 6) then
        bd (f_X6_liesOn M k p1) fun z4 =>
        if z4 = 0 then
          f_X1_woodsBefore_l16 M p1 p2 n (k + 1) n0
        else
          f_X1_woodsBefore_l16 M p1 p2 n (k + 1) (n0 + 1)
      else
        if (M.2.2.1 k 6) = (M.2.2.1 p2.toNatClampNeg 6) then
          if p2 ≤ (nI k) then
            f_X1_woodsBefore_l16 M p1 p2 n (k + 1) n0
          else
            bd (f_X6_liesOn M k p1) fun z11 =>
            if z11 = 0 then
              f_X1_woodsBefore_l16 M p1 p2 n (k + 1) n0
            else
              f_X1_woodsBefore_l16 M p1 p2 n (k + 1) (n0 + 1)
        else
          f_X1_woodsBefore_l16 M p1 p2 n (k + 1) n0
def f_X1_woodsBefore (M : gM) (p1 : Int32) (p2 : Int32) : Int32 :=
  bd (f_X1_woodsBefore_l16 M p1 p2 17 0 0) fun z13 =>
  z13
abbrev rm_X1_woodsBefore : Room := { frames := 1, cells := 0, slots := 0, locals := 21 }
set_option maxRecDepth 100000 in
set_option maxHeartbeats 4000000 in
theorem c_X1_woodsBefore (l : Launch) (D : gD) (cy : Nat → ClassId) (L : Nat → Nat → Nat) (G : Nat → gM) (X : Nat → Int32) (A : Nat → Nat → Int32) (b : cB) (M : gM) {g : Nat} (hg : g < 11) (p1 : Int32) (p2 : Int32) (v2 : vp_in p2 16) (hW16 : M.1 4 ≤ nI 16) : CtI l D cy (CW cy L) yX1_woodsBefore cX1_woodsBefore 8 (some .int) rm_X1_woodsBefore [.ref (L g 0), .int p1, .int p2] ((va_up G g M, X, A), b) (fun rv u => rv = f_X1_woodsBefore M p1 p2 ∧ u = ((va_up G g M, X, A), b)) 0 0 := by
  refine m_entI cX1_woodsBefore 8 (by decide) (Nat.le_of_ble_eq_true rfl) (fun J h hR => ?_)
  show J ((va_up G g M, X, A), b) (0, 0) [(0, .ref (L g 0)), (1, .int p1), (2, .int p2)] 0 []
  have b2 : p2.toNatClampNeg < 16 := vp_lt v2
  have e2 : p2 = nI p2.toNatClampNeg := vp_nI v2 (by decide)
  refine j_aload_n h dX1_woodsBefore_0 rfl 0 rfl ?_
  refine j_get h inlX1 (30 * g + 0) (at_G hg) rfl 1 (by decide) (xr_3 1 rfl) rfl (v := .ref (L g 2)) rfl dX1_woodsBefore_1 ?_
  refine j_iload_n h dX1_woodsBefore_4 rfl 2 rfl ?_
  refine j_aaldE h (30 * g + 2) 2 (at_Wa hg) rfl p2.toNatClampNeg e2 (by omega) (by decide) dX1_woodsBefore_5 ?_
  refine j_get h inlX6 (30 * g + (12 + p2.toNatClampNeg)) (at_W hg (by omega)) rfl 6 (by decide) (xr_25 8 rfl) rfl (v := .int (M.2.2.1 p2.toNatClampNeg 6)) rfl dX1_woodsBefore_6 ?_
  refine j_istore_n h (lv' := [(3, _), (0, _), (1, _), (2, _)]) dX1_woodsBefore_9 rfl (by decide) rfl ?_
  refine j_iconst h (v := 0) dX1_woodsBefore_10 (by decide) ?_
  refine j_istore h (lv' := [(4, _), (3, _), (0, _), (1, _), (2, _)]) dX1_woodsBefore_11 (by decide) rfl ?_
  refine j_iconst h (v := 0) dX1_woodsBefore_13 (by decide) ?_
  refine j_istore h (lv' := [(5, _), (4, _), (3, _), (0, _), (1, _), (2, _)]) dX1_woodsBefore_14 (by decide) rfl ?_
  have lp16 : ∀ (n k : Nat) (n0 : Int32), n + k = 17 → k ≤ 16 → (∀ z : Int32, z = f_X1_woodsBefore_l16 M p1 p2 n k n0 → J ((va_up G g M, X, A), b) (0, 0) [(0, .ref (L g 0)), (1, .int p1), (2, .int p2), (3, .int (M.2.2.1 p2.toNatClampNeg 6)), (4, .int z)] 88 []) → J ((va_up G g M, X, A), b) (0, 0) [(0, .ref (L g 0)), (1, .int p1), (2, .int p2), (3, .int (M.2.2.1 p2.toNatClampNeg 6)), (4, .int n0), (5, .int (nI k))] 16 [] := by
    intro n
    induction n with
    | zero => intro k n0 hn hk hf; omega
    | succ n ih =>
      intro k n0 hn hk hf
      refine j_iload h dX1_woodsBefore_16 5 rfl ?_
      refine j_aload_n h dX1_woodsBefore_18 rfl 0 rfl ?_
      refine j_get h inlX1 (30 * g + 0) (at_G hg) rfl 4 (by decide) (xr_4 0 rfl) rfl (v := .int (M.1 4)) rfl dX1_woodsBefore_19 ?_
      refine j_icmp_ge h (tgt := 88) dX1_woodsBefore_22 (by decide) (fun c1 => ?_) (fun c1 => ?_)
      · refine j_sub h [0, 1, 2, 3, 4] rfl ?_
        exact hf _ (Eq.symm ((ite_p c1 rfl)))
      · have hk1 : k < 16 := cnt_lt (by decide) hk hW16 c1
        refine j_aload_n h dX1_woodsBefore_25 rfl 0 rfl ?_
        refine j_get h inlX1 (30 * g + 0) (at_G hg) rfl 1 (by decide) (xr_3 1 rfl) rfl (v := .ref (L g 2)) rfl dX1_woodsBefore_26 ?_
        refine j_iload h dX1_woodsBefore_29 5 rfl ?_
        refine j_aaldE h (30 * g + 2) 2 (at_Wa hg) rfl k rfl (by omega) (by decide) dX1_woodsBefore_31 ?_
        refine j_astore h (lv' := [(6, _), (0, _), (1, _), (2, _), (3, _), (4, _), (5, _)]) dX1_woodsBefore_32 (by decide) rfl ?_
        refine j_aload h dX1_woodsBefore_34 0 rfl ?_
        refine j_get h inlX6 (30 * g + (12 + k)) (at_W hg (by omega)) rfl 6 (by decide) (xr_25 8 rfl) rfl (v := .int (M.2.2.1 k 6)) rfl dX1_woodsBefore_36 ?_
        refine j_iload_n h dX1_woodsBefore_39 rfl 4 rfl ?_
        refine j_icmp_lt h (tgt := 58) dX1_woodsBefore_40 (by decide) (fun c2 => ?_) (fun c2 => ?_)
        · refine j_iconst h (v := 1) dX1_woodsBefore_58 (by decide) ?_
          refine j_goto h (tgt := 63) dX1_woodsBefore_59 (by decide) ?_
          refine j_istore h (lv' := [(7, _), (6, _), (0, _), (1, _), (2, _), (3, _), (4, _), (5, _)]) dX1_woodsBefore_63 (by decide) rfl ?_
          refine j_iload h dX1_woodsBefore_65 0 rfl ?_
          refine j_if_eq h (tgt := 82) dX1_woodsBefore_67 (by decide) (fun c3 => by first | exact absurd c3 (by decide) | exact absurd (by decide) c3) (fun _ => ?_)
          refine j_aload h dX1_woodsBefore_70 1 rfl ?_
          refine j_iload_n h dX1_woodsBefore_72 rfl 3 rfl ?_
          refine j_callI h (n := 1) (c_X6_liesOn l D cy L _ _ _ _ _ hg (by omega) _) (xg_V (xr_24 4 rfl) (xr_24 5 rfl) (xr_24 6 rfl) (xr_3 3 rfl) (xr_24 7 rfl)) rfl rfl (by decide +kernel) ⟨Nat.le_of_ble_eq_true rfl, Nat.le_of_ble_eq_true rfl⟩ (30 * g + (12 + k)) (at_W hg (by omega)) rfl rfl rfl rfl (Nat.le_of_ble_eq_true rfl) dX1_woodsBefore_73 ⟨by decide, by decide⟩ (fun z4 u' hq => ?_)
          obtain ⟨hz4, rfl, bz4⟩ := hq
          refine j_if_eq h (tgt := 82) dX1_woodsBefore_76 (by decide) (fun c5 => ?_) (fun c5 => ?_)
          · refine j_iinc h (v := nI (k + 1)) (lv' := [(5, _), (7, _), (6, _), (0, _), (1, _), (2, _), (3, _), (4, _)]) dX1_woodsBefore_82 (k := 7) rfl (nI_1 k) (by decide) rfl ?_
            refine j_goto h (tgt := 16) dX1_woodsBefore_85 (by decide) ?_
            refine j_sub h [3, 4, 5, 6, 7, 0] rfl ?_
            exact ih (k + 1) _ (by omega) (by omega) (fun z hz => hf z (hz.trans (Eq.symm ((ite_n c1 (ite_p c2 (bd_eq hz4 (ite_p c5 rfl))))))))
          · refine j_iinc h (v := n0 + 1) (lv' := [(4, _), (7, _), (6, _), (0, _), (1, _), (2, _), (3, _), (5, _)]) dX1_woodsBefore_79 (k := 6) rfl rfl (by decide) rfl ?_
            refine j_iinc h (v := nI (k + 1)) (lv' := [(5, _), (4, _), (7, _), (6, _), (0, _), (1, _), (2, _), (3, _)]) dX1_woodsBefore_82 (k := 7) rfl (nI_1 k) (by decide) rfl ?_
            refine j_goto h (tgt := 16) dX1_woodsBefore_85 (by decide) ?_
            refine j_sub h [4, 5, 6, 7, 1, 0] rfl ?_
            exact ih (k + 1) _ (by omega) (by omega) (fun z hz => hf z (hz.trans (Eq.symm ((ite_n c1 (ite_p c2 (bd_eq hz4 (ite_n c5 rfl))))))))
        · refine j_aload h dX1_woodsBefore_43 0 rfl ?_
          refine j_get h inlX6 (30 * g + (12 + k)) (at_W hg (by omega)) rfl 6 (by decide) (xr_25 8 rfl) rfl (v := .int (M.2.2.1 k 6)) rfl dX1_woodsBefore_45 ?_
          refine j_iload_n h dX1_woodsBefore_48 rfl 4 rfl ?_
          refine j_icmp_ne h (tgt := 62) dX1_woodsBefore_49 (by decide) (fun c6 => ?_) (fun c6 => ?_)
          · refine j_iconst h (v := 0) dX1_woodsBefore_62 (by decide) ?_
            refine j_istore h (lv' := [(7, _), (6, _), (0, _), (1, _), (2, _), (3, _), (4, _), (5, _)]) dX1_woodsBefore_63 (by decide) rfl ?_
            refine j_iload h dX1_woodsBefore_65 0 rfl ?_
            refine j_if_eq h (tgt := 82) dX1_woodsBefore_67 (by decide) (fun _ => ?_) (fun c7 => by first | exact absurd c7 (by decide) | exact absurd (by decide) c7)
            refine j_iinc h (v := nI (k + 1)) (lv' := [(5, _), (7, _), (6, _), (0, _), (1, _), (2, _), (3, _), (4, _)]) dX1_woodsBefore_82 (k := 7) rfl (nI_1 k) (by decide) rfl ?_
            refine j_goto h (tgt := 16) dX1_woodsBefore_85 (by decide) ?_
            refine j_sub h [3, 4, 5, 6, 7, 0] rfl ?_
            exact ih (k + 1) _ (by omega) (by omega) (fun z hz => hf z (hz.trans (Eq.symm ((ite_n c1 (ite_n c2 (ite_n c6 rfl)))))))
          · refine j_iload h dX1_woodsBefore_52 6 rfl ?_
            refine j_iload_n h dX1_woodsBefore_54 rfl 3 rfl ?_
            refine j_icmp_ge h (tgt := 62) dX1_woodsBefore_55 (by decide) (fun c8 => ?_) (fun c8 => ?_)
            · refine j_iconst h (v := 0) dX1_woodsBefore_62 (by decide) ?_
              refine j_istore h (lv' := [(7, _), (6, _), (0, _), (1, _), (2, _), (3, _), (4, _), (5, _)]) dX1_woodsBefore_63 (by decide) rfl ?_
              refine j_iload h dX1_woodsBefore_65 0 rfl ?_
              refine j_if_eq h (tgt := 82) dX1_woodsBefore_67 (by decide) (fun _ => ?_) (fun c9 => by first | exact absurd c9 (by decide) | exact absurd (by decide) c9)
              refine j_iinc h (v := nI (k + 1)) (lv' := [(5, _), (7, _), (6, _), (0, _), (1, _), (2, _), (3, _), (4, _)]) dX1_woodsBefore_82 (k := 7) rfl (nI_1 k) (by decide) rfl ?_
              refine j_goto h (tgt := 16) dX1_woodsBefore_85 (by decide) ?_
              refine j_sub h [3, 4, 5, 6, 7, 0] rfl ?_
              exact ih (k + 1) _ (by omega) (by omega) (fun z hz => hf z (hz.trans (Eq.symm ((ite_n c1 (ite_n c2 (ite_p c6 (ite_p c8 rfl))))))))
            · refine j_iconst h (v := 1) dX1_woodsBefore_58 (by decide) ?_
              refine j_goto h (tgt := 63) dX1_woodsBefore_59 (by decide) ?_
              refine j_istore h (lv' := [(7, _), (6, _), (0, _), (1, _), (2, _), (3, _), (4, _), (5, _)]) dX1_woodsBefore_63 (by decide) rfl ?_
              refine j_iload h dX1_woodsBefore_65 0 rfl ?_
              refine j_if_eq h (tgt := 82) dX1_woodsBefore_67 (by decide) (fun c10 => by first | exact absurd c10 (by decide) | exact absurd (by decide) c10) (fun _ => ?_)
              refine j_aload h dX1_woodsBefore_70 1 rfl ?_
              refine j_iload_n h dX1_woodsBefore_72 rfl 3 rfl ?_
              refine j_callI h (n := 1) (c_X6_liesOn l D cy L _ _ _ _ _ hg (by omega) _) (xg_V (xr_24 4 rfl) (xr_24 5 rfl) (xr_24 6 rfl) (xr_3 3 rfl) (xr_24 7 rfl)) rfl rfl (by decide +kernel) ⟨Nat.le_of_ble_eq_true rfl, Nat.le_of_ble_eq_true rfl⟩ (30 * g + (12 + k)) (at_W hg (by omega)) rfl rfl rfl rfl (Nat.le_of_ble_eq_true rfl) dX1_woodsBefore_73 ⟨by decide, by decide⟩ (fun z11 u' hq => ?_)
              obtain ⟨hz11, rfl, bz11⟩ := hq
              refine j_if_eq h (tgt := 82) dX1_woodsBefore_76 (by decide) (fun c12 => ?_) (fun c12 => ?_)
              · refine j_iinc h (v := nI (k + 1)) (lv' := [(5, _), (7, _), (6, _), (0, _), (1, _), (2, _), (3, _), (4, _)]) dX1_woodsBefore_82 (k := 7) rfl (nI_1 k) (by decide) rfl ?_
                refine j_goto h (tgt := 16) dX1_woodsBefore_85 (by decide) ?_
                refine j_sub h [3, 4, 5, 6, 7, 0] rfl ?_
                exact ih (k + 1) _ (by omega) (by omega) (fun z hz => hf z (hz.trans (Eq.symm ((ite_n c1 (ite_n c2 (ite_p c6 (ite_n c8 (bd_eq hz11 (ite_p c12 rfl))))))))))
              · refine j_iinc h (v := n0 + 1) (lv' := [(4, _), (7, _), (6, _), (0, _), (1, _), (2, _), (3, _), (5, _)]) dX1_woodsBefore_79 (k := 6) rfl rfl (by decide) rfl ?_
                refine j_iinc h (v := nI (k + 1)) (lv' := [(5, _), (4, _), (7, _), (6, _), (0, _), (1, _), (2, _), (3, _)]) dX1_woodsBefore_82 (k := 7) rfl (nI_1 k) (by decide) rfl ?_
                refine j_goto h (tgt := 16) dX1_woodsBefore_85 (by decide) ?_
                refine j_sub h [4, 5, 6, 7, 1, 0] rfl ?_
                exact ih (k + 1) _ (by omega) (by omega) (fun z hz => hf z (hz.trans (Eq.symm ((ite_n c1 (ite_n c2 (ite_p c6 (ite_n c8 (bd_eq hz11 (ite_n c12 rfl))))))))))
  refine j_sub h [3, 4, 5, 2, 1, 0] rfl ?_
  refine lp16 17 0 _ (by omega) (by omega) (fun z13 hz13 => ?_)
  refine j_iload h dX1_woodsBefore_88 4 rfl ?_
  exact hR _ _ _ _ dX1_woodsBefore_90 ⟨Eq.symm ((bd_eq hz13 rfl)), rfl⟩

def f_X1_woodInOrder_l2 (M : gM) (p1 : Int32) (p2 : Int32) : Nat → Nat → Int32
  | 0, _ => 0
  | n + 1, k =>
    if (M.1 4) ≤ (nI k) then
      (-4)
    else
      bd (f_X6_liesOn M k p1) fun z2 =>
      if z2 = 0 then
        f_X1_woodInOrder_l2 M p1 p2 n (k + 1) 
      else
        bd (f_X1_woodsBefore M p1 (nI k)) fun z4 =>
        if z4 = p2 then
          (nI k)
        else
          f_X1_woodInOrder_l2 M p1 p2 n (k + 1) 
def f_X1_woodInOrder (M : gM) (p1 : Int32) (p2 : Int32) : Int32 :=
  f_X1_woodInOrder_l2 M p1 p2 17 0 
abbrev rm_X1_woodInOrder : Room := { frames := 2, cells := 0, slots := 0, locals := 48 }
set_option maxRecDepth 100000 in
set_option maxHeartbeats 4000000 in
theorem c_X1_woodInOrder (l : Launch) (D : gD) (cy : Nat → ClassId) (L : Nat → Nat → Nat) (G : Nat → gM) (X : Nat → Int32) (A : Nat → Nat → Int32) (b : cB) (M : gM) {g : Nat} (hg : g < 11) (p1 : Int32) (p2 : Int32) (hW16 : M.1 4 ≤ nI 16) : CtI l D cy (CW cy L) yX1_woodInOrder cX1_woodInOrder 4 (some .int) rm_X1_woodInOrder [.ref (L g 0), .int p1, .int p2] ((va_up G g M, X, A), b) (fun rv u => rv = f_X1_woodInOrder M p1 p2 ∧ u = ((va_up G g M, X, A), b)) 0 0 := by
  refine m_entI cX1_woodInOrder 4 (by decide) (Nat.le_of_ble_eq_true rfl) (fun J h hR => ?_)
  show J ((va_up G g M, X, A), b) (0, 0) [(0, .ref (L g 0)), (1, .int p1), (2, .int p2)] 0 []
  refine j_iconst h (v := 0) dX1_woodInOrder_0 (by decide) ?_
  refine j_istore_n h (lv' := [(3, _), (0, _), (1, _), (2, _)]) dX1_woodInOrder_1 rfl (by decide) rfl ?_
  have lp2 : ∀ (n k : Nat) , n + k = 17 → k ≤ 16 → f_X1_woodInOrder M p1 p2 = f_X1_woodInOrder_l2 M p1 p2 n k  → J ((va_up G g M, X, A), b) (0, 0) [(0, .ref (L g 0)), (1, .int p1), (2, .int p2), (3, .int (nI k))] 2 [] := by
    intro n
    induction n with
    | zero => intro k  hn hk hf; omega
    | succ n ih =>
      intro k  hn hk hf
      refine j_iload_n h dX1_woodInOrder_2 rfl 3 rfl ?_
      refine j_aload_n h dX1_woodInOrder_3 rfl 0 rfl ?_
      refine j_get h inlX1 (30 * g + 0) (at_G hg) rfl 4 (by decide) (xr_4 0 rfl) rfl (v := .int (M.1 4)) rfl dX1_woodInOrder_4 ?_
      refine j_icmp_ge h (tgt := 41) dX1_woodInOrder_7 (by decide) (fun c1 => ?_) (fun c1 => ?_)
      · refine j_bipush h (v := (-4)) dX1_woodInOrder_41 (by decide) ?_
        exact hR _ _ _ _ dX1_woodInOrder_43 ⟨Eq.symm (hf.trans ((ite_p c1 rfl))), rfl⟩
      · have hk1 : k < 16 := cnt_lt (by decide) hk hW16 c1
        refine j_aload_n h dX1_woodInOrder_10 rfl 0 rfl ?_
        refine j_get h inlX1 (30 * g + 0) (at_G hg) rfl 1 (by decide) (xr_3 1 rfl) rfl (v := .ref (L g 2)) rfl dX1_woodInOrder_11 ?_
        refine j_iload_n h dX1_woodInOrder_14 rfl 3 rfl ?_
        refine j_aaldE h (30 * g + 2) 2 (at_Wa hg) rfl k rfl (by omega) (by decide) dX1_woodInOrder_15 ?_
        refine j_iload_n h dX1_woodInOrder_16 rfl 1 rfl ?_
        refine j_callI h (n := 1) (c_X6_liesOn l D cy L _ _ _ _ _ hg (by omega) _) (xg_V (xr_24 4 rfl) (xr_24 5 rfl) (xr_24 6 rfl) (xr_3 3 rfl) (xr_24 7 rfl)) rfl rfl (by decide +kernel) ⟨Nat.le_of_ble_eq_true rfl, Nat.le_of_ble_eq_true rfl⟩ (30 * g + (12 + k)) (at_W hg (by omega)) rfl rfl rfl rfl (Nat.le_of_ble_eq_true rfl) dX1_woodInOrder_17 ⟨by decide, by decide⟩ (fun z2 u' hq => ?_)
        obtain ⟨hz2, rfl, bz2⟩ := hq
        refine j_if_eq h (tgt := 35) dX1_woodInOrder_20 (by decide) (fun c3 => ?_) (fun c3 => ?_)
        · refine j_iinc h (v := nI (k + 1)) (lv' := [(3, _), (0, _), (1, _), (2, _)]) dX1_woodInOrder_35 (k := 3) rfl (nI_1 k) (by decide) rfl ?_
          refine j_goto h (tgt := 2) dX1_woodInOrder_38 (by decide) ?_
          refine j_sub h [1, 2, 3, 0] rfl ?_
          exact ih (k + 1)  (by omega) (by omega) (hf.trans ((ite_n c1 (bd_eq hz2 (ite_p c3 rfl)))))
        · refine j_aload_n h dX1_woodInOrder_23 rfl 0 rfl ?_
          refine j_iload_n h dX1_woodInOrder_24 rfl 1 rfl ?_
          refine j_iload_n h dX1_woodInOrder_25 rfl 3 rfl ?_
          refine j_callI h (n := 2) (c_X1_woodsBefore l D cy L _ _ _ _ _ hg _ _ (vp_in_nI (by omega) (by decide)) hW16) (xg_V (xr_37 4 rfl) (xr_37 5 rfl) (xr_37 6 rfl) (xr_1 18 rfl) (xr_37 7 rfl)) rfl rfl (by decide +kernel) ⟨Nat.le_of_ble_eq_true rfl, Nat.le_of_ble_eq_true rfl⟩ (30 * g + 0) (at_G hg) rfl rfl rfl rfl (Nat.le_of_ble_eq_true rfl) dX1_woodInOrder_26 ⟨by decide, by decide⟩ (fun z4 u' hq => ?_)
          obtain ⟨hz4, rfl⟩ := hq
          refine j_iload_n h dX1_woodInOrder_29 rfl 2 rfl ?_
          refine j_icmp_ne h (tgt := 35) dX1_woodInOrder_30 (by decide) (fun c5 => ?_) (fun c5 => ?_)
          · refine j_iinc h (v := nI (k + 1)) (lv' := [(3, _), (0, _), (1, _), (2, _)]) dX1_woodInOrder_35 (k := 3) rfl (nI_1 k) (by decide) rfl ?_
            refine j_goto h (tgt := 2) dX1_woodInOrder_38 (by decide) ?_
            refine j_sub h [1, 2, 3, 0] rfl ?_
            exact ih (k + 1)  (by omega) (by omega) (hf.trans ((ite_n c1 (bd_eq hz2 (ite_n c3 (bd_eq hz4 (ite_n c5 rfl)))))))
          · refine j_iload_n h dX1_woodInOrder_33 rfl 3 rfl ?_
            exact hR _ _ _ _ dX1_woodInOrder_34 ⟨Eq.symm (hf.trans ((ite_n c1 (bd_eq hz2 (ite_n c3 (bd_eq hz4 (ite_p c5 rfl))))))), rfl⟩
  refine j_sub h [1, 2, 3, 0] rfl ?_
  exact lp2 17 0  (by omega) (by omega) (rfl)

def f_X1_leastDistance_l6 (M : gM) (p1 : Int32) (p2 : Int32) : Nat → Nat → Int32 → Int32
  | 0, _, le => le
  | n + 1, k, le =>
    if (M.1 4) ≤ (nI k) then
      le
    else
      if (M.2.2.1 k 0) = p2 then
        bd (f_X6_liesOn M k p1) fun z3 =>
        if z3 = 0 then
          f_X1_leastDistance_l6 M p1 p2 n (k + 1) le
        else
          f_X1_leastDistance_l6 M p1 p2 n (k + 1) (if (M.2.2.1 k 6) < le then (M.2.2.1 k 6) else le)
      else
        f_X1_leastDistance_l6 M p1 p2 n (k + 1) le
def f_X1_leastDistance (M : gM) (p1 : Int32) (p2 : Int32) : Int32 :=
  bd (f_X1_leastDistance_l6 M p1 p2 17 0 1000000) fun z5 =>
  z5
abbrev rm_X1_leastDistance : Room := { frames := 1, cells := 0, slots := 0, locals := 21 }
set_option maxRecDepth 100000 in
set_option maxHeartbeats 4000000 in
theorem c_X1_leastDistance (l : Launch) (D : gD) (cy : Nat → ClassId) (L : Nat → Nat → Nat) (G : Nat → gM) (X : Nat → Int32) (A : Nat → Nat → Int32) (b : cB) (M : gM) {g : Nat} (hg : g < 11) (p1 : Int32) (p2 : Int32) (hW16 : M.1 4 ≤ nI 16) : CtI l D cy (CW cy L) yX1_leastDistance cX1_leastDistance 5 (some .int) rm_X1_leastDistance [.ref (L g 0), .int p1, .int p2] ((va_up G g M, X, A), b) (fun rv u => rv = f_X1_leastDistance M p1 p2 ∧ u = ((va_up G g M, X, A), b)) 0 0 := by
  refine m_entI cX1_leastDistance 5 (by decide) (Nat.le_of_ble_eq_true rfl) (fun J h hR => ?_)
  show J ((va_up G g M, X, A), b) (0, 0) [(0, .ref (L g 0)), (1, .int p1), (2, .int p2)] 0 []
  refine j_ldc h (xr_25 7 rfl) dX1_leastDistance_0 ?_
  refine j_istore_n h (lv' := [(3, _), (0, _), (1, _), (2, _)]) dX1_leastDistance_2 rfl (by decide) rfl ?_
  refine j_iconst h (v := 0) dX1_leastDistance_3 (by decide) ?_
  refine j_istore h (lv' := [(4, _), (3, _), (0, _), (1, _), (2, _)]) dX1_leastDistance_4 (by decide) rfl ?_
  have lp6 : ∀ (n k : Nat) (le : Int32), n + k = 17 → k ≤ 16 → (∀ z : Int32, z = f_X1_leastDistance_l6 M p1 p2 n k le → J ((va_up G g M, X, A), b) (0, 0) [(0, .ref (L g 0)), (1, .int p1), (2, .int p2), (3, .int z)] 64 []) → J ((va_up G g M, X, A), b) (0, 0) [(0, .ref (L g 0)), (1, .int p1), (2, .int p2), (3, .int le), (4, .int (nI k))] 6 [] := by
    intro n
    induction n with
    | zero => intro k le hn hk hf; omega
    | succ n ih =>
      intro k le hn hk hf
      refine j_iload h dX1_leastDistance_6 4 rfl ?_
      refine j_aload_n h dX1_leastDistance_8 rfl 0 rfl ?_
      refine j_get h inlX1 (30 * g + 0) (at_G hg) rfl 4 (by decide) (xr_4 0 rfl) rfl (v := .int (M.1 4)) rfl dX1_leastDistance_9 ?_
      refine j_icmp_ge h (tgt := 64) dX1_leastDistance_12 (by decide) (fun c1 => ?_) (fun c1 => ?_)
      · refine j_sub h [0, 1, 2, 3] rfl ?_
        exact hf _ (Eq.symm ((ite_p c1 rfl)))
      · have hk1 : k < 16 := cnt_lt (by decide) hk hW16 c1
        refine j_aload_n h dX1_leastDistance_15 rfl 0 rfl ?_
        refine j_get h inlX1 (30 * g + 0) (at_G hg) rfl 1 (by decide) (xr_3 1 rfl) rfl (v := .ref (L g 2)) rfl dX1_leastDistance_16 ?_
        refine j_iload h dX1_leastDistance_19 4 rfl ?_
        refine j_aaldE h (30 * g + 2) 2 (at_Wa hg) rfl k rfl (by omega) (by decide) dX1_leastDistance_21 ?_
        refine j_get h inlX6 (30 * g + (12 + k)) (at_W hg (by omega)) rfl 0 (by decide) (xr_12 4 rfl) rfl (v := .int (M.2.2.1 k 0)) rfl dX1_leastDistance_22 ?_
        refine j_iload_n h dX1_leastDistance_25 rfl 2 rfl ?_
        refine j_icmp_ne h (tgt := 58) dX1_leastDistance_26 (by decide) (fun c2 => ?_) (fun c2 => ?_)
        · refine j_iinc h (v := nI (k + 1)) (lv' := [(4, _), (0, _), (1, _), (2, _), (3, _)]) dX1_leastDistance_58 (k := 4) rfl (nI_1 k) (by decide) rfl ?_
          refine j_goto h (tgt := 6) dX1_leastDistance_61 (by decide) ?_
          refine j_sub h [1, 2, 3, 4, 0] rfl ?_
          exact ih (k + 1) _ (by omega) (by omega) (fun z hz => hf z (hz.trans (Eq.symm ((ite_n c1 (ite_n c2 rfl))))))
        · refine j_aload_n h dX1_leastDistance_29 rfl 0 rfl ?_
          refine j_get h inlX1 (30 * g + 0) (at_G hg) rfl 1 (by decide) (xr_3 1 rfl) rfl (v := .ref (L g 2)) rfl dX1_leastDistance_30 ?_
          refine j_iload h dX1_leastDistance_33 4 rfl ?_
          refine j_aaldE h (30 * g + 2) 2 (at_Wa hg) rfl k rfl (by omega) (by decide) dX1_leastDistance_35 ?_
          refine j_iload_n h dX1_leastDistance_36 rfl 1 rfl ?_
          refine j_callI h (n := 1) (c_X6_liesOn l D cy L _ _ _ _ _ hg (by omega) _) (xg_V (xr_24 4 rfl) (xr_24 5 rfl) (xr_24 6 rfl) (xr_3 3 rfl) (xr_24 7 rfl)) rfl rfl (by decide +kernel) ⟨Nat.le_of_ble_eq_true rfl, Nat.le_of_ble_eq_true rfl⟩ (30 * g + (12 + k)) (at_W hg (by omega)) rfl rfl rfl rfl (Nat.le_of_ble_eq_true rfl) dX1_leastDistance_37 ⟨by decide, by decide⟩ (fun z3 u' hq => ?_)
          obtain ⟨hz3, rfl, bz3⟩ := hq
          refine j_if_eq h (tgt := 58) dX1_leastDistance_40 (by decide) (fun c4 => ?_) (fun c4 => ?_)
          · refine j_iinc h (v := nI (k + 1)) (lv' := [(4, _), (0, _), (1, _), (2, _), (3, _)]) dX1_leastDistance_58 (k := 4) rfl (nI_1 k) (by decide) rfl ?_
            refine j_goto h (tgt := 6) dX1_leastDistance_61 (by decide) ?_
            refine j_sub h [1, 2, 3, 4, 0] rfl ?_
            exact ih (k + 1) _ (by omega) (by omega) (fun z hz => hf z (hz.trans (Eq.symm ((ite_n c1 (ite_p c2 (bd_eq hz3 (ite_p c4 rfl))))))))
          · refine j_iload_n h dX1_leastDistance_43 rfl 3 rfl ?_
            refine j_aload_n h dX1_leastDistance_44 rfl 0 rfl ?_
            refine j_get h inlX1 (30 * g + 0) (at_G hg) rfl 1 (by decide) (xr_3 1 rfl) rfl (v := .ref (L g 2)) rfl dX1_leastDistance_45 ?_
            refine j_iload h dX1_leastDistance_48 4 rfl ?_
            refine j_aaldE h (30 * g + 2) 2 (at_Wa hg) rfl k rfl (by omega) (by decide) dX1_leastDistance_50 ?_
            refine j_get h inlX6 (30 * g + (12 + k)) (at_W hg (by omega)) rfl 6 (by decide) (xr_25 8 rfl) rfl (v := .int (M.2.2.1 k 6)) rfl dX1_leastDistance_51 ?_
            refine j_mmin h (xr_9 13 rfl) (xr_1 7 rfl) (xr_1 8 rfl) (xr_1 9 rfl) (by decide) (Nat.le_of_ble_eq_true rfl) (by decide) (by decide) dX1_leastDistance_54 ?_
            refine j_istore_n h (lv' := [(3, _), (0, _), (1, _), (2, _), (4, _)]) dX1_leastDistance_57 rfl (by decide) rfl ?_
            refine j_iinc h (v := nI (k + 1)) (lv' := [(4, _), (3, _), (0, _), (1, _), (2, _)]) dX1_leastDistance_58 (k := 4) rfl (nI_1 k) (by decide) rfl ?_
            refine j_goto h (tgt := 6) dX1_leastDistance_61 (by decide) ?_
            refine j_sub h [2, 3, 4, 1, 0] rfl ?_
            exact ih (k + 1) _ (by omega) (by omega) (fun z hz => hf z (hz.trans (Eq.symm ((ite_n c1 (ite_p c2 (bd_eq hz3 (ite_n c4 rfl))))))))
  refine j_sub h [2, 3, 4, 1, 0] rfl ?_
  refine lp6 17 0 _ (by omega) (by omega) (fun z5 hz5 => ?_)
  refine j_iload_n h dX1_leastDistance_64 rfl 3 rfl ?_
  exact hR _ _ _ _ dX1_leastDistance_65 ⟨Eq.symm ((bd_eq hz5 rfl)), rfl⟩

def f_X1_woodsNearerThan_l6 (M : gM) (p1 : Int32) (p2 : Int32) (p3 : Int32) : Nat → Nat → Int32 → Int32
  | 0, _, n0 => n0
  | n + 1, k, n0 =>
    if (M.1 4) ≤ (nI k) then
      n0
    else
      if (M.2.2.1 k 0) = p2 then
        bd (f_X6_liesOn M k p1) fun z3 =>
        if z3 = 0 then
          f_X1_woodsNearerThan_l6 M p1 p2 p3 n (k + 1) n0
        else
          if p3 ≤ (M.2.2.1 k 6) then
            f_X1_woodsNearerThan_l6 M p1 p2 p3 n (k + 1) n0
          else
            f_X1_woodsNearerThan_l6 M p1 p2 p3 n (k + 1) (n0 + 1)
      else
        f_X1_woodsNearerThan_l6 M p1 p2 p3 n (k + 1) n0
def f_X1_woodsNearerThan (M : gM) (p1 : Int32) (p2 : Int32) (p3 : Int32) : Int32 :=
  bd (f_X1_woodsNearerThan_l6 M p1 p2 p3 17 0 0) fun z6 =>
  z6
abbrev rm_X1_woodsNearerThan : Room := { frames := 1, cells := 0, slots := 0, locals := 21 }
set_option maxRecDepth 100000 in
set_option maxHeartbeats 4000000 in
theorem c_X1_woodsNearerThan (l : Launch) (D : gD) (cy : Nat → ClassId) (L : Nat → Nat → Nat) (G : Nat → gM) (X : Nat → Int32) (A : Nat → Nat → Int32) (b : cB) (M : gM) {g : Nat} (hg : g < 11) (p1 : Int32) (p2 : Int32) (p3 : Int32) (hW16 : M.1 4 ≤ nI 16) : CtI l D cy (CW cy L) yX1_woodsNearerThan cX1_woodsNearerThan 6 (some .int) rm_X1_woodsNearerThan [.ref (L g 0), .int p1, .int p2, .int p3] ((va_up G g M, X, A), b) (fun rv u => rv = f_X1_woodsNearerThan M p1 p2 p3 ∧ u = ((va_up G g M, X, A), b)) 0 0 := by
  refine m_entI cX1_woodsNearerThan 6 (by decide) (Nat.le_of_ble_eq_true rfl) (fun J h hR => ?_)
  show J ((va_up G g M, X, A), b) (0, 0) [(0, .ref (L g 0)), (1, .int p1), (2, .int p2), (3, .int p3)] 0 []
  refine j_iconst h (v := 0) dX1_woodsNearerThan_0 (by decide) ?_
  refine j_istore h (lv' := [(4, _), (0, _), (1, _), (2, _), (3, _)]) dX1_woodsNearerThan_1 (by decide) rfl ?_
  refine j_iconst h (v := 0) dX1_woodsNearerThan_3 (by decide) ?_
  refine j_istore h (lv' := [(5, _), (4, _), (0, _), (1, _), (2, _), (3, _)]) dX1_woodsNearerThan_4 (by decide) rfl ?_
  have lp6 : ∀ (n k : Nat) (n0 : Int32), n + k = 17 → k ≤ 16 → (∀ z : Int32, z = f_X1_woodsNearerThan_l6 M p1 p2 p3 n k n0 → J ((va_up G g M, X, A), b) (0, 0) [(0, .ref (L g 0)), (1, .int p1), (2, .int p2), (3, .int p3), (4, .int z)] 66 []) → J ((va_up G g M, X, A), b) (0, 0) [(0, .ref (L g 0)), (1, .int p1), (2, .int p2), (3, .int p3), (4, .int n0), (5, .int (nI k))] 6 [] := by
    intro n
    induction n with
    | zero => intro k n0 hn hk hf; omega
    | succ n ih =>
      intro k n0 hn hk hf
      refine j_iload h dX1_woodsNearerThan_6 5 rfl ?_
      refine j_aload_n h dX1_woodsNearerThan_8 rfl 0 rfl ?_
      refine j_get h inlX1 (30 * g + 0) (at_G hg) rfl 4 (by decide) (xr_4 0 rfl) rfl (v := .int (M.1 4)) rfl dX1_woodsNearerThan_9 ?_
      refine j_icmp_ge h (tgt := 66) dX1_woodsNearerThan_12 (by decide) (fun c1 => ?_) (fun c1 => ?_)
      · refine j_sub h [0, 1, 2, 3, 4] rfl ?_
        exact hf _ (Eq.symm ((ite_p c1 rfl)))
      · have hk1 : k < 16 := cnt_lt (by decide) hk hW16 c1
        refine j_aload_n h dX1_woodsNearerThan_15 rfl 0 rfl ?_
        refine j_get h inlX1 (30 * g + 0) (at_G hg) rfl 1 (by decide) (xr_3 1 rfl) rfl (v := .ref (L g 2)) rfl dX1_woodsNearerThan_16 ?_
        refine j_iload h dX1_woodsNearerThan_19 5 rfl ?_
        refine j_aaldE h (30 * g + 2) 2 (at_Wa hg) rfl k rfl (by omega) (by decide) dX1_woodsNearerThan_21 ?_
        refine j_get h inlX6 (30 * g + (12 + k)) (at_W hg (by omega)) rfl 0 (by decide) (xr_12 4 rfl) rfl (v := .int (M.2.2.1 k 0)) rfl dX1_woodsNearerThan_22 ?_
        refine j_iload_n h dX1_woodsNearerThan_25 rfl 2 rfl ?_
        refine j_icmp_ne h (tgt := 60) dX1_woodsNearerThan_26 (by decide) (fun c2 => ?_) (fun c2 => ?_)
        · refine j_iinc h (v := nI (k + 1)) (lv' := [(5, _), (0, _), (1, _), (2, _), (3, _), (4, _)]) dX1_woodsNearerThan_60 (k := 5) rfl (nI_1 k) (by decide) rfl ?_
          refine j_goto h (tgt := 6) dX1_woodsNearerThan_63 (by decide) ?_
          refine j_sub h [1, 2, 3, 4, 5, 0] rfl ?_
          exact ih (k + 1) _ (by omega) (by omega) (fun z hz => hf z (hz.trans (Eq.symm ((ite_n c1 (ite_n c2 rfl))))))
        · refine j_aload_n h dX1_woodsNearerThan_29 rfl 0 rfl ?_
          refine j_get h inlX1 (30 * g + 0) (at_G hg) rfl 1 (by decide) (xr_3 1 rfl) rfl (v := .ref (L g 2)) rfl dX1_woodsNearerThan_30 ?_
          refine j_iload h dX1_woodsNearerThan_33 5 rfl ?_
          refine j_aaldE h (30 * g + 2) 2 (at_Wa hg) rfl k rfl (by omega) (by decide) dX1_woodsNearerThan_35 ?_
          refine j_iload_n h dX1_woodsNearerThan_36 rfl 1 rfl ?_
          refine j_callI h (n := 1) (c_X6_liesOn l D cy L _ _ _ _ _ hg (by omega) _) (xg_V (xr_24 4 rfl) (xr_24 5 rfl) (xr_24 6 rfl) (xr_3 3 rfl) (xr_24 7 rfl)) rfl rfl (by decide +kernel) ⟨Nat.le_of_ble_eq_true rfl, Nat.le_of_ble_eq_true rfl⟩ (30 * g + (12 + k)) (at_W hg (by omega)) rfl rfl rfl rfl (Nat.le_of_ble_eq_true rfl) dX1_woodsNearerThan_37 ⟨by decide, by decide⟩ (fun z3 u' hq => ?_)
          obtain ⟨hz3, rfl, bz3⟩ := hq
          refine j_if_eq h (tgt := 60) dX1_woodsNearerThan_40 (by decide) (fun c4 => ?_) (fun c4 => ?_)
          · refine j_iinc h (v := nI (k + 1)) (lv' := [(5, _), (0, _), (1, _), (2, _), (3, _), (4, _)]) dX1_woodsNearerThan_60 (k := 5) rfl (nI_1 k) (by decide) rfl ?_
            refine j_goto h (tgt := 6) dX1_woodsNearerThan_63 (by decide) ?_
            refine j_sub h [1, 2, 3, 4, 5, 0] rfl ?_
            exact ih (k + 1) _ (by omega) (by omega) (fun z hz => hf z (hz.trans (Eq.symm ((ite_n c1 (ite_p c2 (bd_eq hz3 (ite_p c4 rfl))))))))
          · refine j_aload_n h dX1_woodsNearerThan_43 rfl 0 rfl ?_
            refine j_get h inlX1 (30 * g + 0) (at_G hg) rfl 1 (by decide) (xr_3 1 rfl) rfl (v := .ref (L g 2)) rfl dX1_woodsNearerThan_44 ?_
            refine j_iload h dX1_woodsNearerThan_47 5 rfl ?_
            refine j_aaldE h (30 * g + 2) 2 (at_Wa hg) rfl k rfl (by omega) (by decide) dX1_woodsNearerThan_49 ?_
            refine j_get h inlX6 (30 * g + (12 + k)) (at_W hg (by omega)) rfl 6 (by decide) (xr_25 8 rfl) rfl (v := .int (M.2.2.1 k 6)) rfl dX1_woodsNearerThan_50 ?_
            refine j_iload_n h dX1_woodsNearerThan_53 rfl 3 rfl ?_
            refine j_icmp_ge h (tgt := 60) dX1_woodsNearerThan_54 (by decide) (fun c5 => ?_) (fun c5 => ?_)
            · refine j_iinc h (v := nI (k + 1)) (lv' := [(5, _), (0, _), (1, _), (2, _), (3, _), (4, _)]) dX1_woodsNearerThan_60 (k := 5) rfl (nI_1 k) (by decide) rfl ?_
              refine j_goto h (tgt := 6) dX1_woodsNearerThan_63 (by decide) ?_
              refine j_sub h [1, 2, 3, 4, 5, 0] rfl ?_
              exact ih (k + 1) _ (by omega) (by omega) (fun z hz => hf z (hz.trans (Eq.symm ((ite_n c1 (ite_p c2 (bd_eq hz3 (ite_n c4 (ite_p c5 rfl)))))))))
            · refine j_iinc h (v := n0 + 1) (lv' := [(4, _), (0, _), (1, _), (2, _), (3, _), (5, _)]) dX1_woodsNearerThan_57 (k := 4) rfl rfl (by decide) rfl ?_
              refine j_iinc h (v := nI (k + 1)) (lv' := [(5, _), (4, _), (0, _), (1, _), (2, _), (3, _)]) dX1_woodsNearerThan_60 (k := 5) rfl (nI_1 k) (by decide) rfl ?_
              refine j_goto h (tgt := 6) dX1_woodsNearerThan_63 (by decide) ?_
              refine j_sub h [2, 3, 4, 5, 1, 0] rfl ?_
              exact ih (k + 1) _ (by omega) (by omega) (fun z hz => hf z (hz.trans (Eq.symm ((ite_n c1 (ite_p c2 (bd_eq hz3 (ite_n c4 (ite_n c5 rfl)))))))))
  refine j_sub h [2, 3, 4, 5, 1, 0] rfl ?_
  refine lp6 17 0 _ (by omega) (by omega) (fun z6 hz6 => ?_)
  refine j_iload h dX1_woodsNearerThan_66 4 rfl ?_
  exact hR _ _ _ _ dX1_woodsNearerThan_68 ⟨Eq.symm ((bd_eq hz6 rfl)), rfl⟩

def f_X1_countShots (M : gM) (p1 : Int32) : Int32 :=
  bd (f_X1_leastDistance M p1 0) fun z1 =>
  bd (f_X1_leastDistance M p1 1) fun z2 =>
  if z1 = z2 then
    0
  else
    if z2 ≤ z1 then
      bd (f_X1_woodsNearerThan M p1 1 z1) fun z5 =>
      (10 + z5)
    else
      bd (f_X1_woodsNearerThan M p1 0 z2) fun z6 =>
      z6
abbrev rm_X1_countShots : Room := { frames := 2, cells := 0, slots := 0, locals := 46 }
set_option maxRecDepth 100000 in
set_option maxHeartbeats 4000000 in
theorem c_X1_countShots (l : Launch) (D : gD) (cy : Nat → ClassId) (L : Nat → Nat → Nat) (G : Nat → gM) (X : Nat → Int32) (A : Nat → Nat → Int32) (b : cB) (M : gM) {g : Nat} (hg : g < 11) (p1 : Int32) (hW16 : M.1 4 ≤ nI 16) : CtI l D cy (CW cy L) yX1_countShots cX1_countShots 4 (some .int) rm_X1_countShots [.ref (L g 0), .int p1] ((va_up G g M, X, A), b) (fun rv u => rv = f_X1_countShots M p1 ∧ u = ((va_up G g M, X, A), b)) 0 0 := by
  refine m_entI cX1_countShots 4 (by decide) (Nat.le_of_ble_eq_true rfl) (fun J h hR => ?_)
  show J ((va_up G g M, X, A), b) (0, 0) [(0, .ref (L g 0)), (1, .int p1)] 0 []
  refine j_aload_n h dX1_countShots_0 rfl 0 rfl ?_
  refine j_iload_n h dX1_countShots_1 rfl 1 rfl ?_
  refine j_iconst h (v := 0) dX1_countShots_2 (by decide) ?_
  refine j_callI h (n := 2) (c_X1_leastDistance l D cy L _ _ _ _ _ hg _ _ hW16) (xg_V (xr_25 3 rfl) (xr_25 4 rfl) (xr_25 5 rfl) (xr_1 18 rfl) (xr_25 6 rfl)) rfl rfl (by decide +kernel) ⟨Nat.le_of_ble_eq_true rfl, Nat.le_of_ble_eq_true rfl⟩ (30 * g + 0) (at_G hg) rfl rfl rfl rfl (Nat.le_of_ble_eq_true rfl) dX1_countShots_3 ⟨by decide, by decide⟩ (fun z1 u' hq => ?_)
  obtain ⟨hz1, rfl⟩ := hq
  refine j_istore_n h (lv' := [(2, _), (0, _), (1, _)]) dX1_countShots_6 rfl (by decide) rfl ?_
  refine j_aload_n h dX1_countShots_7 rfl 1 rfl ?_
  refine j_iload_n h dX1_countShots_8 rfl 2 rfl ?_
  refine j_iconst h (v := 1) dX1_countShots_9 (by decide) ?_
  refine j_callI h (n := 2) (c_X1_leastDistance l D cy L _ _ _ _ _ hg _ _ hW16) (xg_V (xr_25 3 rfl) (xr_25 4 rfl) (xr_25 5 rfl) (xr_1 18 rfl) (xr_25 6 rfl)) rfl rfl (by decide +kernel) ⟨Nat.le_of_ble_eq_true rfl, Nat.le_of_ble_eq_true rfl⟩ (30 * g + 0) (at_G hg) rfl rfl rfl rfl (Nat.le_of_ble_eq_true rfl) dX1_countShots_10 ⟨by decide, by decide⟩ (fun z2 u' hq => ?_)
  obtain ⟨hz2, rfl⟩ := hq
  refine j_istore_n h (lv' := [(3, _), (2, _), (0, _), (1, _)]) dX1_countShots_13 rfl (by decide) rfl ?_
  refine j_iload_n h dX1_countShots_14 rfl 1 rfl ?_
  refine j_iload_n h dX1_countShots_15 rfl 0 rfl ?_
  refine j_icmp_ne h (tgt := 21) dX1_countShots_16 (by decide) (fun c3 => ?_) (fun c3 => ?_)
  · refine j_iload_n h dX1_countShots_21 rfl 1 rfl ?_
    refine j_iload_n h dX1_countShots_22 rfl 0 rfl ?_
    refine j_icmp_ge h (tgt := 34) dX1_countShots_23 (by decide) (fun c4 => ?_) (fun c4 => ?_)
    · refine j_bipush h (v := 10) dX1_countShots_34 (by decide) ?_
      refine j_aload_n h dX1_countShots_36 rfl 2 rfl ?_
      refine j_iload_n h dX1_countShots_37 rfl 3 rfl ?_
      refine j_iconst h (v := 1) dX1_countShots_38 (by decide) ?_
      refine j_iload_n h dX1_countShots_39 rfl 1 rfl ?_
      refine j_callI h (n := 3) (c_X1_woodsNearerThan l D cy L _ _ _ _ _ hg _ _ _ hW16) (xg_V (xr_25 9 rfl) (xr_25 10 rfl) (xr_25 11 rfl) (xr_1 18 rfl) (xr_25 12 rfl)) rfl rfl (by decide +kernel) ⟨Nat.le_of_ble_eq_true rfl, Nat.le_of_ble_eq_true rfl⟩ (30 * g + 0) (at_G hg) rfl rfl rfl rfl (Nat.le_of_ble_eq_true rfl) dX1_countShots_40 ⟨by decide, by decide⟩ (fun z5 u' hq => ?_)
      obtain ⟨hz5, rfl⟩ := hq
      refine j_iadd h dX1_countShots_43 ?_
      exact hR _ _ _ _ dX1_countShots_44 ⟨Eq.symm ((bd_eq hz1 (bd_eq hz2 (ite_n c3 (ite_p c4 (bd_eq hz5 rfl)))))), rfl⟩
    · refine j_aload_n h dX1_countShots_26 rfl 2 rfl ?_
      refine j_iload_n h dX1_countShots_27 rfl 3 rfl ?_
      refine j_iconst h (v := 0) dX1_countShots_28 (by decide) ?_
      refine j_iload_n h dX1_countShots_29 rfl 0 rfl ?_
      refine j_callI h (n := 3) (c_X1_woodsNearerThan l D cy L _ _ _ _ _ hg _ _ _ hW16) (xg_V (xr_25 9 rfl) (xr_25 10 rfl) (xr_25 11 rfl) (xr_1 18 rfl) (xr_25 12 rfl)) rfl rfl (by decide +kernel) ⟨Nat.le_of_ble_eq_true rfl, Nat.le_of_ble_eq_true rfl⟩ (30 * g + 0) (at_G hg) rfl rfl rfl rfl (Nat.le_of_ble_eq_true rfl) dX1_countShots_30 ⟨by decide, by decide⟩ (fun z6 u' hq => ?_)
      obtain ⟨hz6, rfl⟩ := hq
      exact hR _ _ _ _ dX1_countShots_33 ⟨Eq.symm ((bd_eq hz1 (bd_eq hz2 (ite_n c3 (ite_n c4 (bd_eq hz6 rfl)))))), rfl⟩
  · refine j_iconst h (v := 0) dX1_countShots_19 (by decide) ?_
    exact hR _ _ _ _ dX1_countShots_20 ⟨Eq.symm ((bd_eq hz1 (bd_eq hz2 (ite_p c3 rfl)))), rfl⟩

def f_X1_isMatched_l2 (M : gM) (p1 : Int32) (w : Nat) : Nat → Nat → Int32
  | 0, _ => 0
  | n + 1, k =>
    if (M.1 4) ≤ (nI k) then
      0
    else
      if (M.2.2.1 k 0) = (M.2.2.1 w 0) then
        f_X1_isMatched_l2 M p1 w n (k + 1) 
      else
        bd (f_X6_liesOn M k p1) fun z3 =>
        if z3 = 0 then
          f_X1_isMatched_l2 M p1 w n (k + 1) 
        else
          if (M.2.2.1 k 6) = (M.2.2.1 w 6) then
            1
          else
            f_X1_isMatched_l2 M p1 w n (k + 1) 
def f_X1_isMatched (M : gM) (p1 : Int32) (w : Nat) : Int32 :=
  f_X1_isMatched_l2 M p1 w 17 0 
abbrev rm_X1_isMatched : Room := { frames := 1, cells := 0, slots := 0, locals := 21 }
set_option maxRecDepth 100000 in
set_option maxHeartbeats 4000000 in
theorem c_X1_isMatched (l : Launch) (D : gD) (cy : Nat → ClassId) (L : Nat → Nat → Nat) (G : Nat → gM) (X : Nat → Int32) (A : Nat → Nat → Int32) (b : cB) (M : gM) {g : Nat} (hg : g < 11) (p1 : Int32) {w : Nat} (hw : w < 16) (hW16 : M.1 4 ≤ nI 16) : CtI l D cy (CW cy L) yX1_isMatched cX1_isMatched 5 (some .boolean) rm_X1_isMatched [.ref (L g 0), .int p1, .ref (L g (12 + w))] ((va_up G g M, X, A), b) (fun rv u => rv = f_X1_isMatched M p1 w ∧ u = ((va_up G g M, X, A), b) ∧ (rv = 0 ∨ rv = 1)) 0 0 := by
  refine m_entZ cX1_isMatched 5 (by decide) (Nat.le_of_ble_eq_true rfl) (fun J h hR => ?_)
  show J ((va_up G g M, X, A), b) (0, 0) [(0, .ref (L g 0)), (1, .int p1), (2, .ref (L g (12 + w)))] 0 []
  refine j_iconst h (v := 0) dX1_isMatched_0 (by decide) ?_
  refine j_istore_n h (lv' := [(3, _), (0, _), (1, _), (2, _)]) dX1_isMatched_1 rfl (by decide) rfl ?_
  have lp2 : ∀ (n k : Nat) , n + k = 17 → k ≤ 16 → f_X1_isMatched M p1 w = f_X1_isMatched_l2 M p1 w n k  → J ((va_up G g M, X, A), b) (0, 0) [(0, .ref (L g 0)), (1, .int p1), (2, .ref (L g (12 + w))), (3, .int (nI k))] 2 [] := by
    intro n
    induction n with
    | zero => intro k  hn hk hf; omega
    | succ n ih =>
      intro k  hn hk hf
      refine j_iload_n h dX1_isMatched_2 rfl 3 rfl ?_
      refine j_aload_n h dX1_isMatched_3 rfl 0 rfl ?_
      refine j_get h inlX1 (30 * g + 0) (at_G hg) rfl 4 (by decide) (xr_4 0 rfl) rfl (v := .int (M.1 4)) rfl dX1_isMatched_4 ?_
      refine j_icmp_ge h (tgt := 59) dX1_isMatched_7 (by decide) (fun c1 => ?_) (fun c1 => ?_)
      · refine j_iconst h (v := 0) dX1_isMatched_59 (by decide) ?_
        exact hR _ _ _ _ dX1_isMatched_60 (Or.inl rfl) ⟨Eq.symm (hf.trans ((ite_p c1 rfl))), rfl, (Or.inl rfl)⟩
      · have hk1 : k < 16 := cnt_lt (by decide) hk hW16 c1
        refine j_aload_n h dX1_isMatched_10 rfl 0 rfl ?_
        refine j_get h inlX1 (30 * g + 0) (at_G hg) rfl 1 (by decide) (xr_3 1 rfl) rfl (v := .ref (L g 2)) rfl dX1_isMatched_11 ?_
        refine j_iload_n h dX1_isMatched_14 rfl 3 rfl ?_
        refine j_aaldE h (30 * g + 2) 2 (at_Wa hg) rfl k rfl (by omega) (by decide) dX1_isMatched_15 ?_
        refine j_astore h (lv' := [(4, _), (0, _), (1, _), (2, _), (3, _)]) dX1_isMatched_16 (by decide) rfl ?_
        refine j_aload h dX1_isMatched_18 0 rfl ?_
        refine j_get h inlX6 (30 * g + (12 + k)) (at_W hg (by omega)) rfl 0 (by decide) (xr_12 4 rfl) rfl (v := .int (M.2.2.1 k 0)) rfl dX1_isMatched_20 ?_
        refine j_aload_n h dX1_isMatched_23 rfl 3 rfl ?_
        refine j_get h inlX6 (30 * g + (12 + w)) (at_W hg (by omega)) rfl 0 (by decide) (xr_12 4 rfl) rfl (v := .int (M.2.2.1 w 0)) rfl dX1_isMatched_24 ?_
        refine j_icmp_eq h (tgt := 53) dX1_isMatched_27 (by decide) (fun c2 => ?_) (fun c2 => ?_)
        · refine j_iinc h (v := nI (k + 1)) (lv' := [(3, _), (4, _), (0, _), (1, _), (2, _)]) dX1_isMatched_53 (k := 4) rfl (nI_1 k) (by decide) rfl ?_
          refine j_goto h (tgt := 2) dX1_isMatched_56 (by decide) ?_
          refine j_sub h [2, 3, 4, 0] rfl ?_
          exact ih (k + 1)  (by omega) (by omega) (hf.trans ((ite_n c1 (ite_p c2 rfl))))
        · refine j_aload h dX1_isMatched_30 0 rfl ?_
          refine j_iload_n h dX1_isMatched_32 rfl 2 rfl ?_
          refine j_callI h (n := 1) (c_X6_liesOn l D cy L _ _ _ _ _ hg (by omega) _) (xg_V (xr_24 4 rfl) (xr_24 5 rfl) (xr_24 6 rfl) (xr_3 3 rfl) (xr_24 7 rfl)) rfl rfl (by decide +kernel) ⟨Nat.le_of_ble_eq_true rfl, Nat.le_of_ble_eq_true rfl⟩ (30 * g + (12 + k)) (at_W hg (by omega)) rfl rfl rfl rfl (Nat.le_of_ble_eq_true rfl) dX1_isMatched_33 ⟨by decide, by decide⟩ (fun z3 u' hq => ?_)
          obtain ⟨hz3, rfl, bz3⟩ := hq
          refine j_if_eq h (tgt := 53) dX1_isMatched_36 (by decide) (fun c4 => ?_) (fun c4 => ?_)
          · refine j_iinc h (v := nI (k + 1)) (lv' := [(3, _), (4, _), (0, _), (1, _), (2, _)]) dX1_isMatched_53 (k := 4) rfl (nI_1 k) (by decide) rfl ?_
            refine j_goto h (tgt := 2) dX1_isMatched_56 (by decide) ?_
            refine j_sub h [2, 3, 4, 0] rfl ?_
            exact ih (k + 1)  (by omega) (by omega) (hf.trans ((ite_n c1 (ite_n c2 (bd_eq hz3 (ite_p c4 rfl))))))
          · refine j_aload h dX1_isMatched_39 0 rfl ?_
            refine j_get h inlX6 (30 * g + (12 + k)) (at_W hg (by omega)) rfl 6 (by decide) (xr_25 8 rfl) rfl (v := .int (M.2.2.1 k 6)) rfl dX1_isMatched_41 ?_
            refine j_aload_n h dX1_isMatched_44 rfl 3 rfl ?_
            refine j_get h inlX6 (30 * g + (12 + w)) (at_W hg (by omega)) rfl 6 (by decide) (xr_25 8 rfl) rfl (v := .int (M.2.2.1 w 6)) rfl dX1_isMatched_45 ?_
            refine j_icmp_ne h (tgt := 53) dX1_isMatched_48 (by decide) (fun c5 => ?_) (fun c5 => ?_)
            · refine j_iinc h (v := nI (k + 1)) (lv' := [(3, _), (4, _), (0, _), (1, _), (2, _)]) dX1_isMatched_53 (k := 4) rfl (nI_1 k) (by decide) rfl ?_
              refine j_goto h (tgt := 2) dX1_isMatched_56 (by decide) ?_
              refine j_sub h [2, 3, 4, 0] rfl ?_
              exact ih (k + 1)  (by omega) (by omega) (hf.trans ((ite_n c1 (ite_n c2 (bd_eq hz3 (ite_n c4 (ite_n c5 rfl)))))))
            · refine j_iconst h (v := 1) dX1_isMatched_51 (by decide) ?_
              exact hR _ _ _ _ dX1_isMatched_52 (Or.inr rfl) ⟨Eq.symm (hf.trans ((ite_n c1 (ite_n c2 (bd_eq hz3 (ite_n c4 (ite_p c5 rfl))))))), rfl, (Or.inr rfl)⟩
  refine j_sub h [1, 2, 3, 0] rfl ?_
  exact lp2 17 0  (by omega) (by omega) (rfl)

def f_X1_countShotsInOrder_l7 (M : gM) (p1 : Int32) : Nat → Nat → Int32 → Int32 → Int32 × Int32
  | 0, _, win, n0 => (win, n0)
  | n + 1, k, win, n0 =>
    if (M.1 4) ≤ (nI k) then
      (win, n0)
    else
      bd (f_X1_woodInOrder M p1 (nI k)) fun z2 =>
      bd (f_X1_isWood M z2) fun z3 =>
      if z3 = 0 then
        (win, n0)
      else
        if (nI k) = 0 then
          if (M.2.2.1 z2.toNatClampNeg 0) = (M.2.2.1 z2.toNatClampNeg 0) then
            bd (f_X1_isMatched M p1 z2.toNatClampNeg) fun z10 =>
            if z10 = 0 then
              f_X1_countShotsInOrder_l7 M p1 n (k + 1) (M.2.2.1 z2.toNatClampNeg 0) (n0 + 1)
            else
              (M.2.2.1 z2.toNatClampNeg 0, n0)
          else
            (M.2.2.1 z2.toNatClampNeg 0, n0)
        else
          if (M.2.2.1 z2.toNatClampNeg 0) = win then
            bd (f_X1_isMatched M p1 z2.toNatClampNeg) fun z7 =>
            if z7 = 0 then
              f_X1_countShotsInOrder_l7 M p1 n (k + 1) win (n0 + 1)
            else
              (win, n0)
          else
            (win, n0)
def f_X1_countShotsInOrder (M : gM) (p1 : Int32) : Int32 :=
  bd (f_X1_countShotsInOrder_l7 M p1 17 0 (-1) 0) fun z12 =>
  if z12.2 ≤ 0 then
    z12.2
  else
    if z12.1 = 1 then
      (10 + z12.2)
    else
      z12.2
abbrev rm_X1_countShotsInOrder : Room := { frames := 3, cells := 0, slots := 0, locals := 71 }
set_option maxRecDepth 100000 in
set_option maxHeartbeats 4000000 in
theorem c_X1_countShotsInOrder (l : Launch) (D : gD) (cy : Nat → ClassId) (L : Nat → Nat → Nat) (G : Nat → gM) (X : Nat → Int32) (A : Nat → Nat → Int32) (b : cB) (M : gM) {g : Nat} (hg : g < 11) (p1 : Int32) (hW16 : M.1 4 ≤ nI 16) : CtI l D cy (CW cy L) yX1_countShotsInOrder cX1_countShotsInOrder 7 (some .int) rm_X1_countShotsInOrder [.ref (L g 0), .int p1] ((va_up G g M, X, A), b) (fun rv u => rv = f_X1_countShotsInOrder M p1 ∧ u = ((va_up G g M, X, A), b)) 0 0 := by
  refine m_entI cX1_countShotsInOrder 7 (by decide) (Nat.le_of_ble_eq_true rfl) (fun J h hR => ?_)
  show J ((va_up G g M, X, A), b) (0, 0) [(0, .ref (L g 0)), (1, .int p1)] 0 []
  refine j_iconst h (v := (-1)) dX1_countShotsInOrder_0 (by decide) ?_
  refine j_istore_n h (lv' := [(2, _), (0, _), (1, _)]) dX1_countShotsInOrder_1 rfl (by decide) rfl ?_
  refine j_iconst h (v := 0) dX1_countShotsInOrder_2 (by decide) ?_
  refine j_istore_n h (lv' := [(3, _), (2, _), (0, _), (1, _)]) dX1_countShotsInOrder_3 rfl (by decide) rfl ?_
  refine j_iconst h (v := 0) dX1_countShotsInOrder_4 (by decide) ?_
  refine j_istore h (lv' := [(4, _), (3, _), (2, _), (0, _), (1, _)]) dX1_countShotsInOrder_5 (by decide) rfl ?_
  have lp7 : ∀ (n k : Nat) (win : Int32) (n0 : Int32), n + k = 17 → k ≤ 16 → (∀ z : Int32 × Int32, z = f_X1_countShotsInOrder_l7 M p1 n k win n0 → J ((va_up G g M, X, A), b) (0, 0) [(0, .ref (L g 0)), (1, .int p1), (2, .int z.1), (3, .int z.2)] 88 []) → J ((va_up G g M, X, A), b) (0, 0) [(0, .ref (L g 0)), (1, .int p1), (2, .int win), (3, .int n0), (4, .int (nI k))] 7 [] := by
    intro n
    induction n with
    | zero => intro k win n0 hn hk hf; omega
    | succ n ih =>
      intro k win n0 hn hk hf
      refine j_iload h dX1_countShotsInOrder_7 4 rfl ?_
      refine j_aload_n h dX1_countShotsInOrder_9 rfl 0 rfl ?_
      refine j_get h inlX1 (30 * g + 0) (at_G hg) rfl 4 (by decide) (xr_4 0 rfl) rfl (v := .int (M.1 4)) rfl dX1_countShotsInOrder_10 ?_
      refine j_icmp_ge h (tgt := 88) dX1_countShotsInOrder_13 (by decide) (fun c1 => ?_) (fun c1 => ?_)
      · refine j_sub h [0, 1, 2, 3] rfl ?_
        exact hf (_, _) (Eq.symm ((ite_p c1 rfl)))
      · have hk1 : k < 16 := cnt_lt (by decide) hk hW16 c1
        refine j_aload_n h dX1_countShotsInOrder_16 rfl 0 rfl ?_
        refine j_iload_n h dX1_countShotsInOrder_17 rfl 1 rfl ?_
        refine j_iload h dX1_countShotsInOrder_18 4 rfl ?_
        refine j_callI h (n := 2) (c_X1_woodInOrder l D cy L _ _ _ _ _ hg _ _ hW16) (xg_V (xr_40 14 rfl) (xr_37 1 rfl) (xr_37 2 rfl) (xr_1 18 rfl) (xr_37 3 rfl)) rfl rfl (by decide +kernel) ⟨Nat.le_of_ble_eq_true rfl, Nat.le_of_ble_eq_true rfl⟩ (30 * g + 0) (at_G hg) rfl rfl rfl rfl (Nat.le_of_ble_eq_true rfl) dX1_countShotsInOrder_20 ⟨by decide, by decide⟩ (fun z2 u' hq => ?_)
        obtain ⟨hz2, rfl⟩ := hq
        refine j_istore h (lv' := [(5, _), (0, _), (1, _), (2, _), (3, _), (4, _)]) dX1_countShotsInOrder_23 (by decide) rfl ?_
        refine j_aload_n h dX1_countShotsInOrder_25 rfl 1 rfl ?_
        refine j_iload h dX1_countShotsInOrder_26 0 rfl ?_
        refine j_callI h (n := 1) (c_X1_isWood l D cy L _ _ _ _ _ hg _) (xg_V (xr_40 15 rfl) (xr_23 2 rfl) (xr_23 3 rfl) (xr_1 18 rfl) (xr_23 4 rfl)) rfl rfl (by decide +kernel) ⟨Nat.le_of_ble_eq_true rfl, Nat.le_of_ble_eq_true rfl⟩ (30 * g + 0) (at_G hg) rfl rfl rfl rfl (Nat.le_of_ble_eq_true rfl) dX1_countShotsInOrder_28 ⟨by decide, by decide⟩ (fun z3 u' hq => ?_)
        obtain ⟨hz3, rfl, bz3⟩ := hq
        refine j_if_ne h (tgt := 37) dX1_countShotsInOrder_31 (by decide) (fun c4 => ?_) (fun c4 => ?_)
        · have vn : vp_in z2 16 := isWood_in hW16 hz3 c4
          have bn : z2.toNatClampNeg < 16 := vp_lt vn
          have en : z2 = nI z2.toNatClampNeg := vp_nI vn (by decide)
          refine j_aload_n h dX1_countShotsInOrder_37 rfl 1 rfl ?_
          refine j_get h inlX1 (30 * g + 0) (at_G hg) rfl 1 (by decide) (xr_3 1 rfl) rfl (v := .ref (L g 2)) rfl dX1_countShotsInOrder_38 ?_
          refine j_iload h dX1_countShotsInOrder_41 0 rfl ?_
          refine j_aaldE h (30 * g + 2) 2 (at_Wa hg) rfl z2.toNatClampNeg en (by omega) (by decide) dX1_countShotsInOrder_43 ?_
          refine j_astore h (lv' := [(6, _), (5, _), (0, _), (1, _), (2, _), (3, _), (4, _)]) dX1_countShotsInOrder_44 (by decide) rfl ?_
          refine j_iload h dX1_countShotsInOrder_46 6 rfl ?_
          refine j_if_ne h (tgt := 57) dX1_countShotsInOrder_48 (by decide) (fun c5 => ?_) (fun c5 => ?_)
          · refine j_aload h dX1_countShotsInOrder_57 0 rfl ?_
            refine j_get h inlX6 (30 * g + (12 + z2.toNatClampNeg)) (at_W hg (by omega)) rfl 0 (by decide) (xr_12 4 rfl) rfl (v := .int (M.2.2.1 z2.toNatClampNeg 0)) rfl dX1_countShotsInOrder_59 ?_
            refine j_iload_n h dX1_countShotsInOrder_62 rfl 4 rfl ?_
            refine j_icmp_ne h (tgt := 88) dX1_countShotsInOrder_63 (by decide) (fun c6 => ?_) (fun c6 => ?_)
            · refine j_sub h [2, 3, 4, 5] rfl ?_
              exact hf (_, _) (Eq.symm ((ite_n c1 (bd_eq hz2 (bd_eq hz3 (ite_n c4 (ite_n c5 (ite_n c6 rfl))))))))
            · refine j_aload_n h dX1_countShotsInOrder_66 rfl 2 rfl ?_
              refine j_iload_n h dX1_countShotsInOrder_67 rfl 3 rfl ?_
              refine j_aload h dX1_countShotsInOrder_68 0 rfl ?_
              refine j_callI h (n := 2) (c_X1_isMatched l D cy L _ _ _ _ _ hg _ (by omega) hW16) (xg_V (xr_40 16 rfl) (xr_40 17 rfl) (xr_40 18 rfl) (xr_1 18 rfl) (xr_40 19 rfl)) rfl rfl (by decide +kernel) ⟨Nat.le_of_ble_eq_true rfl, Nat.le_of_ble_eq_true rfl⟩ (30 * g + 0) (at_G hg) rfl rfl rfl rfl (Nat.le_of_ble_eq_true rfl) dX1_countShotsInOrder_70 ⟨by decide, by decide⟩ (fun z7 u' hq => ?_)
              obtain ⟨hz7, rfl, bz7⟩ := hq
              refine j_if_eq h (tgt := 79) dX1_countShotsInOrder_73 (by decide) (fun c8 => ?_) (fun c8 => ?_)
              · refine j_iinc h (v := n0 + 1) (lv' := [(3, _), (6, _), (5, _), (0, _), (1, _), (2, _), (4, _)]) dX1_countShotsInOrder_79 (k := 5) rfl rfl (by decide) rfl ?_
                refine j_iinc h (v := nI (k + 1)) (lv' := [(4, _), (3, _), (6, _), (5, _), (0, _), (1, _), (2, _)]) dX1_countShotsInOrder_82 (k := 6) rfl (nI_1 k) (by decide) rfl ?_
                refine j_goto h (tgt := 7) dX1_countShotsInOrder_85 (by decide) ?_
                refine j_sub h [4, 5, 6, 1, 0] rfl ?_
                exact ih (k + 1) _ _ (by omega) (by omega) (fun z hz => hf z (hz.trans (Eq.symm ((ite_n c1 (bd_eq hz2 (bd_eq hz3 (ite_n c4 (ite_n c5 (ite_p c6 (bd_eq hz7 (ite_p c8 rfl))))))))))))
              · refine j_goto h (tgt := 88) dX1_countShotsInOrder_76 (by decide) ?_
                refine j_sub h [2, 3, 4, 5] rfl ?_
                exact hf (_, _) (Eq.symm ((ite_n c1 (bd_eq hz2 (bd_eq hz3 (ite_n c4 (ite_n c5 (ite_p c6 (bd_eq hz7 (ite_n c8 rfl))))))))))
          · refine j_aload h dX1_countShotsInOrder_51 0 rfl ?_
            refine j_get h inlX6 (30 * g + (12 + z2.toNatClampNeg)) (at_W hg (by omega)) rfl 0 (by decide) (xr_12 4 rfl) rfl (v := .int (M.2.2.1 z2.toNatClampNeg 0)) rfl dX1_countShotsInOrder_53 ?_
            refine j_istore_n h (lv' := [(2, _), (6, _), (5, _), (0, _), (1, _), (3, _), (4, _)]) dX1_countShotsInOrder_56 rfl (by decide) rfl ?_
            refine j_aload h dX1_countShotsInOrder_57 1 rfl ?_
            refine j_get h inlX6 (30 * g + (12 + z2.toNatClampNeg)) (at_W hg (by omega)) rfl 0 (by decide) (xr_12 4 rfl) rfl (v := .int (M.2.2.1 z2.toNatClampNeg 0)) rfl dX1_countShotsInOrder_59 ?_
            refine j_iload_n h dX1_countShotsInOrder_62 rfl 0 rfl ?_
            refine j_icmp_ne h (tgt := 88) dX1_countShotsInOrder_63 (by decide) (fun c9 => ?_) (fun c9 => ?_)
            · refine j_sub h [3, 4, 0, 5] rfl ?_
              exact hf (_, _) (Eq.symm ((ite_n c1 (bd_eq hz2 (bd_eq hz3 (ite_n c4 (ite_p c5 (ite_n c9 rfl))))))))
            · refine j_aload_n h dX1_countShotsInOrder_66 rfl 3 rfl ?_
              refine j_iload_n h dX1_countShotsInOrder_67 rfl 4 rfl ?_
              refine j_aload h dX1_countShotsInOrder_68 1 rfl ?_
              refine j_callI h (n := 2) (c_X1_isMatched l D cy L _ _ _ _ _ hg _ (by omega) hW16) (xg_V (xr_40 16 rfl) (xr_40 17 rfl) (xr_40 18 rfl) (xr_1 18 rfl) (xr_40 19 rfl)) rfl rfl (by decide +kernel) ⟨Nat.le_of_ble_eq_true rfl, Nat.le_of_ble_eq_true rfl⟩ (30 * g + 0) (at_G hg) rfl rfl rfl rfl (Nat.le_of_ble_eq_true rfl) dX1_countShotsInOrder_70 ⟨by decide, by decide⟩ (fun z10 u' hq => ?_)
              obtain ⟨hz10, rfl, bz10⟩ := hq
              refine j_if_eq h (tgt := 79) dX1_countShotsInOrder_73 (by decide) (fun c11 => ?_) (fun c11 => ?_)
              · refine j_iinc h (v := n0 + 1) (lv' := [(3, _), (2, _), (6, _), (5, _), (0, _), (1, _), (4, _)]) dX1_countShotsInOrder_79 (k := 5) rfl rfl (by decide) rfl ?_
                refine j_iinc h (v := nI (k + 1)) (lv' := [(4, _), (3, _), (2, _), (6, _), (5, _), (0, _), (1, _)]) dX1_countShotsInOrder_82 (k := 6) rfl (nI_1 k) (by decide) rfl ?_
                refine j_goto h (tgt := 7) dX1_countShotsInOrder_85 (by decide) ?_
                refine j_sub h [5, 6, 2, 1, 0] rfl ?_
                exact ih (k + 1) _ _ (by omega) (by omega) (fun z hz => hf z (hz.trans (Eq.symm ((ite_n c1 (bd_eq hz2 (bd_eq hz3 (ite_n c4 (ite_p c5 (ite_p c9 (bd_eq hz10 (ite_p c11 rfl))))))))))))
              · refine j_goto h (tgt := 88) dX1_countShotsInOrder_76 (by decide) ?_
                refine j_sub h [3, 4, 0, 5] rfl ?_
                exact hf (_, _) (Eq.symm ((ite_n c1 (bd_eq hz2 (bd_eq hz3 (ite_n c4 (ite_p c5 (ite_p c9 (bd_eq hz10 (ite_n c11 rfl))))))))))
        · refine j_goto h (tgt := 88) dX1_countShotsInOrder_34 (by decide) ?_
          refine j_sub h [1, 2, 3, 4] rfl ?_
          exact hf (_, _) (Eq.symm ((ite_n c1 (bd_eq hz2 (bd_eq hz3 (ite_p c4 rfl))))))
  refine j_sub h [3, 4, 2, 1, 0] rfl ?_
  refine lp7 17 0 _ _ (by omega) (by omega) (fun z12 hz12 => ?_)
  refine j_iload_n h dX1_countShotsInOrder_88 rfl 3 rfl ?_
  refine j_if_le h (tgt := 104) dX1_countShotsInOrder_89 (by decide) (fun c13 => ?_) (fun c13 => ?_)
  · refine j_iload_n h dX1_countShotsInOrder_104 rfl 3 rfl ?_
    exact hR _ _ _ _ dX1_countShotsInOrder_105 ⟨Eq.symm ((bd_eq hz12 (ite_p c13 rfl))), rfl⟩
  · refine j_iload_n h dX1_countShotsInOrder_92 rfl 2 rfl ?_
    refine j_iconst h (v := 1) dX1_countShotsInOrder_93 (by decide) ?_
    refine j_icmp_ne h (tgt := 104) dX1_countShotsInOrder_94 (by decide) (fun c14 => ?_) (fun c14 => ?_)
    · refine j_iload_n h dX1_countShotsInOrder_104 rfl 3 rfl ?_
      exact hR _ _ _ _ dX1_countShotsInOrder_105 ⟨Eq.symm ((bd_eq hz12 (ite_n c13 (ite_n c14 rfl)))), rfl⟩
    · refine j_bipush h (v := 10) dX1_countShotsInOrder_97 (by decide) ?_
      refine j_iload_n h dX1_countShotsInOrder_99 rfl 3 rfl ?_
      refine j_iadd h dX1_countShotsInOrder_100 ?_
      refine j_goto h (tgt := 105) dX1_countShotsInOrder_101 (by decide) ?_
      exact hR _ _ _ _ dX1_countShotsInOrder_105 ⟨Eq.symm ((bd_eq hz12 (ite_n c13 (ite_p c14 rfl)))), rfl⟩

def f_X1_bringWoodsToShed_l2 (p1 : Int32) : Nat → Nat → gM → gM
  | 0, _, Mk => Mk
  | n + 1, k, Mk =>
    if (Mk.1 4) ≤ (nI k) then
      Mk
    else
      if (Mk.2.2.1 k 3) = p1 then
        f_X1_bringWoodsToShed_l2 p1 n (k + 1) (sw Mk k 2 0)
      else
        f_X1_bringWoodsToShed_l2 p1 n (k + 1) Mk
def f_X1_bringWoodsToShed (M : gM) (p1 : Int32) : gM :=
  bd (f_X1_bringWoodsToShed_l2 p1 17 0 M) fun z3 =>
  z3
abbrev rm_X1_bringWoodsToShed : Room := { frames := 0, cells := 0, slots := 0, locals := 0 }
set_option maxRecDepth 100000 in
set_option maxHeartbeats 4000000 in
theorem c_X1_bringWoodsToShed (l : Launch) (D : gD) (cy : Nat → ClassId) (L : Nat → Nat → Nat) (G : Nat → gM) (X : Nat → Int32) (A : Nat → Nat → Int32) (b : cB) (M : gM) {g : Nat} (hg : g < 11) (p1 : Int32) (hW16 : M.1 4 ≤ nI 16) : CtV l D cy (CW cy L) yX1_bringWoodsToShed cX1_bringWoodsToShed 3 none rm_X1_bringWoodsToShed [.ref (L g 0), .int p1] ((va_up G g M, X, A), b) (fun u => ∃ z : gM, z = f_X1_bringWoodsToShed M p1 ∧ u = ((va_up G g z, X, A), b)) 0 0 := by
  refine m_entV cX1_bringWoodsToShed 3 (by decide) (Nat.le_of_ble_eq_true rfl) (fun J h hR => ?_)
  show J ((va_up G g M, X, A), b) (0, 0) [(0, .ref (L g 0)), (1, .int p1)] 0 []
  refine j_iconst h (v := 0) dX1_bringWoodsToShed_0 (by decide) ?_
  refine j_istore_n h (lv' := [(2, _), (0, _), (1, _)]) dX1_bringWoodsToShed_1 rfl (by decide) rfl ?_
  have lp2 : ∀ (n k : Nat) (Mk : gM), n + k = 17 → k ≤ 16 → Mk.1 4 ≤ nI 16 → (∀ z : gM, z = f_X1_bringWoodsToShed_l2 p1 n k Mk → J ((va_up G g z, X, A), b) (0, 0) [(0, .ref (L g 0)), (1, .int p1)] 39 []) → J ((va_up G g Mk, X, A), b) (0, 0) [(0, .ref (L g 0)), (1, .int p1), (2, .int (nI k))] 2 [] := by
    intro n
    induction n with
    | zero => intro k Mk hn hk hMk hf; omega
    | succ n ih =>
      intro k Mk hn hk hMk hf
      refine j_iload_n h dX1_bringWoodsToShed_2 rfl 2 rfl ?_
      refine j_aload_n h dX1_bringWoodsToShed_3 rfl 0 rfl ?_
      refine j_get h inlX1 (30 * g + 0) (at_G hg) rfl 4 (by decide) (xr_4 0 rfl) rfl (v := .int (Mk.1 4)) rfl dX1_bringWoodsToShed_4 ?_
      refine j_icmp_ge h (tgt := 39) dX1_bringWoodsToShed_7 (by decide) (fun c1 => ?_) (fun c1 => ?_)
      · refine j_sub h [0, 1] rfl ?_
        exact hf _ (Eq.symm ((ite_p c1 rfl)))
      · have hk1 : k < 16 := cnt_lt (by decide) hk hMk c1
        refine j_aload_n h dX1_bringWoodsToShed_10 rfl 0 rfl ?_
        refine j_get h inlX1 (30 * g + 0) (at_G hg) rfl 1 (by decide) (xr_3 1 rfl) rfl (v := .ref (L g 2)) rfl dX1_bringWoodsToShed_11 ?_
        refine j_iload_n h dX1_bringWoodsToShed_14 rfl 2 rfl ?_
        refine j_aaldE h (30 * g + 2) 2 (at_Wa hg) rfl k rfl (by omega) (by decide) dX1_bringWoodsToShed_15 ?_
        refine j_get h inlX6 (30 * g + (12 + k)) (at_W hg (by omega)) rfl 3 (by decide) (xr_25 21 rfl) rfl (v := .int (Mk.2.2.1 k 3)) rfl dX1_bringWoodsToShed_16 ?_
        refine j_iload_n h dX1_bringWoodsToShed_19 rfl 1 rfl ?_
        refine j_icmp_ne h (tgt := 33) dX1_bringWoodsToShed_20 (by decide) (fun c2 => ?_) (fun c2 => ?_)
        · refine j_iinc h (v := nI (k + 1)) (lv' := [(2, _), (0, _), (1, _)]) dX1_bringWoodsToShed_33 (k := 2) rfl (nI_1 k) (by decide) rfl ?_
          refine j_goto h (tgt := 2) dX1_bringWoodsToShed_36 (by decide) ?_
          refine j_sub h [1, 2, 0] rfl ?_
          exact ih (k + 1) _ (by omega) (by omega) hMk (fun z hz => hf z (hz.trans (Eq.symm ((ite_n c1 (ite_n c2 rfl))))))
        · refine j_aload_n h dX1_bringWoodsToShed_23 rfl 0 rfl ?_
          refine j_get h inlX1 (30 * g + 0) (at_G hg) rfl 1 (by decide) (xr_3 1 rfl) rfl (v := .ref (L g 2)) rfl dX1_bringWoodsToShed_24 ?_
          refine j_iload_n h dX1_bringWoodsToShed_27 rfl 2 rfl ?_
          refine j_aaldE h (30 * g + 2) 2 (at_Wa hg) rfl k rfl (by omega) (by decide) dX1_bringWoodsToShed_28 ?_
          refine j_iconst h (v := 0) dX1_bringWoodsToShed_29 (by decide) ?_
          refine j_put h inlX6 tyX6 tyX6_ok nmX6 (30 * g + (12 + k)) (at_W hg (by omega)) rfl 2 (by decide) (xr_12 5 rfl) rfl rfl rfl rfl (Nat.le_of_ble_eq_true rfl) dX1_bringWoodsToShed_30 (to_W hg (by omega) (by decide)) ?_
          refine j_iinc h (v := nI (k + 1)) (lv' := [(2, _), (0, _), (1, _)]) dX1_bringWoodsToShed_33 (k := 2) rfl (nI_1 k) (by decide) rfl ?_
          refine j_goto h (tgt := 2) dX1_bringWoodsToShed_36 (by decide) ?_
          refine j_sub h [1, 2, 0] rfl ?_
          exact ih (k + 1) _ (by omega) (by omega) hMk (fun z hz => hf z (hz.trans (Eq.symm ((ite_n c1 (ite_p c2 rfl))))))
  refine j_sub h [1, 2, 0] rfl ?_
  refine lp2 17 0 _ (by omega) (by omega) hW16 (fun z3 hz3 => ?_)
  exact hR _ _ _ dX1_bringWoodsToShed_39 ⟨_, Eq.symm ((bd_eq hz3 rfl)), rfl⟩

def f_X1_passHour_l2  : Nat → Nat → gM → gM
  | 0, _, Mk => Mk
  | n + 1, k, Mk =>
    if (Mk.1 3) ≤ (nI k) then
      Mk
    else
      bd (f_X1_wetAfter Mk (Mk.2.1 k 2)) fun z2 =>
      bd (f_X5_castsAfter (sr Mk k 2 z2) k ((sr Mk k 2 z2).2.1 k 3) ((sr Mk k 2 z2).2.1 k 2)) fun z3 =>
      f_X1_passHour_l2 n (k + 1) (sr (sr Mk k 2 z2) k 3 z3)
def f_X1_passHour (M : gM) : gM :=
  bd (f_X1_passHour_l2 5 0 M) fun z4 =>
  (sg z4 5 ((z4.1 5) + 1))
abbrev rm_X1_passHour : Room := { frames := 2, cells := 0, slots := 0, locals := 43 }
set_option maxRecDepth 100000 in
set_option maxHeartbeats 4000000 in
theorem c_X1_passHour (l : Launch) (D : gD) (cy : Nat → ClassId) (L : Nat → Nat → Nat) (G : Nat → gM) (X : Nat → Int32) (A : Nat → Nat → Int32) (b : cB) (M : gM) {g : Nat} (hg : g < 11) (hR4 : M.1 3 ≤ nI 4) : CtV l D cy (CW cy L) yX1_passHour cX1_passHour 3 none rm_X1_passHour [.ref (L g 0)] ((va_up G g M, X, A), b) (fun u => ∃ z : gM, z = f_X1_passHour M ∧ u = ((va_up G g z, X, A), b)) 0 0 := by
  refine m_entV cX1_passHour 3 (by decide) (Nat.le_of_ble_eq_true rfl) (fun J h hR => ?_)
  show J ((va_up G g M, X, A), b) (0, 0) [(0, .ref (L g 0))] 0 []
  refine j_iconst h (v := 0) dX1_passHour_0 (by decide) ?_
  refine j_istore_n h (lv' := [(1, _), (0, _)]) dX1_passHour_1 rfl (by decide) rfl ?_
  have lp2 : ∀ (n k : Nat) (Mk : gM), n + k = 5 → k ≤ 4 → Mk.1 3 ≤ nI 4 → (∀ z : gM, z = f_X1_passHour_l2 n k Mk → J ((va_up G g z, X, A), b) (0, 0) [(0, .ref (L g 0))] 51 []) → J ((va_up G g Mk, X, A), b) (0, 0) [(0, .ref (L g 0)), (1, .int (nI k))] 2 [] := by
    intro n
    induction n with
    | zero => intro k Mk hn hk hMk hf; omega
    | succ n ih =>
      intro k Mk hn hk hMk hf
      refine j_iload_n h dX1_passHour_2 rfl 1 rfl ?_
      refine j_aload_n h dX1_passHour_3 rfl 0 rfl ?_
      refine j_get h inlX1 (30 * g + 0) (at_G hg) rfl 3 (by decide) (xr_3 23 rfl) rfl (v := .int (Mk.1 3)) rfl dX1_passHour_4 ?_
      refine j_icmp_ge h (tgt := 51) dX1_passHour_7 (by decide) (fun c1 => ?_) (fun c1 => ?_)
      · refine j_sub h [0] rfl ?_
        exact hf _ (Eq.symm ((ite_p c1 rfl)))
      · have hk1 : k < 4 := cnt_lt (by decide) hk hMk c1
        refine j_aload_n h dX1_passHour_10 rfl 0 rfl ?_
        refine j_get h inlX1 (30 * g + 0) (at_G hg) rfl 0 (by decide) (xr_2 21 rfl) rfl (v := .ref (L g 1)) rfl dX1_passHour_11 ?_
        refine j_iload_n h dX1_passHour_14 rfl 1 rfl ?_
        refine j_aaldE h (30 * g + 1) 1 (at_Ra hg) rfl k rfl (by omega) (by decide) dX1_passHour_15 ?_
        refine j_astore_n h (lv' := [(2, _), (0, _), (1, _)]) dX1_passHour_16 rfl (by decide) rfl ?_
        refine j_aload_n h dX1_passHour_17 rfl 0 rfl ?_
        refine j_aload_n h dX1_passHour_18 rfl 1 rfl ?_
        refine j_aload_n h dX1_passHour_19 rfl 0 rfl ?_
        refine j_get h inlX5 (30 * g + (4 + k)) (at_R hg (by omega)) rfl 2 (by decide) (xr_9 7 rfl) rfl (v := .int (Mk.2.1 k 2)) rfl dX1_passHour_20 ?_
        refine j_callI h (n := 1) (c_X1_wetAfter l D cy L _ _ _ _ _ hg _) (xg_V (xr_9 9 rfl) (xr_9 10 rfl) (xr_9 11 rfl) (xr_1 18 rfl) (xr_9 12 rfl)) rfl rfl (by decide +kernel) ⟨Nat.le_of_ble_eq_true rfl, Nat.le_of_ble_eq_true rfl⟩ (30 * g + 0) (at_G hg) rfl rfl rfl rfl (Nat.le_of_ble_eq_true rfl) dX1_passHour_23 ⟨by decide, by decide⟩ (fun z2 u' hq => ?_)
        obtain ⟨hz2, rfl⟩ := hq
        refine j_put h inlX5 tyX5 tyX5_ok nmX5 (30 * g + (4 + k)) (at_R hg (by omega)) rfl 2 (by decide) (xr_9 7 rfl) rfl rfl rfl rfl (Nat.le_of_ble_eq_true rfl) dX1_passHour_26 (to_R hg (by omega) (by decide)) ?_
        refine j_aload_n h dX1_passHour_29 rfl 0 rfl ?_
        refine j_aload_n h dX1_passHour_30 rfl 0 rfl ?_
        refine j_aload_n h dX1_passHour_31 rfl 0 rfl ?_
        refine j_get h inlX5 (30 * g + (4 + k)) (at_R hg (by omega)) rfl 3 (by decide) (xr_9 8 rfl) rfl (v := .int ((sr Mk k 2 z2).2.1 k 3)) rfl dX1_passHour_32 ?_
        refine j_aload_n h dX1_passHour_35 rfl 0 rfl ?_
        refine j_get h inlX5 (30 * g + (4 + k)) (at_R hg (by omega)) rfl 2 (by decide) (xr_9 7 rfl) rfl (v := .int ((sr Mk k 2 z2).2.1 k 2)) rfl dX1_passHour_36 ?_
        refine j_callI h (n := 2) (c_X5_castsAfter l D cy L _ _ _ _ _ hg (by omega) _ _) (xg_V (xr_9 17 rfl) (xr_9 18 rfl) (xr_9 19 rfl) (xr_2 23 rfl) (xr_9 20 rfl)) rfl rfl (by decide +kernel) ⟨Nat.le_of_ble_eq_true rfl, Nat.le_of_ble_eq_true rfl⟩ (30 * g + (4 + k)) (at_R hg (by omega)) rfl rfl rfl rfl (Nat.le_of_ble_eq_true rfl) dX1_passHour_39 ⟨by decide, by decide⟩ (fun z3 u' hq => ?_)
        obtain ⟨hz3, rfl⟩ := hq
        refine j_put h inlX5 tyX5 tyX5_ok nmX5 (30 * g + (4 + k)) (at_R hg (by omega)) rfl 3 (by decide) (xr_9 8 rfl) rfl rfl rfl rfl (Nat.le_of_ble_eq_true rfl) dX1_passHour_42 (to_R hg (by omega) (by decide)) ?_
        refine j_iinc h (v := nI (k + 1)) (lv' := [(1, _), (2, _), (0, _)]) dX1_passHour_45 (k := 2) rfl (nI_1 k) (by decide) rfl ?_
        refine j_goto h (tgt := 2) dX1_passHour_48 (by decide) ?_
        refine j_sub h [2, 0] rfl ?_
        exact ih (k + 1) _ (by omega) (by omega) hMk (fun z hz => hf z (hz.trans (Eq.symm ((ite_n c1 (bd_eq hz2 (bd_eq hz3 rfl)))))))
  refine j_sub h [1, 0] rfl ?_
  refine lp2 5 0 _ (by omega) (by omega) hR4 (fun z4 hz4 => ?_)
  refine j_aload_n h dX1_passHour_51 rfl 0 rfl ?_
  refine j_dup h dX1_passHour_52 rfl ?_
  refine j_get h inlX1 (30 * g + 0) (at_G hg) rfl 5 (by decide) (xr_4 1 rfl) rfl (v := .int (z4.1 5)) rfl dX1_passHour_53 ?_
  refine j_iconst h (v := 1) dX1_passHour_56 (by decide) ?_
  refine j_iadd h dX1_passHour_57 ?_
  refine j_put h inlX1 tyX1 tyX1_ok nmX1 (30 * g + 0) (at_G hg) rfl 5 (by decide) (xr_4 1 rfl) rfl rfl rfl rfl (Nat.le_of_ble_eq_true rfl) dX1_passHour_58 (to_G hg (by decide) (by decide)) ?_
  exact hR _ _ _ dX1_passHour_61 ⟨_, Eq.symm ((bd_eq hz4 rfl)), rfl⟩

def f_X1_wetAhead_l13 (M : gM) (p1 : Int32) (p2 : Int32) : Nat → Nat → Int32 → Int32
  | 0, _, wet => wet
  | n + 1, k, wet =>
    if p2 ≤ (nI k) then
      wet
    else
      bd (f_X1_wetAfter M wet) fun z2 =>
      f_X1_wetAhead_l13 M p1 p2 n (k + 1) z2
def f_X1_wetAhead (M : gM) (p1 : Int32) (p2 : Int32) : Int32 :=
  bd (f_X1_wetAhead_l13 M p1 p2 41 0 (M.2.1 p1.toNatClampNeg 2)) fun z3 =>
  z3
abbrev rm_X1_wetAhead : Room := { frames := 2, cells := 0, slots := 0, locals := 42 }
set_option maxRecDepth 100000 in
set_option maxHeartbeats 4000000 in
theorem c_X1_wetAhead (l : Launch) (D : gD) (cy : Nat → ClassId) (L : Nat → Nat → Nat) (G : Nat → gM) (X : Nat → Int32) (A : Nat → Nat → Int32) (b : cB) (M : gM) {g : Nat} (hg : g < 11) (p1 : Int32) (p2 : Int32) (v1 : vp_in p1 4) (hh : p2 ≤ nI 40) : CtI l D cy (CW cy L) yX1_wetAhead cX1_wetAhead 5 (some .int) rm_X1_wetAhead [.ref (L g 0), .int p1, .int p2] ((va_up G g M, X, A), b) (fun rv u => rv = f_X1_wetAhead M p1 p2 ∧ u = ((va_up G g M, X, A), b)) 0 0 := by
  refine m_entI cX1_wetAhead 5 (by decide) (Nat.le_of_ble_eq_true rfl) (fun J h hR => ?_)
  show J ((va_up G g M, X, A), b) (0, 0) [(0, .ref (L g 0)), (1, .int p1), (2, .int p2)] 0 []
  have b1 : p1.toNatClampNeg < 4 := vp_lt v1
  have e1 : p1 = nI p1.toNatClampNeg := vp_nI v1 (by decide)
  refine j_aload_n h dX1_wetAhead_0 rfl 0 rfl ?_
  refine j_get h inlX1 (30 * g + 0) (at_G hg) rfl 0 (by decide) (xr_2 21 rfl) rfl (v := .ref (L g 1)) rfl dX1_wetAhead_1 ?_
  refine j_iload_n h dX1_wetAhead_4 rfl 1 rfl ?_
  refine j_aaldE h (30 * g + 1) 1 (at_Ra hg) rfl p1.toNatClampNeg e1 (by omega) (by decide) dX1_wetAhead_5 ?_
  refine j_get h inlX5 (30 * g + (4 + p1.toNatClampNeg)) (at_R hg (by omega)) rfl 2 (by decide) (xr_9 7 rfl) rfl (v := .int (M.2.1 p1.toNatClampNeg 2)) rfl dX1_wetAhead_6 ?_
  refine j_istore_n h (lv' := [(3, _), (0, _), (1, _), (2, _)]) dX1_wetAhead_9 rfl (by decide) rfl ?_
  refine j_iconst h (v := 0) dX1_wetAhead_10 (by decide) ?_
  refine j_istore h (lv' := [(4, _), (3, _), (0, _), (1, _), (2, _)]) dX1_wetAhead_11 (by decide) rfl ?_
  have lp13 : ∀ (n k : Nat) (wet : Int32), n + k = 41 → k ≤ 40 → (∀ z : Int32, z = f_X1_wetAhead_l13 M p1 p2 n k wet → J ((va_up G g M, X, A), b) (0, 0) [(0, .ref (L g 0)), (1, .int p1), (2, .int p2), (3, .int z)] 31 []) → J ((va_up G g M, X, A), b) (0, 0) [(0, .ref (L g 0)), (1, .int p1), (2, .int p2), (3, .int wet), (4, .int (nI k))] 13 [] := by
    intro n
    induction n with
    | zero => intro k wet hn hk hf; omega
    | succ n ih =>
      intro k wet hn hk hf
      refine j_iload h dX1_wetAhead_13 4 rfl ?_
      refine j_iload_n h dX1_wetAhead_15 rfl 2 rfl ?_
      refine j_icmp_ge h (tgt := 31) dX1_wetAhead_16 (by decide) (fun c1 => ?_) (fun c1 => ?_)
      · refine j_sub h [0, 1, 2, 3] rfl ?_
        exact hf _ (Eq.symm ((ite_p c1 rfl)))
      · have hk1 : k < 40 := cnt_lt (by decide) hk hh c1
        refine j_aload_n h dX1_wetAhead_19 rfl 0 rfl ?_
        refine j_iload_n h dX1_wetAhead_20 rfl 3 rfl ?_
        refine j_callI h (n := 1) (c_X1_wetAfter l D cy L _ _ _ _ _ hg _) (xg_V (xr_9 9 rfl) (xr_9 10 rfl) (xr_9 11 rfl) (xr_1 18 rfl) (xr_9 12 rfl)) rfl rfl (by decide +kernel) ⟨Nat.le_of_ble_eq_true rfl, Nat.le_of_ble_eq_true rfl⟩ (30 * g + 0) (at_G hg) rfl rfl rfl rfl (Nat.le_of_ble_eq_true rfl) dX1_wetAhead_21 ⟨by decide, by decide⟩ (fun z2 u' hq => ?_)
        obtain ⟨hz2, rfl⟩ := hq
        refine j_istore_n h (lv' := [(3, _), (0, _), (1, _), (2, _), (4, _)]) dX1_wetAhead_24 rfl (by decide) rfl ?_
        refine j_iinc h (v := nI (k + 1)) (lv' := [(4, _), (3, _), (0, _), (1, _), (2, _)]) dX1_wetAhead_25 (k := 4) rfl (nI_1 k) (by decide) rfl ?_
        refine j_goto h (tgt := 13) dX1_wetAhead_28 (by decide) ?_
        refine j_sub h [2, 3, 4, 1, 0] rfl ?_
        exact ih (k + 1) _ (by omega) (by omega) (fun z hz => hf z (hz.trans (Eq.symm ((ite_n c1 (bd_eq hz2 rfl))))))
  refine j_sub h [2, 3, 4, 1, 0] rfl ?_
  refine lp13 41 0 _ (by omega) (by omega) (fun z3 hz3 => ?_)
  refine j_iload_n h dX1_wetAhead_31 rfl 3 rfl ?_
  exact hR _ _ _ _ dX1_wetAhead_32 ⟨Eq.symm ((bd_eq hz3 rfl)), rfl⟩

def f_X1_castsAhead_l24 (M : gM) (p1 : Int32) (p2 : Int32) : Nat → Nat → Int32 → Int32 → Int32 × Int32
  | 0, _, wet, casts => (wet, casts)
  | n + 1, k, wet, casts =>
    if p2 ≤ (nI k) then
      (wet, casts)
    else
      bd (f_X1_wetAfter M wet) fun z2 =>
      bd (f_X5_castsAfter M p1.toNatClampNeg casts z2) fun z3 =>
      f_X1_castsAhead_l24 M p1 p2 n (k + 1) z2 z3
def f_X1_castsAhead (M : gM) (p1 : Int32) (p2 : Int32) : Int32 :=
  bd (f_X1_castsAhead_l24 M p1 p2 41 0 (M.2.1 p1.toNatClampNeg 2) (M.2.1 p1.toNatClampNeg 3)) fun z4 =>
  z4.2
abbrev rm_X1_castsAhead : Room := { frames := 2, cells := 0, slots := 0, locals := 43 }
set_option maxRecDepth 100000 in
set_option maxHeartbeats 4000000 in
theorem c_X1_castsAhead (l : Launch) (D : gD) (cy : Nat → ClassId) (L : Nat → Nat → Nat) (G : Nat → gM) (X : Nat → Int32) (A : Nat → Nat → Int32) (b : cB) (M : gM) {g : Nat} (hg : g < 11) (p1 : Int32) (p2 : Int32) (v1 : vp_in p1 4) (hh : p2 ≤ nI 40) : CtI l D cy (CW cy L) yX1_castsAhead cX1_castsAhead 6 (some .int) rm_X1_castsAhead [.ref (L g 0), .int p1, .int p2] ((va_up G g M, X, A), b) (fun rv u => rv = f_X1_castsAhead M p1 p2 ∧ u = ((va_up G g M, X, A), b)) 0 0 := by
  refine m_entI cX1_castsAhead 6 (by decide) (Nat.le_of_ble_eq_true rfl) (fun J h hR => ?_)
  show J ((va_up G g M, X, A), b) (0, 0) [(0, .ref (L g 0)), (1, .int p1), (2, .int p2)] 0 []
  have b1 : p1.toNatClampNeg < 4 := vp_lt v1
  have e1 : p1 = nI p1.toNatClampNeg := vp_nI v1 (by decide)
  refine j_aload_n h dX1_castsAhead_0 rfl 0 rfl ?_
  refine j_get h inlX1 (30 * g + 0) (at_G hg) rfl 0 (by decide) (xr_2 21 rfl) rfl (v := .ref (L g 1)) rfl dX1_castsAhead_1 ?_
  refine j_iload_n h dX1_castsAhead_4 rfl 1 rfl ?_
  refine j_aaldE h (30 * g + 1) 1 (at_Ra hg) rfl p1.toNatClampNeg e1 (by omega) (by decide) dX1_castsAhead_5 ?_
  refine j_get h inlX5 (30 * g + (4 + p1.toNatClampNeg)) (at_R hg (by omega)) rfl 2 (by decide) (xr_9 7 rfl) rfl (v := .int (M.2.1 p1.toNatClampNeg 2)) rfl dX1_castsAhead_6 ?_
  refine j_istore_n h (lv' := [(3, _), (0, _), (1, _), (2, _)]) dX1_castsAhead_9 rfl (by decide) rfl ?_
  refine j_aload_n h dX1_castsAhead_10 rfl 1 rfl ?_
  refine j_get h inlX1 (30 * g + 0) (at_G hg) rfl 0 (by decide) (xr_2 21 rfl) rfl (v := .ref (L g 1)) rfl dX1_castsAhead_11 ?_
  refine j_iload_n h dX1_castsAhead_14 rfl 2 rfl ?_
  refine j_aaldE h (30 * g + 1) 1 (at_Ra hg) rfl p1.toNatClampNeg e1 (by omega) (by decide) dX1_castsAhead_15 ?_
  refine j_get h inlX5 (30 * g + (4 + p1.toNatClampNeg)) (at_R hg (by omega)) rfl 3 (by decide) (xr_9 8 rfl) rfl (v := .int (M.2.1 p1.toNatClampNeg 3)) rfl dX1_castsAhead_16 ?_
  refine j_istore h (lv' := [(4, _), (3, _), (0, _), (1, _), (2, _)]) dX1_castsAhead_19 (by decide) rfl ?_
  refine j_iconst h (v := 0) dX1_castsAhead_21 (by decide) ?_
  refine j_istore h (lv' := [(5, _), (4, _), (3, _), (0, _), (1, _), (2, _)]) dX1_castsAhead_22 (by decide) rfl ?_
  have lp24 : ∀ (n k : Nat) (wet : Int32) (casts : Int32), n + k = 41 → k ≤ 40 → (∀ z : Int32 × Int32, z = f_X1_castsAhead_l24 M p1 p2 n k wet casts → J ((va_up G g M, X, A), b) (0, 0) [(0, .ref (L g 0)), (1, .int p1), (2, .int p2), (3, .int z.1), (4, .int z.2)] 56 []) → J ((va_up G g M, X, A), b) (0, 0) [(0, .ref (L g 0)), (1, .int p1), (2, .int p2), (3, .int wet), (4, .int casts), (5, .int (nI k))] 24 [] := by
    intro n
    induction n with
    | zero => intro k wet casts hn hk hf; omega
    | succ n ih =>
      intro k wet casts hn hk hf
      refine j_iload h dX1_castsAhead_24 5 rfl ?_
      refine j_iload_n h dX1_castsAhead_26 rfl 2 rfl ?_
      refine j_icmp_ge h (tgt := 56) dX1_castsAhead_27 (by decide) (fun c1 => ?_) (fun c1 => ?_)
      · refine j_sub h [0, 1, 2, 3, 4] rfl ?_
        exact hf (_, _) (Eq.symm ((ite_p c1 rfl)))
      · have hk1 : k < 40 := cnt_lt (by decide) hk hh c1
        refine j_aload_n h dX1_castsAhead_30 rfl 0 rfl ?_
        refine j_iload_n h dX1_castsAhead_31 rfl 3 rfl ?_
        refine j_callI h (n := 1) (c_X1_wetAfter l D cy L _ _ _ _ _ hg _) (xg_V (xr_9 9 rfl) (xr_9 10 rfl) (xr_9 11 rfl) (xr_1 18 rfl) (xr_9 12 rfl)) rfl rfl (by decide +kernel) ⟨Nat.le_of_ble_eq_true rfl, Nat.le_of_ble_eq_true rfl⟩ (30 * g + 0) (at_G hg) rfl rfl rfl rfl (Nat.le_of_ble_eq_true rfl) dX1_castsAhead_32 ⟨by decide, by decide⟩ (fun z2 u' hq => ?_)
        obtain ⟨hz2, rfl⟩ := hq
        refine j_istore_n h (lv' := [(3, _), (0, _), (1, _), (2, _), (4, _), (5, _)]) dX1_castsAhead_35 rfl (by decide) rfl ?_
        refine j_aload_n h dX1_castsAhead_36 rfl 1 rfl ?_
        refine j_get h inlX1 (30 * g + 0) (at_G hg) rfl 0 (by decide) (xr_2 21 rfl) rfl (v := .ref (L g 1)) rfl dX1_castsAhead_37 ?_
        refine j_iload_n h dX1_castsAhead_40 rfl 2 rfl ?_
        refine j_aaldE h (30 * g + 1) 1 (at_Ra hg) rfl p1.toNatClampNeg e1 (by omega) (by decide) dX1_castsAhead_41 ?_
        refine j_iload h dX1_castsAhead_42 4 rfl ?_
        refine j_iload_n h dX1_castsAhead_44 rfl 0 rfl ?_
        refine j_callI h (n := 2) (c_X5_castsAfter l D cy L _ _ _ _ _ hg (by omega) _ _) (xg_V (xr_9 17 rfl) (xr_9 18 rfl) (xr_9 19 rfl) (xr_2 23 rfl) (xr_9 20 rfl)) rfl rfl (by decide +kernel) ⟨Nat.le_of_ble_eq_true rfl, Nat.le_of_ble_eq_true rfl⟩ (30 * g + (4 + p1.toNatClampNeg)) (at_R hg (by omega)) rfl rfl rfl rfl (Nat.le_of_ble_eq_true rfl) dX1_castsAhead_45 ⟨by decide, by decide⟩ (fun z3 u' hq => ?_)
        obtain ⟨hz3, rfl⟩ := hq
        refine j_istore h (lv' := [(4, _), (3, _), (0, _), (1, _), (2, _), (5, _)]) dX1_castsAhead_48 (by decide) rfl ?_
        refine j_iinc h (v := nI (k + 1)) (lv' := [(5, _), (4, _), (3, _), (0, _), (1, _), (2, _)]) dX1_castsAhead_50 (k := 5) rfl (nI_1 k) (by decide) rfl ?_
        refine j_goto h (tgt := 24) dX1_castsAhead_53 (by decide) ?_
        refine j_sub h [3, 4, 5, 2, 1, 0] rfl ?_
        exact ih (k + 1) _ _ (by omega) (by omega) (fun z hz => hf z (hz.trans (Eq.symm ((ite_n c1 (bd_eq hz2 (bd_eq hz3 rfl)))))))
  refine j_sub h [3, 4, 5, 2, 1, 0] rfl ?_
  refine lp24 41 0 _ _ (by omega) (by omega) (fun z4 hz4 => ?_)
  refine j_iload h dX1_castsAhead_56 4 rfl ?_
  exact hR _ _ _ _ dX1_castsAhead_58 ⟨Eq.symm ((bd_eq hz4 rfl)), rfl⟩

def f_X1_hoursUntilDry_l12 (M : gM) (p1 : Int32) : Nat → Nat → Int32 → Int32
  | 0, _, wet => 0
  | n + 1, k, wet =>
    if 40 < (nI k) then
      (-1)
    else
      if 8 ≤ wet then
        bd (f_X1_wetAfter M wet) fun z3 =>
        f_X1_hoursUntilDry_l12 M p1 n (k + 1) z3
      else
        (nI k)
def f_X1_hoursUntilDry (M : gM) (p1 : Int32) : Int32 :=
  f_X1_hoursUntilDry_l12 M p1 42 0 (M.2.1 p1.toNatClampNeg 2)
abbrev rm_X1_hoursUntilDry : Room := { frames := 2, cells := 0, slots := 0, locals := 42 }
set_option maxRecDepth 100000 in
set_option maxHeartbeats 4000000 in
theorem c_X1_hoursUntilDry (l : Launch) (D : gD) (cy : Nat → ClassId) (L : Nat → Nat → Nat) (G : Nat → gM) (X : Nat → Int32) (A : Nat → Nat → Int32) (b : cB) (M : gM) {g : Nat} (hg : g < 11) (p1 : Int32) (v1 : vp_in p1 4) : CtI l D cy (CW cy L) yX1_hoursUntilDry cX1_hoursUntilDry 4 (some .int) rm_X1_hoursUntilDry [.ref (L g 0), .int p1] ((va_up G g M, X, A), b) (fun rv u => rv = f_X1_hoursUntilDry M p1 ∧ u = ((va_up G g M, X, A), b)) 0 0 := by
  refine m_entI cX1_hoursUntilDry 4 (by decide) (Nat.le_of_ble_eq_true rfl) (fun J h hR => ?_)
  show J ((va_up G g M, X, A), b) (0, 0) [(0, .ref (L g 0)), (1, .int p1)] 0 []
  have b1 : p1.toNatClampNeg < 4 := vp_lt v1
  have e1 : p1 = nI p1.toNatClampNeg := vp_nI v1 (by decide)
  refine j_aload_n h dX1_hoursUntilDry_0 rfl 0 rfl ?_
  refine j_get h inlX1 (30 * g + 0) (at_G hg) rfl 0 (by decide) (xr_2 21 rfl) rfl (v := .ref (L g 1)) rfl dX1_hoursUntilDry_1 ?_
  refine j_iload_n h dX1_hoursUntilDry_4 rfl 1 rfl ?_
  refine j_aaldE h (30 * g + 1) 1 (at_Ra hg) rfl p1.toNatClampNeg e1 (by omega) (by decide) dX1_hoursUntilDry_5 ?_
  refine j_get h inlX5 (30 * g + (4 + p1.toNatClampNeg)) (at_R hg (by omega)) rfl 2 (by decide) (xr_9 7 rfl) rfl (v := .int (M.2.1 p1.toNatClampNeg 2)) rfl dX1_hoursUntilDry_6 ?_
  refine j_istore_n h (lv' := [(2, _), (0, _), (1, _)]) dX1_hoursUntilDry_9 rfl (by decide) rfl ?_
  refine j_iconst h (v := 0) dX1_hoursUntilDry_10 (by decide) ?_
  refine j_istore_n h (lv' := [(3, _), (2, _), (0, _), (1, _)]) dX1_hoursUntilDry_11 rfl (by decide) rfl ?_
  have lp12 : ∀ (n k : Nat) (wet : Int32), n + k = 42 → k ≤ 41 → f_X1_hoursUntilDry M p1 = f_X1_hoursUntilDry_l12 M p1 n k wet → J ((va_up G g M, X, A), b) (0, 0) [(0, .ref (L g 0)), (1, .int p1), (2, .int wet), (3, .int (nI k))] 12 [] := by
    intro n
    induction n with
    | zero => intro k wet hn hk hf; omega
    | succ n ih =>
      intro k wet hn hk hf
      refine j_iload_n h dX1_hoursUntilDry_12 rfl 3 rfl ?_
      refine j_bipush h (v := 40) dX1_hoursUntilDry_13 (by decide) ?_
      refine j_icmp_gt h (tgt := 38) dX1_hoursUntilDry_15 (by decide) (fun c1 => ?_) (fun c1 => ?_)
      · refine j_iconst h (v := (-1)) dX1_hoursUntilDry_38 (by decide) ?_
        exact hR _ _ _ _ dX1_hoursUntilDry_39 ⟨Eq.symm (hf.trans ((ite_p c1 rfl))), rfl⟩
      · have hk1 : k < 41 := gt_lt (by decide) hk c1
        refine j_iload_n h dX1_hoursUntilDry_18 rfl 2 rfl ?_
        refine j_bipush h (v := 8) dX1_hoursUntilDry_19 (by decide) ?_
        refine j_icmp_ge h (tgt := 26) dX1_hoursUntilDry_21 (by decide) (fun c2 => ?_) (fun c2 => ?_)
        · refine j_aload_n h dX1_hoursUntilDry_26 rfl 0 rfl ?_
          refine j_iload_n h dX1_hoursUntilDry_27 rfl 2 rfl ?_
          refine j_callI h (n := 1) (c_X1_wetAfter l D cy L _ _ _ _ _ hg _) (xg_V (xr_9 9 rfl) (xr_9 10 rfl) (xr_9 11 rfl) (xr_1 18 rfl) (xr_9 12 rfl)) rfl rfl (by decide +kernel) ⟨Nat.le_of_ble_eq_true rfl, Nat.le_of_ble_eq_true rfl⟩ (30 * g + 0) (at_G hg) rfl rfl rfl rfl (Nat.le_of_ble_eq_true rfl) dX1_hoursUntilDry_28 ⟨by decide, by decide⟩ (fun z3 u' hq => ?_)
          obtain ⟨hz3, rfl⟩ := hq
          refine j_istore_n h (lv' := [(2, _), (0, _), (1, _), (3, _)]) dX1_hoursUntilDry_31 rfl (by decide) rfl ?_
          refine j_iinc h (v := nI (k + 1)) (lv' := [(3, _), (2, _), (0, _), (1, _)]) dX1_hoursUntilDry_32 (k := 3) rfl (nI_1 k) (by decide) rfl ?_
          refine j_goto h (tgt := 12) dX1_hoursUntilDry_35 (by decide) ?_
          refine j_sub h [2, 3, 1, 0] rfl ?_
          exact ih (k + 1) _ (by omega) (by omega) (hf.trans ((ite_n c1 (ite_p c2 (bd_eq hz3 rfl)))))
        · refine j_iload_n h dX1_hoursUntilDry_24 rfl 3 rfl ?_
          exact hR _ _ _ _ dX1_hoursUntilDry_25 ⟨Eq.symm (hf.trans ((ite_n c1 (ite_n c2 rfl)))), rfl⟩
  refine j_sub h [2, 3, 1, 0] rfl ?_
  exact lp12 42 0 _ (by omega) (by omega) (rfl)
