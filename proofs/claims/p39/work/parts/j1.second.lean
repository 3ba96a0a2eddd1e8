/-! ===== the law's second object ===== -/
set_option maxRecDepth 100000
section LX
variable {l : Launch} {D : gD} {cy : Nat → ClassId} {S : Type} {Wd : S → va_W} {J : JT S} {cc : ByteArray} {nL : Nat} {y0 : MethodName} {R : Room} {u : S} {q : Nat × Nat} {lv : List (Nat × Value)} {pc : Nat} {rest : List Value}
theorem j_ixor (h : OKJ l D cy Wd J cc nL y0 R) {x y : Int32} (hdg : decode cc pc = .ok (.ixor, 1)) (k : J u q lv (pc + 1) (.int (x ^^^ y) :: rest)) : J u q lv pc (.int y :: .int x :: rest) := by
  obtain ⟨p, e, s, m, args, below, meth, c, A, H0, Q, h0, hK, hA, hnm, hH0, hZ, rfl⟩ := h
  intro H locs ls hP hD hS hl0
  exact lv_ixor h0.1 h0.2.1 hdg (k H locs ls hP hD hS hl0)
end LX
theorem RES.any {G : Nat → gM} {M : gM} {X : Nat → Int32} {A : Nat → Nat → Int32} {b : cB} {h : Nat → gM} {n : Nat} {sv : Option gM} {t : Nat → Nat} {k : Nat} {z : Int32 × (Nat → gM) × gM × (Nat → Int32) × (Nat → Nat → Int32)} {P : Int32 → Prop} (r : RES G M X A b h n sv t k z P) : ∃ h1 n1, OBx z.2.1 z.2.2.1 z.2.2.2.1 z.2.2.2.2 b h1 n1 sv t k := by
  rcases r.2 with ⟨-, e, hO, -⟩ | ⟨-, hO, -⟩
  · exact ⟨_, _, by rw [e]; exact hO⟩
  · exact ⟨_, _, hO⟩
theorem m4 : ∀ r, r < 3 → (4 : Int32) * nI r = nI (4 * r) := by decide +kernel
theorem iw_ok {M : gM} {N k : Nat} (e : M.1 4 = nI N) (hk : k < N) (hN : N < 2 ^ 31) : ¬ f_X1_isWood M (nI k) = 0 := by
  unfold f_X1_isWood
  rw [if_neg (show ¬ nI k < 0 from xnlt (b := 0) (by omega) (by omega)), e, if_neg (xnle hk hN)]
  decide
theorem hs_ok {M : gM} {r a c p : Nat} (hr : r < 3) (e0 : M.2.1 r 0 = nI a) (e1 : M.2.1 r 1 = nI c) (h1 : a ≤ p) (h2 : p ≤ c) (hc : c < 40) : ¬ f_X5_holds M (nI r).toNatClampNeg (nI p) = 0 := by
  unfold f_X5_holds
  rw [nI_clamp (by omega), e0, e1, if_neg (xnlt (by omega) (by omega)), if_neg (xnlt (by omega) (by omega))]
  decide
theorem ss_ok {M : gM} {X : Nat → Int32} {A : Nat → Nat → Int32} {p : Nat} (h1 : 1 ≤ p) (h2 : p ≤ 20) : ¬ f_X7_isStrength M X A (nI p) = 0 := by
  unfold f_X7_isStrength
  rw [if_neg (show ¬ nI p < 1 from xnlt (b := 1) (by omega) (by omega)), if_neg (show ¬ 20 < nI p from xnlt (a := 20) (by omega) (by omega))]
  decide
theorem rof_0 {M : gM} {r : Nat} {a : Nat} (hr : r < 3) (e3 : M.1 3 = nI 3) (e0 : M.2.1 r 0 = nI a) : f_X7_rinkOf M x0 a0 (nI r) 0 = nI a := by
  unfold f_X7_rinkOf
  simp only [bd_x, if_neg (is_rk e3 hr (by decide)), if_true, nI_clamp (show r < 2 ^ 31 by omega), e0]
theorem HI.ok {G : Nat → gM} {X : Nat → Int32} {h : Nat → gM} {n i : Nat} (hh : HI G X h n) (hi : i < n) : OKG (h i) := by
  obtain ⟨fr, h1, h2, h3, h4, h5⟩ := hh
  exact (h5 i hi).2
theorem HI.n8 {G : Nat → gM} {X : Nat → Int32} {h : Nat → gM} {n : Nat} (hh : HI G X h n) : n ≤ 8 := by
  obtain ⟨fr, h1, h2, h3, h4, h5⟩ := hh
  exact h2
theorem HI.eq {G : Nat → gM} {X : Nat → Int32} {h h' : Nat → gM} {n : Nat} (hh : HI G X h n) (e : ∀ i, i < n → h' i = h i) : HI G X h' n := by
  obtain ⟨fr, h1, h2, h3, h4, h5⟩ := hh
  exact ⟨fr, h1, h2, h3, h4, fun i hi => by rw [e i hi]; exact h5 i hi⟩
theorem lo_min {d : Nat} (hd : d ≤ 12) : (if nI d < 8 then nI d else (8 : Int32)) = nI (min 8 d) := by
  have h : ∀ d, d < 13 → (if nI d < 8 then nI d else (8 : Int32)) = nI (min 8 d) := by decide +kernel
  exact h d (by omega)
theorem lo_sub : ∀ a, a < 14 → ∀ k, k < 14 → k ≤ a → nI a - nI k = nI (a - k) := by decide +kernel
theorem lo_rst {S : gM} {G : Nat → gM} {X : Nat → Int32} (h : SV G X (some S)) : OKG S := h.2.2
section LO
variable {l : Launch} {D : gD} {cy : Nat → ClassId} {J : JT va_W} {L : Nat → Nat → Nat} {t : Nat → Nat}
theorem lo_k (h : OKJ l D cy wI J cL_law 11 yL_law rm_L_law) (hL : D.2.2.2.2.1 ≤ 260) {uc us : Nat} (hqc : uc ≤ 659866) (hqs : us ≤ 7122651) {r : Nat} (hr : r < 3) (K : ∀ (G : Nat → gM) (M : gM) (X : Nat → Int32) (A : Nat → Nat → Int32) (b : cB) (hh : Nat → gM) (n : Nat), OBx G M X A b hh n none t 0 → MK M 3 16 → ∀ is4 : Int32, J ([] ++ CW cy L ((va_up G 0 M, X, A), b)) (uc, us) [(5, .int (nI 4)), (4, .int is4), (3, .int (nI r)), (2, .ref (L 11 0)), (0, .ref D.2.2.2.1)] 990 []) : ∀ d k, d + k = 4 → ∀ (G : Nat → gM) (M : gM) (X : Nat → Int32) (A : Nat → Nat → Int32) (b : cB) (hh : Nat → gM) (n : Nat), OBx G M X A b hh n none t 0 → MK M 3 16 → ∀ is4 : Int32, J ([] ++ CW cy L ((va_up G 0 M, X, A), b)) (uc, us) [(5, .int (nI k)), (4, .int is4), (3, .int (nI r)), (2, .ref (L 11 0)), (0, .ref D.2.2.2.1)] 886 [] := by
  intro d
  induction d with
  | zero =>
    intro k hk G M X A b hh n hO hM is4
    obtain rfl : k = 4 := by omega
    refine j_iload h dL_law_886 0 rfl ?_
    refine j_iconst h (v := 4) dL_law_888 (by decide) ?_
    refine j_icmp_ge h (tgt := 990) dL_law_889 (by decide) (fun _ => ?_) (fun c => absurd (Int32.le_refl _) c)
    exact K _ _ _ _ _ _ _ hO hM _
  | succ d ih =>
    intro k hk G M X A b hh n hO hM is4
    obtain ⟨a, c, ea, ec, ha, hac, hc⟩ := hM.2.2 r hr
    refine j_iload h dL_law_886 0 rfl ?_
    refine j_iconst h (v := 4) dL_law_888 (by decide) ?_
    refine j_icmp_ge h (tgt := 990) dL_law_889 (by decide) (fun c => absurd c (xnle (a := 4) (b := k) (by omega) (by decide))) (fun _ => ?_)
    refine j_aload_n h dL_law_892 rfl 3 rfl ?_
    refine j_iload_n h dL_law_893 rfl 2 rfl ?_
    refine j_iconst h (v := 4) dL_law_894 (by decide) ?_
    refine j_iload_n h dL_law_895 rfl 2 rfl ?_
    refine j_imul h dL_law_896 ?_
    rw [show (4 * (nI r) : Int32) = nI (4 * r) from m4 r hr]
    refine j_iload h dL_law_897 0 rfl ?_
    refine j_iadd h dL_law_899 ?_
    rw [show ((nI (4 * r)) + (nI k) : Int32) = nI (4 * r + k) from nI_add _ _]
    refine j_aload_n h dL_law_900 rfl 3 rfl ?_
    refine j_iload_n h dL_law_901 rfl 2 rfl ?_
    refine j_iconst h (v := 0) dL_law_902 (by decide) ?_
    refine g_rinkOf (wr := []) h rfl hO ⟨Nat.le_of_ble_eq_true rfl, Nat.le_of_ble_eq_true rfl⟩ (Nat.le_of_ble_eq_true rfl) ⟨by show uc ≤ 659866; omega, by show us ≤ 7122651; omega⟩ dL_law_903 ?_
    rw [rof_0 hr hM.1 ea]
    refine j_aload_n h dL_law_906 rfl 4 rfl ?_
    refine j_bipush h (v := 25) dL_law_907 (by decide) ?_
    refine j_iload h dL_law_909 0 rfl ?_
    refine j_iadd h dL_law_911 ?_
    rw [show (25 + (nI k) : Int32) = nI (25 + k) from nI_add 25 k]
    refine k_at h rfl (j := (25 + k)) (by omega) hL ⟨Nat.le_of_ble_eq_true rfl, Nat.le_of_ble_eq_true rfl⟩ (Nat.le_of_ble_eq_true rfl) ⟨by show uc ≤ 659866; omega, by show us ≤ 7122651; omega⟩ dL_law_912 ?_
    refine j_iconst h (v := 3) dL_law_915 (by decide) ?_
    refine k_some h rfl (by decide) ⟨Nat.le_of_ble_eq_true rfl, Nat.le_of_ble_eq_true rfl⟩ (Nat.le_of_ble_eq_true rfl) ⟨by show uc ≤ 659866; omega, by show us ≤ 7122651; omega⟩ dL_law_916 ?_
    obtain ⟨v1, hv1, ev1⟩ := sm_k (atS D (25 + k)) (n := 3) (by decide) (by decide)
    rw [show (sm (atS D (25 + k)) 3 : Int32) = nI v1 from ev1]
    refine j_iadd h dL_law_919 ?_
    rw [show ((nI a) + (nI v1) : Int32) = nI (a + v1) from nI_add _ _]
    refine j_iconst h (v := 5) dL_law_920 (by decide) ?_
    refine j_aload_n h dL_law_921 rfl 4 rfl ?_
    refine j_bipush h (v := 25) dL_law_922 (by decide) ?_
    refine j_iload h dL_law_924 0 rfl ?_
    refine j_iadd h dL_law_926 ?_
    rw [show (25 + (nI k) : Int32) = nI (25 + k) from nI_add 25 k]
    refine k_at h rfl (j := (25 + k)) (by omega) hL ⟨Nat.le_of_ble_eq_true rfl, Nat.le_of_ble_eq_true rfl⟩ (Nat.le_of_ble_eq_true rfl) ⟨by show uc ≤ 659866; omega, by show us ≤ 7122651; omega⟩ dL_law_927 ?_
    refine j_iconst h (v := 4) dL_law_930 (by decide) ?_
    refine j_ishr h dL_law_931 ?_
    refine j_bipush h (v := 14) dL_law_932 (by decide) ?_
    refine k_some h rfl (by decide) ⟨Nat.le_of_ble_eq_true rfl, Nat.le_of_ble_eq_true rfl⟩ (Nat.le_of_ble_eq_true rfl) ⟨by show uc ≤ 659866; omega, by show us ≤ 7122651; omega⟩ dL_law_934 ?_
    obtain ⟨v2, hv2, ev2⟩ := sm_k (atS D (25 + k) >>> (4 &&& 31)) (n := 14) (by decide) (by decide)
    rw [show (sm ((atS D (25 + k)) >>> (4 &&& 31)) 14 : Int32) = nI v2 from ev2]
    refine j_iadd h dL_law_937 ?_
    rw [show (5 + (nI v2) : Int32) = nI (5 + v2) from nI_add 5 v2]
    refine j_aload_n h dL_law_938 rfl 4 rfl ?_
    refine j_bipush h (v := 25) dL_law_939 (by decide) ?_
    refine j_iload h dL_law_941 0 rfl ?_
    refine j_iadd h dL_law_943 ?_
    rw [show (25 + (nI k) : Int32) = nI (25 + k) from nI_add 25 k]
    refine k_at h rfl (j := (25 + k)) (by omega) hL ⟨Nat.le_of_ble_eq_true rfl, Nat.le_of_ble_eq_true rfl⟩ (Nat.le_of_ble_eq_true rfl) ⟨by show uc ≤ 659866; omega, by show us ≤ 7122651; omega⟩ dL_law_944 ?_
    refine j_iconst h (v := 1) dL_law_947 (by decide) ?_
    refine j_iand h dL_law_948 ?_
    have K1 : ∀ v : Int32, J ([] ++ CW cy L ((va_up G 0 M, X, A), b)) (uc, us) [(5, .int (nI k)), (4, .int is4), (3, .int (nI r)), (2, .ref (L 11 0)), (0, .ref D.2.2.2.1)] 957 (.int v :: [.int (nI (5 + v2)), .int (nI (a + v1)), .int (nI (4 * r + k)), .int (nI r), .ref (L 11 0)]) := ?_
    · refine j_if_ne h (tgt := 956) dL_law_949 (by decide) (fun _ => ?_) (fun _ => ?_)
      · refine j_iconst h (v := 0) dL_law_956 (by decide) ?_
        exact K1 0
      · refine j_iconst h (v := 1) dL_law_952 (by decide) ?_
        refine j_goto h (tgt := 957) dL_law_953 (by decide) ?_
        exact K1 1
    intro v
    refine o_bowl (wr := []) h rfl hO ⟨Nat.le_of_ble_eq_true rfl, Nat.le_of_ble_eq_true rfl⟩ (Nat.le_of_ble_eq_true rfl) ⟨by show uc ≤ 659866; omega, by show us ≤ 7122651; omega⟩ dL_law_957 (fun z hz hS => ?_)
    obtain ⟨Y, B, hRL, -⟩ := hO.1
    have hz1 := bowl_ok (X := X) (A := A) (p5 := v) hRL.2.1 hRL.1 (is_rk hM.1 hr (by decide)) (iw_ok (k := 4 * r + k) hM.2.1 (by omega) (by decide)) (hs_ok (p := a + v1) hr ea ec (by omega) (by omega) (by omega)) (ss_ok (p := 5 + v2) (by omega) (by omega))
    rw [← z_bowl (G := G), ← hz] at hz1
    have hM1 : MK z.2.2.1 3 16 := by rw [hz, s_bowl]; exact hM.kp kp_bowl
    obtain ⟨h1, n1, hO1⟩ := hS.any
    have q1 : ¬ z.1 < -4 := by rcases hz1 with e | e | e
                               · rw [e]; decide
                               · rw [e]; decide
                               · exact fun cc => vin0 e (Int32.lt_trans cc (by decide))
    have q2 : ¬ z.1 = -1 := by rcases hz1 with e | e | e
                               · rw [e]; decide
                               · rw [e]; decide
                               · exact fun cc => vin0 e (by rw [cc]; decide)
    have q3 : ¬ z.1 = -2 := by rcases hz1 with e | e | e
                               · rw [e]; decide
                               · rw [e]; decide
                               · exact fun cc => vin0 e (by rw [cc]; decide)
    refine j_istore h (lv' := [(4, _), (5, _), (3, _), (2, _), (0, _)]) dL_law_960 (by decide) rfl ?_
    refine j_iload h dL_law_962 0 rfl ?_
    refine j_bipush h (v := (-4)) dL_law_964 (by decide) ?_
    refine j_icmp_lt h (tgt := 982) dL_law_966 (by decide) (fun c => absurd c q1) (fun _ => ?_)
    refine j_iload h dL_law_969 0 rfl ?_
    refine j_iconst h (v := (-1)) dL_law_971 (by decide) ?_
    refine j_icmp_eq h (tgt := 982) dL_law_972 (by decide) (fun c => absurd c q2) (fun _ => ?_)
    refine j_iload h dL_law_975 0 rfl ?_
    refine j_bipush h (v := (-2)) dL_law_977 (by decide) ?_
    refine j_icmp_ne h (tgt := 984) dL_law_979 (by decide) (fun _ => ?_) (fun c => absurd c q3)
    refine j_iinc h (v := nI (k + 1)) (lv' := [(5, _), (4, _), (3, _), (2, _), (0, _)]) dL_law_984 (k := 1) rfl (nI_1 k) (by decide) rfl ?_
    refine j_goto h (tgt := 886) dL_law_987 (by decide) ?_
    refine j_sub h [0, 1, 2, 3, 4] rfl (lv' := [(5, .int (nI (k + 1))), (4, .int z.1), (3, .int (nI r)), (2, .ref (L 11 0)), (0, .ref D.2.2.2.1)]) ?_
    exact ih (k + 1) (by omega) _ _ _ _ _ _ _ hO1 hM1 _
theorem lo_r (h : OKJ l D cy wI J cL_law 11 yL_law rm_L_law) (hL : D.2.2.2.2.1 ≤ 260) {uc us : Nat} (hqc : uc ≤ 659866) (hqs : us ≤ 7122651) (K : ∀ (G : Nat → gM) (M : gM) (X : Nat → Int32) (A : Nat → Nat → Int32) (b : cB) (hh : Nat → gM) (n : Nat), OBx G M X A b hh n none t 0 → MK M 3 16 → J ([] ++ CW cy L ((va_up G 0 M, X, A), b)) (uc, us) [(2, .ref (L 11 0)), (0, .ref D.2.2.2.1)] 996 []) : ∀ d r, d + r = 3 → ∀ (G : Nat → gM) (M : gM) (X : Nat → Int32) (A : Nat → Nat → Int32) (b : cB) (hh : Nat → gM) (n : Nat), OBx G M X A b hh n none t 0 → MK M 3 16 → J ([] ++ CW cy L ((va_up G 0 M, X, A), b)) (uc, us) [(3, .int (nI r)), (2, .ref (L 11 0)), (0, .ref D.2.2.2.1)] 841 [] := by
  intro d
  induction d with
  | zero =>
    intro r hk G M X A b hh n hO hM
    obtain rfl : r = 3 := by omega
    refine j_iload_n h dL_law_841 rfl 0 rfl ?_
    refine j_iconst h (v := 3) dL_law_842 (by decide) ?_
    refine j_icmp_ge h (tgt := 996) dL_law_843 (by decide) (fun _ => ?_) (fun c => absurd (Int32.le_refl _) c)
    refine j_sub h [1, 2] rfl (lv' := [(2, .ref (L 11 0)), (0, .ref D.2.2.2.1)]) ?_
    exact K _ _ _ _ _ _ _ hO hM
  | succ d ih =>
    intro r hk G M X A b hh n hO hM
    have hr : r < 3 := by omega
    refine j_iload_n h dL_law_841 rfl 0 rfl ?_
    refine j_iconst h (v := 3) dL_law_842 (by decide) ?_
    refine j_icmp_ge h (tgt := 996) dL_law_843 (by decide) (fun c => absurd c (xnle (a := 3) (b := r) (by omega) (by decide))) (fun _ => ?_)
    refine j_aload_n h dL_law_846 rfl 1 rfl ?_
    refine j_iload_n h dL_law_847 rfl 0 rfl ?_
    refine j_bipush h (v := 20) dL_law_848 (by decide) ?_
    refine j_aload_n h dL_law_850 rfl 2 rfl ?_
    refine j_bipush h (v := 22) dL_law_851 (by decide) ?_
    refine j_iload_n h dL_law_853 rfl 0 rfl ?_
    refine j_iadd h dL_law_854 ?_
    rw [show (22 + (nI r) : Int32) = nI (22 + r) from nI_add 22 r]
    refine k_at h rfl (j := (22 + r)) (by omega) hL ⟨Nat.le_of_ble_eq_true rfl, Nat.le_of_ble_eq_true rfl⟩ (Nat.le_of_ble_eq_true rfl) ⟨by show uc ≤ 659866; omega, by show us ≤ 7122651; omega⟩ dL_law_855 ?_
    refine j_bipush h (v := 21) dL_law_858 (by decide) ?_
    refine k_some h rfl (by decide) ⟨Nat.le_of_ble_eq_true rfl, Nat.le_of_ble_eq_true rfl⟩ (Nat.le_of_ble_eq_true rfl) ⟨by show uc ≤ 659866; omega, by show us ≤ 7122651; omega⟩ dL_law_860 ?_
    obtain ⟨v, hv, ev⟩ := sm_k (atS D (22 + r)) (n := 21) (by decide) (by decide)
    rw [show (sm (atS D (22 + r)) 21 : Int32) = nI v from ev]
    refine j_iadd h dL_law_863 ?_
    rw [show (20 + (nI v) : Int32) = nI (20 + v) from nI_add 20 v]
    refine o_begin (wr := []) h rfl hO ⟨Nat.le_of_ble_eq_true rfl, Nat.le_of_ble_eq_true rfl⟩ (Nat.le_of_ble_eq_true rfl) ⟨by show uc ≤ 659866; omega, by show us ≤ 7122651; omega⟩ dL_law_864 (fun z hz hS => ?_)
    obtain ⟨Y, B, hRL, -⟩ := hO.1
    have hz1 := begin_ok (X := X) (A := A) hRL.1 (is_rk hM.1 hr (by decide)) (q := nI (20 + v)) (xnlt (b := 20) (by omega) (by omega)) (Int32.not_lt.mp (xnlt (a := 40) (by omega) (by omega)))
    rw [← z_begin (G := G), ← hz] at hz1
    have hM1 : MK z.2.2.1 3 16 := by rw [hz, s_begin]; exact hM.kp kp_begin
    obtain ⟨h1, n1, hO1⟩ := hS.any
    refine j_istore h (lv' := [(4, _), (3, _), (2, _), (0, _)]) dL_law_867 (by decide) rfl ?_
    refine j_iload h dL_law_869 0 rfl ?_
    have K1 : J ([] ++ CW cy L ((va_up z.2.1 0 z.2.2.1, z.2.2.2.1, z.2.2.2.2), b)) (uc, us) [(4, .int z.1), (3, .int (nI r)), (2, .ref (L 11 0)), (0, .ref D.2.2.2.1)] 883 [] := ?_
    · rcases hz1 with e | e
      · skip
        refine j_if_ge h (tgt := 883) dL_law_871 (by decide) (fun c => absurd c (by rw [e]; decide)) (fun _ => ?_)
        refine j_iload h dL_law_874 0 rfl ?_
        refine j_bipush h (v := (-3)) dL_law_876 (by decide) ?_
        refine j_icmp_eq h (tgt := 883) dL_law_878 (by decide) (fun _ => ?_) (fun c => absurd e c)
        exact K1
      · skip
        refine j_if_ge h (tgt := 883) dL_law_871 (by decide) (fun _ => ?_) (fun c => absurd (Int32.not_lt.mp (vin0 e)) c)
        exact K1
    refine j_iconst h (v := 0) dL_law_883 (by decide) ?_
    refine j_istore h (lv' := [(5, _), (4, _), (3, _), (2, _), (0, _)]) dL_law_884 (by decide) rfl ?_
    refine j_sub h [0, 1, 2, 3, 4] rfl (lv' := [(5, .int (nI 0)), (4, .int z.1), (3, .int (nI r)), (2, .ref (L 11 0)), (0, .ref D.2.2.2.1)]) ?_
    refine lo_k h hL hqc hqs hr (fun G M X A b hh n hO hM is4 => ?_) 4 0 rfl _ _ _ _ _ _ _ hO1 hM1 _
    refine j_iinc h (v := nI (r + 1)) (lv' := [(3, _), (5, _), (4, _), (2, _), (0, _)]) dL_law_990 (k := 2) rfl (nI_1 r) (by decide) rfl ?_
    refine j_goto h (tgt := 841) dL_law_993 (by decide) ?_
    refine j_sub h [0, 3, 4] rfl (lv' := [(3, .int (nI (r + 1))), (2, .ref (L 11 0)), (0, .ref D.2.2.2.1)]) ?_
    exact ih (r + 1) (by omega) _ _ _ _ _ _ _ hO hM
theorem lo_a (h : OKJ l D cy wI J cL_law 11 yL_law rm_L_law) {uc us : Nat} (hqc : uc + 883 ≤ 659866) (hqs : us + 195806 ≤ 7122651) (K : ∀ (S : gM) (s3 : Int64) (hr5 : Int32), s3 = ask (qs S) → hr5 = S.1 5 → ∀ (G : Nat → gM) (M : gM) (X : Nat → Int32) (A : Nat → Nat → Int32) (b : cB) (hh : Nat → gM) (n : Nat) (t : Nat → Nat), OBx G M X A b hh n (some S) t 0 → J ([] ++ CW cy L ((va_up G 0 M, X, A), b)) (uc + 883, us + 195806) [(5, .int hr5), (3, .long s3), (2, .ref (L 11 0)), (0, .ref D.2.2.2.1)] 1046 []) : ∀ (G : Nat → gM) (M : gM) (X : Nat → Int32) (A : Nat → Nat → Int32) (b : cB) (hh : Nat → gM) (n : Nat), OBx G M X A b hh n none t 0 → MK M 3 16 → J ([] ++ CW cy L ((va_up G 0 M, X, A), b)) (uc, us) [(2, .ref (L 11 0)), (0, .ref D.2.2.2.1)] 996 [] := by
  intro G M X A b hh n hO hM
  refine j_aload_n h dL_law_996 rfl 0 rfl ?_
  refine j_bSL h (n := 1) (c_L_asks l D cy hO) (wr := []) rfl (xg_S (xr_38 13 rfl) (xr_38 14 rfl) (xr_30 2 rfl) (xr_38 15 rfl)) rfl rfl (by decide +kernel) ⟨Nat.le_of_ble_eq_true rfl, Nat.le_of_ble_eq_true rfl⟩ rfl rfl (Nat.le_of_ble_eq_true rfl) dL_law_997 ⟨by show uc + 160 ≤ 659866; omega, by show us + 35520 ≤ 7122651; omega⟩ (fun rr v hq => ?_)
  obtain ⟨rfl, X9, A9, b9, rfl, hO9, -, -⟩ := hq
  clear hO; have hO := hO9; clear hO9
  refine j_lstore_n h (lv' := [(3, _), (2, _), (0, _)]) dL_law_1000 rfl (by decide) rfl ?_
  refine j_aload_n h dL_law_1001 rfl 1 rfl ?_
  refine j_bSL h (n := 1) (c_L_asks l D cy hO) (wr := []) rfl (xg_S (xr_38 13 rfl) (xr_38 14 rfl) (xr_30 2 rfl) (xr_38 15 rfl)) rfl rfl (by decide +kernel) ⟨Nat.le_of_ble_eq_true rfl, Nat.le_of_ble_eq_true rfl⟩ rfl rfl (Nat.le_of_ble_eq_true rfl) dL_law_1002 ⟨by show uc + 160 + 160 ≤ 659866; omega, by show us + 35520 + 35520 ≤ 7122651; omega⟩ (fun rr v hq => ?_)
  obtain ⟨rfl, X9, A9, b9, rfl, hO9, -, -⟩ := hq
  clear hO; have hO := hO9; clear hO9
  refine j_lload_n h dL_law_1005 rfl 0 rfl ?_
  refine j_lcmp h dL_law_1006 ?_
  rw [lg_self]
  refine j_if_ne h (tgt := 1017) dL_law_1007 (by decide) (fun c => absurd rfl c) (fun _ => ?_)
  refine j_aload_n h dL_law_1010 rfl 1 rfl ?_
  refine j_bS h (n := 1) (c_L_refused l D cy hO hM) (wr := []) rfl (xg_S (xr_41 13 rfl) (xr_41 14 rfl) (xr_30 2 rfl) (xr_41 15 rfl)) rfl rfl (by decide +kernel) ⟨Nat.le_of_ble_eq_true rfl, Nat.le_of_ble_eq_true rfl⟩ rfl rfl (Nat.le_of_ble_eq_true rfl) dL_law_1011 ⟨by show uc + 160 + 160 + 403 ≤ 659866; omega, by show us + 35520 + 35520 + 89246 ≤ 7122651; omega⟩ (fun rr v hq => ?_)
  have hK := hO.ok
  obtain ⟨G1, M1, X1, A1, b1, t1, rfl, rfl, hE, hO1⟩ := hq
  have hq1 : ask (qs M) = ask (qs M1) := by rw [sm_qs (SAME.eq hE hK)]
  rw [hq1]
  clear hO hM; have hO := hO1; clear hO1
  refine j_if_ne h (tgt := 1019) dL_law_1014 (by decide) (fun _ => ?_) (fun c => absurd c (by decide))
  refine j_aload_n h dL_law_1019 rfl 1 rfl ?_
  refine o_save (wr := []) h rfl hO ⟨Nat.le_of_ble_eq_true rfl, Nat.le_of_ble_eq_true rfl⟩ (Nat.le_of_ble_eq_true rfl) ⟨by show uc + 160 + 160 + 403 ≤ 659866; omega, by show us + 35520 + 35520 + 89246 ≤ 7122651; omega⟩ dL_law_1020 (fun z hz => ?_)
  obtain ⟨e1, -, hO1⟩ := P_save hO z hz
  rw [e1]
  clear hO; have hO := hO1; clear hO1
  refine j_istore h (lv' := [(5, _), (3, _), (2, _), (0, _)]) dL_law_1023 (by decide) rfl ?_
  refine j_iload h dL_law_1025 0 rfl ?_
  refine j_aload_n h dL_law_1027 rfl 2 rfl ?_
  refine j_iconst h (v := 0) dL_law_1028 (by decide) ?_
  refine g_account (wr := []) h rfl hO ⟨Nat.le_of_ble_eq_true rfl, Nat.le_of_ble_eq_true rfl⟩ (Nat.le_of_ble_eq_true rfl) ⟨by show uc + 160 + 160 + 403 ≤ 659866; omega, by show us + 35520 + 35520 + 89246 ≤ 7122651; omega⟩ dL_law_1029 ?_
  refine j_icmp_ne h (tgt := 1044) dL_law_1032 (by decide) (fun c => absurd rfl c) (fun _ => ?_)
  refine j_aload_n h dL_law_1035 rfl 2 rfl ?_
  refine j_bSL h (n := 1) (c_L_asks l D cy hO) (wr := []) rfl (xg_S (xr_38 13 rfl) (xr_38 14 rfl) (xr_30 2 rfl) (xr_38 15 rfl)) rfl rfl (by decide +kernel) ⟨Nat.le_of_ble_eq_true rfl, Nat.le_of_ble_eq_true rfl⟩ rfl rfl (Nat.le_of_ble_eq_true rfl) dL_law_1036 ⟨by show uc + 160 + 160 + 403 + 160 ≤ 659866; omega, by show us + 35520 + 35520 + 89246 + 35520 ≤ 7122651; omega⟩ (fun rr v hq => ?_)
  obtain ⟨rfl, X9, A9, b9, rfl, hO9, -, -⟩ := hq
  clear hO; have hO := hO9; clear hO9
  refine j_lload_n h dL_law_1039 rfl 1 rfl ?_
  refine j_lcmp h dL_law_1040 ?_
  rw [lg_self]
  refine j_if_eq h (tgt := 1046) dL_law_1041 (by decide) (fun _ => ?_) (fun c => absurd rfl c)
  refine j_sub h [0, 1, 2, 3] rfl (lv' := [(5, .int (M1.1 5)), (3, .long (ask (qs M1))), (2, .ref (L 11 0)), (0, .ref D.2.2.2.1)]) ?_
  refine j_widen h (k := uc + 883) (n := us + 195806) (by show uc + 160 + 160 + 403 + 160 ≤ _; omega) (by show us + 35520 + 35520 + 89246 + 35520 ≤ _; omega) ?_
  exact K M1 _ _ rfl rfl _ _ _ _ _ _ _ t1 hO
end LO
