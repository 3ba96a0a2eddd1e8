/-! ===== the law's loop ===== -/
section LOOP
variable {l : Launch} {D : gD} {cy : Nat → ClassId} {J : JT va_W} {b Ls : Nat} {xs : Nat → Int32}
theorem k_6 (k : Nat) : nI (6 * k) + Int32.ofInt 6 = nI (6 * (k + 1)) := nI_add (6 * k) 6
set_option maxRecDepth 100000 in
set_option maxHeartbeats 4000000 in
theorem lw_loop (hl : OKL l D cy J b Ls xs) (hLs : Ls ≤ 3072) (hend : ∀ (u : va_W) (q : Nat × Nat) (lv : List (Nat × Value)), q.1 ≤ 600000 → q.2 ≤ 7302250 → J u q lv 1297 [.int 1]) (L : Nat → Nat → Nat) (ad : Nat → Nat) : ∀ (n k : Nat) (u : cS × cB) (v : mS), n + k = 513 → k ≤ 512 → INV u v → J (CW cy L u ++ MW cy ad v) (352 + 40 * k, 4654 + 8880 * k) (lvL L ad b k) 18 [] := by
  have h := hl.ok
  intro n
  induction n with
  | zero => intro k u v hn hk hi; omega
  | succ n ih =>
    intro k u v hn hk hi
    refine j_iload_n h dL_law_18 rfl 0 rfl ?_
    refine j_aload_n h dL_law_19 rfl 1 rfl ?_
    refine j_slen hl dL_law_20 ?_
    refine j_bipush h (v := 6) dL_law_21 (by decide) ?_
    refine j_isub h dL_law_23 ?_
    refine j_icmp_gt h (tgt := 1296) dL_law_24 (by decide) (fun c => ?_) (fun c => ?_)
    · refine j_iconst h (v := 1) dL_law_1296 (by decide) ?_
      exact hend _ _ _ (by show 352 + 40 * k ≤ 600000; omega) (by show 4654 + 8880 * k ≤ 7302250; omega)
    · have hk6 := more_6 hLs hk c
      refine j_aload_n h dL_law_27 rfl 1 rfl ?_
      refine j_iload_n h dL_law_28 rfl 0 rfl ?_
      refine j_sld hl (6 * k) rfl (by omega) hLs dL_law_29 ?_
      refine j_bipush h (v := 63) dL_law_30 (by decide) ?_
      refine j_iand h dL_law_32 ?_
      generalize xs (6 * k) &&& 63 = x
      have hx : NX cy L ad J b k := by
        intro u' v' hi'
        refine j_iinc h dL_law_1290 (k := 0) rfl (k_6 k) (by decide) rfl ?_
        refine j_goto h (tgt := 18) dL_law_1293 (by decide) ?_
        exact ih (k + 1) u' v' (by omega) (by omega) hi'
      by_cases e0 : x = 0
      · subst e0
        exact j_tableIn h (tgt := 192) dL_law_33 (by decide) (by decide) rfl (by decide) (lc_0 hl hLs hk6 hi hx)
      by_cases e1 : x = 1
      · subst e1
        exact j_tableIn h (tgt := 205) dL_law_33 (by decide) (by decide) rfl (by decide) (lc_1 hl hLs hk6 hi hx)
      by_cases e2 : x = 2
      · subst e2
        exact j_tableIn h (tgt := 230) dL_law_33 (by decide) (by decide) rfl (by decide) (lc_2 hl hLs hk6 hi hx)
      by_cases e3 : x = 3
      · subst e3
        exact j_tableIn h (tgt := 263) dL_law_33 (by decide) (by decide) rfl (by decide) (lc_3 hl hLs hk6 hi hx)
      by_cases e4 : x = 4
      · subst e4
        exact j_tableIn h (tgt := 296) dL_law_33 (by decide) (by decide) rfl (by decide) (lc_4 hl hLs hk6 hi hx)
      by_cases e5 : x = 5
      · subst e5
        exact j_tableIn h (tgt := 329) dL_law_33 (by decide) (by decide) rfl (by decide) (lc_5 hl hLs hk6 hi hx)
      by_cases e6 : x = 6
      · subst e6
        exact j_tableIn h (tgt := 408) dL_law_33 (by decide) (by decide) rfl (by decide) (lc_6 hl hLs hk6 hi hx)
      by_cases e7 : x = 7
      · subst e7
        exact j_tableIn h (tgt := 431) dL_law_33 (by decide) (by decide) rfl (by decide) (lc_7 hl hLs hk6 hi hx)
      by_cases e8 : x = 8
      · subst e8
        exact j_tableIn h (tgt := 454) dL_law_33 (by decide) (by decide) rfl (by decide) (lc_8 hl hLs hk6 hi hx)
      by_cases e9 : x = 9
      · subst e9
        exact j_tableIn h (tgt := 477) dL_law_33 (by decide) (by decide) rfl (by decide) (lc_9 hl hLs hk6 hi hx)
      by_cases e10 : x = 10
      · subst e10
        exact j_tableIn h (tgt := 500) dL_law_33 (by decide) (by decide) rfl (by decide) (lc_10 hl hLs hk6 hi hx)
      by_cases e11 : x = 11
      · subst e11
        exact j_tableIn h (tgt := 523) dL_law_33 (by decide) (by decide) rfl (by decide) (lc_11 hl hLs hk6 hi hx)
      by_cases e12 : x = 12
      · subst e12
        exact j_tableIn h (tgt := 546) dL_law_33 (by decide) (by decide) rfl (by decide) (lc_12 hl hLs hk6 hi hx)
      by_cases e13 : x = 13
      · subst e13
        exact j_tableIn h (tgt := 569) dL_law_33 (by decide) (by decide) rfl (by decide) (lc_13 hl hLs hk6 hi hx)
      by_cases e14 : x = 14
      · subst e14
        exact j_tableIn h (tgt := 582) dL_law_33 (by decide) (by decide) rfl (by decide) (lc_14 hl hLs hk6 hi hx)
      by_cases e15 : x = 15
      · subst e15
        exact j_tableIn h (tgt := 595) dL_law_33 (by decide) (by decide) rfl (by decide) (lc_15 hl hLs hk6 hi hx)
      by_cases e16 : x = 16
      · subst e16
        exact j_tableIn h (tgt := 644) dL_law_33 (by decide) (by decide) rfl (by decide) (lc_16 hl hLs hk6 hi hx)
      by_cases e17 : x = 17
      · subst e17
        exact j_tableIn h (tgt := 677) dL_law_33 (by decide) (by decide) rfl (by decide) (lc_17 hl hLs hk6 hi hx)
      by_cases e18 : x = 18
      · subst e18
        exact j_tableIn h (tgt := 710) dL_law_33 (by decide) (by decide) rfl (by decide) (lc_18 hl hLs hk6 hi hx)
      by_cases e19 : x = 19
      · subst e19
        exact j_tableIn h (tgt := 743) dL_law_33 (by decide) (by decide) rfl (by decide) (lc_19 hl hLs hk6 hi hx)
      by_cases e20 : x = 20
      · subst e20
        exact j_tableIn h (tgt := 766) dL_law_33 (by decide) (by decide) rfl (by decide) (lc_20 hl hLs hk6 hi hx)
      by_cases e21 : x = 21
      · subst e21
        exact j_tableIn h (tgt := 799) dL_law_33 (by decide) (by decide) rfl (by decide) (lc_21 hl hLs hk6 hi hx)
      by_cases e22 : x = 22
      · subst e22
        exact j_tableIn h (tgt := 848) dL_law_33 (by decide) (by decide) rfl (by decide) (lc_22 hl hLs hk6 hi hx)
      by_cases e23 : x = 23
      · subst e23
        exact j_tableIn h (tgt := 927) dL_law_33 (by decide) (by decide) rfl (by decide) (lc_23 hl hLs hk6 hi hx)
      by_cases e24 : x = 24
      · subst e24
        exact j_tableIn h (tgt := 996) dL_law_33 (by decide) (by decide) rfl (by decide) (lc_24 hl hLs hk6 hi hx)
      by_cases e25 : x = 25
      · subst e25
        exact j_tableIn h (tgt := 1029) dL_law_33 (by decide) (by decide) rfl (by decide) (lc_25 hl hLs hk6 hi hx)
      by_cases e26 : x = 26
      · subst e26
        exact j_tableIn h (tgt := 1062) dL_law_33 (by decide) (by decide) rfl (by decide) (lc_26 hl hLs hk6 hi hx)
      by_cases e27 : x = 27
      · subst e27
        exact j_tableIn h (tgt := 1085) dL_law_33 (by decide) (by decide) rfl (by decide) (lc_27 hl hLs hk6 hi hx)
      by_cases e28 : x = 28
      · subst e28
        exact j_tableIn h (tgt := 1098) dL_law_33 (by decide) (by decide) rfl (by decide) (lc_28 hl hLs hk6 hi hx)
      by_cases e29 : x = 29
      · subst e29
        exact j_tableIn h (tgt := 1121) dL_law_33 (by decide) (by decide) rfl (by decide) (lc_29 hl hLs hk6 hi hx)
      by_cases e30 : x = 30
      · subst e30
        exact j_tableIn h (tgt := 1144) dL_law_33 (by decide) (by decide) rfl (by decide) (lc_30 hl hLs hk6 hi hx)
      by_cases e31 : x = 31
      · subst e31
        exact j_tableIn h (tgt := 1187) dL_law_33 (by decide) (by decide) rfl (by decide) (lc_31 hl hLs hk6 hi hx)
      by_cases e32 : x = 32
      · subst e32
        exact j_tableIn h (tgt := 1228) dL_law_33 (by decide) (by decide) rfl (by decide) (lc_32 hl hLs hk6 hi hx)
      by_cases e33 : x = 33
      · subst e33
        exact j_tableIn h (tgt := 1251) dL_law_33 (by decide) (by decide) rfl (by decide) (lc_33 hl hLs hk6 hi hx)
      by_cases e34 : x = 34
      · subst e34
        exact j_tableIn h (tgt := 1264) dL_law_33 (by decide) (by decide) rfl (by decide) (lc_34 hl hLs hk6 hi hx)
      by_cases e35 : x = 35
      · subst e35
        exact j_tableIn h (tgt := 1277) dL_law_33 (by decide) (by decide) rfl (by decide) (lc_35 hl hLs hk6 hi hx)
      refine j_tableOut h (tgt := 1290) dL_law_33 (sw_out36 x e0 e1 e2 e3 e4 e5 e6 e7 e8 e9 e10 e11 e12 e13 e14 e15 e16 e17 e18 e19 e20 e21 e22 e23 e24 e25 e26 e27 e28 e29 e30 e31 e32 e33 e34 e35) (by decide) ?_
      refine j_widen h (k := 352 + 40 * (k + 1)) (n := 4654 + 8880 * (k + 1)) (by show 352 + 40 * k ≤ _; omega) (by show 4654 + 8880 * k ≤ _; omega) ?_
      exact hx _ _ hi
end LOOP
theorem GI_gZ : GI gZ := ⟨vp_in_nI (n := 0) (by decide) (by decide), vp_in_nI (n := 0) (by decide) (by decide), fun _ _ => vp_in_nI (n := 0) (by decide) (by decide)⟩
theorem GI_0 : GI gM0 := GI_rs GI_gZ rfl
theorem TX_0 : TX 0 16 (fun _ => 0) := ⟨Nat.zero_le _, by decide, sb_fit0, fun _ => 0, fun j hj => absurd hj (Nat.not_lt_zero _)⟩
theorem INV_0 (byI byL : Nat) : INV ((va_up (fun _ => gM0) 0 gM0, cX0, cA0), (byI, 16, byL, 16)) (mY0, f_X8_begins mY0 mB0) := by
  refine ⟨_, _, _, _, _, _, _, fun _ => 0, 0, rfl, rfl, ⟨GR.reset begins_row.2, ⟨0, by decide, rfl, rfl, fun i hi => absurd hi (Nat.not_lt_zero _)⟩, ⟨0, 0, by decide, by decide, rfl, rfl, rfl, fun i hi => absurd hi (Nat.not_lt_zero _)⟩, Or.inl ⟨rfl, rfl⟩, rfl⟩, ⟨by decide, rfl, rfl, fun j hj => absurd hj (Nat.not_lt_zero _)⟩, ⟨0, by decide, rfl, rfl, fun j hj => absurd hj (Nat.not_lt_zero _)⟩, GI_0, fun _ _ _ => GI_0, M_clear (Y := mY0) (B := mB0), ⟨vp_in_nI (n := 0) (by decide) (by decide), Or.inl rfl, fun i hi => absurd hi (Nat.not_lt_zero _)⟩, fun j _ => ⟨0, by decide, ?_⟩, TX_0, 0, rfl, TX_0⟩
  exact congrFun (begins_row.1 5 (by decide)) j
set_option maxRecDepth 100000 in
set_option maxHeartbeats 4000000 in
theorem lw_from0 {l : Launch} {D : gD} {cy : Nat → ClassId} {J : JT va_W} {b Ls : Nat} {xs : Nat → Int32} (hl : OKL l D cy J b Ls xs) (hLs : Ls ≤ 3072) (hend : ∀ (u : va_W) (q : Nat × Nat) (lv : List (Nat × Value)), q.1 ≤ 600000 → q.2 ≤ 7302250 → J u q lv 1297 [.int 1]) : J [] (0, 0) [(0, .ref b)] 0 [] := by
  have h := hl.ok
  have ho := hl.o
  refine j_new h inlX7 tyX7 tyX7_ok (xr_1 0 rfl) (xr_1 1 rfl) (xr_1 2 rfl) (ci := 8) rfl (fs := [.null, .null, .int 0, .null, .null, .null, .int 0, .null, .null]) (fun j hj => by rcases (show j = 0 ∨ j = 1 ∨ j = 2 ∨ j = 3 ∨ j = 4 ∨ j = 5 ∨ j = 6 ∨ j = 7 ∨ j = 8 by omega) with rfl | rfl | rfl | rfl | rfl | rfl | rfl | rfl | rfl <;> rfl) (Nat.le_of_ble_eq_true rfl) (Nat.le_of_ble_eq_true rfl) dL_law_0 (fun r => ?_)
  refine j_dup h dL_law_3 rfl ?_
  refine j_initO ho (c_X7_init l D cy _) (xr_1 6 rfl) (xr_1 7 rfl) (xr_1 2 rfl) (xr_1 8 rfl) rfl rfl rfl (by decide +kernel) ⟨Nat.le_of_ble_eq_true rfl, Nat.le_of_ble_eq_true rfl⟩ (lst := []) rfl (Nat.le_of_ble_eq_true rfl) dL_law_4 ⟨Nat.le_of_ble_eq_true rfl, Nat.le_of_ble_eq_true rfl⟩ (fun w hw => ?_)
  obtain ⟨L, byI, byL, hL, rfl⟩ := hw
  subst hL
  refine j_astore_n h (lv' := [(1, _), (0, _)]) dL_law_7 rfl (by decide) rfl ?_
  refine j_new h inlX8 tyX8 tyX8_ok (xr_1 3 rfl) (xr_1 4 rfl) (xr_1 5 rfl) (ci := 9) rfl (fs := [.null, .null, .null, .int 0, .null, .int 0, .null, .int 0, .null, .int 0, .int 0, .int 0, .null, .int 0, .int 0, .null, .int 0, .int 0]) (fun j hj => by rcases (show j = 0 ∨ j = 1 ∨ j = 2 ∨ j = 3 ∨ j = 4 ∨ j = 5 ∨ j = 6 ∨ j = 7 ∨ j = 8 ∨ j = 9 ∨ j = 10 ∨ j = 11 ∨ j = 12 ∨ j = 13 ∨ j = 14 ∨ j = 15 ∨ j = 16 ∨ j = 17 by omega) with rfl | rfl | rfl | rfl | rfl | rfl | rfl | rfl | rfl | rfl | rfl | rfl | rfl | rfl | rfl | rfl | rfl | rfl <;> rfl) (Nat.le_of_ble_eq_true rfl) (Nat.le_of_ble_eq_true rfl) dL_law_8 (fun r => ?_)
  refine j_dup h dL_law_11 rfl ?_
  refine j_initV0 h (c_X8_init l D cy _) (xr_6 3 rfl) (xr_6 4 rfl) (xr_1 5 rfl) (xr_6 5 rfl) rfl rfl rfl (by decide +kernel) ⟨Nat.le_of_ble_eq_true rfl, Nat.le_of_ble_eq_true rfl⟩ (lst := [] ++ CW cy L _) rfl (Nat.le_of_ble_eq_true rfl) dL_law_12 ⟨Nat.le_of_ble_eq_true rfl, Nat.le_of_ble_eq_true rfl⟩ (fun w hw => ?_)
  obtain ⟨ad, ha, rfl⟩ := hw
  subst ha
  refine j_astore_n h (lv' := [(2, _), (1, _), (0, _)]) dL_law_15 rfl (by decide) rfl ?_
  refine j_iconst h (v := 0) dL_law_16 (by decide) ?_
  refine j_istore_n h (lv' := [(3, _), (2, _), (1, _), (0, _)]) dL_law_17 rfl (by decide) rfl ?_
  refine j_sub h [0, 3, 2, 1] rfl ?_
  exact lw_loop hl hLs hend L ad 513 0 _ _ rfl (by decide) (INV_0 byI byL)
