/-! ===== the reference's object is made ===== -/
def mY0 : Nat → Int32 := fun k => if k = 14 then -4 else 0
def mB0 : Nat → Nat → Int32 := fun _ _ => 0
abbrev rm_X8_init : Room := { frames := 1, cells := 8, slots := 2039, locals := 21 }
set_option maxRecDepth 100000 in
set_option maxHeartbeats 4000000 in
theorem c_X8_init (l : Launch) (D : gD) (cy : Nat → ClassId) (b : Nat) : CtV l D cy wI yX8_init cX8_init 1 none rm_X8_init [.ref b] ([(b, .inr (9, [.null, .null, .null, .int 0, .null, .int 0, .null, .int 0, .null, .int 0, .int 0, .int 0, .null, .int 0, .int 0, .null, .int 0, .int 0]))]) (fun w => ∃ a : Nat → Nat, a 0 = b ∧ w = MW cy a (mY0, f_X8_begins mY0 mB0)) 8 2039 := by
  refine m_entV cX8_init 1 (by decide) (Nat.le_of_ble_eq_true rfl) (fun J h hR => ?_)
  show J ([(b, .inr (9, [.null, .null, .null, .int 0, .null, .int 0, .null, .int 0, .null, .int 0, .int 0, .int 0, .null, .int 0, .int 0, .null, .int 0, .int 0]))]) (0, 0) [(0, .ref b)] 0 []
  refine j_aload_n h dX8_init_0 rfl 0 rfl ?_
  refine j_objInit h (xr_6 6 rfl) (xr_1 10 rfl) (xr_1 11 rfl) (Nat.le_of_ble_eq_true rfl) (Nat.le_of_ble_eq_true rfl) dX8_init_1 ?_
  refine j_aload_n h dX8_init_4 rfl 0 rfl ?_
  refine j_sipush h (v := 169) dX8_init_5 (by decide) ?_
  refine j_newi h (xr_3 8 rfl) (N := 169) (by decide) (by decide) (by decide) (Nat.le_of_ble_eq_true rfl) (Nat.le_of_ble_eq_true rfl) dX8_init_8 (fun r1 => ?_)
  refine j_putF h inlX8 tyX8 tyX8_ok nmX8 0 rfl rfl 0 (by decide) (xr_6 7 rfl) rfl rfl rfl rfl rfl rfl (Nat.le_of_ble_eq_true rfl) dX8_init_10 (u' := [(b, .inr (9, [.ref r1, .null, .null, .int 0, .null, .int 0, .null, .int 0, .null, .int 0, .int 0, .int 0, .null, .int 0, .int 0, .null, .int 0, .int 0])), (r1, .inl (cy 0, 169, .inl (fun _ => 0)))]) rfl ?_
  refine j_aload_n h dX8_init_13 rfl 0 rfl ?_
  refine j_sipush h (v := 169) dX8_init_14 (by decide) ?_
  refine j_newi h (xr_3 8 rfl) (N := 169) (by decide) (by decide) (by decide) (Nat.le_of_ble_eq_true rfl) (Nat.le_of_ble_eq_true rfl) dX8_init_17 (fun r2 => ?_)
  refine j_putF h inlX8 tyX8 tyX8_ok nmX8 0 rfl rfl 1 (by decide) (xr_6 8 rfl) rfl rfl rfl rfl rfl rfl (Nat.le_of_ble_eq_true rfl) dX8_init_19 (u' := [(b, .inr (9, [.ref r1, .ref r2, .null, .int 0, .null, .int 0, .null, .int 0, .null, .int 0, .int 0, .int 0, .null, .int 0, .int 0, .null, .int 0, .int 0])), (r1, .inl (cy 0, 169, .inl (fun _ => 0))), (r2, .inl (cy 0, 169, .inl (fun _ => 0)))]) rfl ?_
  refine j_aload_n h dX8_init_22 rfl 0 rfl ?_
  refine j_sipush h (v := 1352) dX8_init_23 (by decide) ?_
  refine j_newi h (xr_3 8 rfl) (N := 1352) (by decide) (by decide) (by decide) (by decide) (Nat.le_of_ble_eq_true rfl) dX8_init_26 (fun r3 => ?_)
  refine j_putF h inlX8 tyX8 tyX8_ok nmX8 0 rfl rfl 2 (by decide) (xr_6 9 rfl) rfl rfl rfl rfl rfl rfl (Nat.le_of_ble_eq_true rfl) dX8_init_28 (u' := [(b, .inr (9, [.ref r1, .ref r2, .ref r3, .int 0, .null, .int 0, .null, .int 0, .null, .int 0, .int 0, .int 0, .null, .int 0, .int 0, .null, .int 0, .int 0])), (r1, .inl (cy 0, 169, .inl (fun _ => 0))), (r2, .inl (cy 0, 169, .inl (fun _ => 0))), (r3, .inl (cy 0, 1352, .inl (fun _ => 0)))]) rfl ?_
  refine j_aload_n h dX8_init_31 rfl 0 rfl ?_
  refine j_sipush h (v := 169) dX8_init_32 (by decide) ?_
  refine j_newi h (xr_3 8 rfl) (N := 169) (by decide) (by decide) (by decide) (Nat.le_of_ble_eq_true rfl) (Nat.le_of_ble_eq_true rfl) dX8_init_35 (fun r4 => ?_)
  refine j_putF h inlX8 tyX8 tyX8_ok nmX8 0 rfl rfl 4 (by decide) (xr_6 10 rfl) rfl rfl rfl rfl rfl rfl (Nat.le_of_ble_eq_true rfl) dX8_init_37 (u' := [(b, .inr (9, [.ref r1, .ref r2, .ref r3, .int 0, .ref r4, .int 0, .null, .int 0, .null, .int 0, .int 0, .int 0, .null, .int 0, .int 0, .null, .int 0, .int 0])), (r1, .inl (cy 0, 169, .inl (fun _ => 0))), (r2, .inl (cy 0, 169, .inl (fun _ => 0))), (r3, .inl (cy 0, 1352, .inl (fun _ => 0))), (r4, .inl (cy 0, 169, .inl (fun _ => 0)))]) rfl ?_
  refine j_aload_n h dX8_init_40 rfl 0 rfl ?_
  refine j_bipush h (v := 110) dX8_init_41 (by decide) ?_
  refine j_newi h (xr_3 8 rfl) (N := 110) (by decide) (by decide) (by decide) (Nat.le_of_ble_eq_true rfl) (Nat.le_of_ble_eq_true rfl) dX8_init_43 (fun r5 => ?_)
  refine j_putF h inlX8 tyX8 tyX8_ok nmX8 0 rfl rfl 6 (by decide) (xr_6 11 rfl) rfl rfl rfl rfl rfl rfl (Nat.le_of_ble_eq_true rfl) dX8_init_45 (u' := [(b, .inr (9, [.ref r1, .ref r2, .ref r3, .int 0, .ref r4, .int 0, .ref r5, .int 0, .null, .int 0, .int 0, .int 0, .null, .int 0, .int 0, .null, .int 0, .int 0])), (r1, .inl (cy 0, 169, .inl (fun _ => 0))), (r2, .inl (cy 0, 169, .inl (fun _ => 0))), (r3, .inl (cy 0, 1352, .inl (fun _ => 0))), (r4, .inl (cy 0, 169, .inl (fun _ => 0))), (r5, .inl (cy 0, 110, .inl (fun _ => 0)))]) rfl ?_
  refine j_aload_n h dX8_init_48 rfl 0 rfl ?_
  refine j_bipush h (v := 60) dX8_init_49 (by decide) ?_
  refine j_newc h (xr_6 12 rfl) (N := 60) (by decide) (by decide) (by decide) (Nat.le_of_ble_eq_true rfl) (Nat.le_of_ble_eq_true rfl) dX8_init_51 (fun r6 => ?_)
  refine j_putF h inlX8 tyX8 tyX8_ok nmX8 0 rfl rfl 8 (by decide) (xr_6 13 rfl) rfl rfl rfl rfl rfl rfl (Nat.le_of_ble_eq_true rfl) dX8_init_53 (u' := [(b, .inr (9, [.ref r1, .ref r2, .ref r3, .int 0, .ref r4, .int 0, .ref r5, .int 0, .ref r6, .int 0, .int 0, .int 0, .null, .int 0, .int 0, .null, .int 0, .int 0])), (r1, .inl (cy 0, 169, .inl (fun _ => 0))), (r2, .inl (cy 0, 169, .inl (fun _ => 0))), (r3, .inl (cy 0, 1352, .inl (fun _ => 0))), (r4, .inl (cy 0, 169, .inl (fun _ => 0))), (r5, .inl (cy 0, 110, .inl (fun _ => 0))), (r6, .inl (cy 6, 60, .inl (fun _ => 0)))]) rfl ?_
  refine j_aload_n h dX8_init_56 rfl 0 rfl ?_
  refine j_iconst h (v := 4) dX8_init_57 (by decide) ?_
  refine j_newi h (xr_3 8 rfl) (N := 4) (by decide) (by decide) (by decide) (Nat.le_of_ble_eq_true rfl) (Nat.le_of_ble_eq_true rfl) dX8_init_58 (fun r7 => ?_)
  refine j_putF h inlX8 tyX8 tyX8_ok nmX8 0 rfl rfl 12 (by decide) (xr_6 14 rfl) rfl rfl rfl rfl rfl rfl (Nat.le_of_ble_eq_true rfl) dX8_init_60 (u' := [(b, .inr (9, [.ref r1, .ref r2, .ref r3, .int 0, .ref r4, .int 0, .ref r5, .int 0, .ref r6, .int 0, .int 0, .int 0, .ref r7, .int 0, .int 0, .null, .int 0, .int 0])), (r1, .inl (cy 0, 169, .inl (fun _ => 0))), (r2, .inl (cy 0, 169, .inl (fun _ => 0))), (r3, .inl (cy 0, 1352, .inl (fun _ => 0))), (r4, .inl (cy 0, 169, .inl (fun _ => 0))), (r5, .inl (cy 0, 110, .inl (fun _ => 0))), (r6, .inl (cy 6, 60, .inl (fun _ => 0))), (r7, .inl (cy 0, 4, .inl (fun _ => 0)))]) rfl ?_
  refine j_aload_n h dX8_init_63 rfl 0 rfl ?_
  refine j_bipush h (v := (-4)) dX8_init_64 (by decide) ?_
  refine j_put h inlX8 tyX8 tyX8_ok nmX8 0 rfl rfl 14 (by decide) (xr_6 15 rfl) rfl rfl rfl rfl (Nat.le_of_ble_eq_true rfl) dX8_init_66 (u' := [(b, .inr (9, [.ref r1, .ref r2, .ref r3, .int 0, .ref r4, .int 0, .ref r5, .int 0, .ref r6, .int 0, .int 0, .int 0, .ref r7, .int 0, .int (-4), .null, .int 0, .int 0])), (r1, .inl (cy 0, 169, .inl (fun _ => 0))), (r2, .inl (cy 0, 169, .inl (fun _ => 0))), (r3, .inl (cy 0, 1352, .inl (fun _ => 0))), (r4, .inl (cy 0, 169, .inl (fun _ => 0))), (r5, .inl (cy 0, 110, .inl (fun _ => 0))), (r6, .inl (cy 6, 60, .inl (fun _ => 0))), (r7, .inl (cy 0, 4, .inl (fun _ => 0)))]) rfl ?_
  refine j_aload_n h dX8_init_69 rfl 0 rfl ?_
  refine j_bipush h (v := 6) dX8_init_70 (by decide) ?_
  refine j_newi h (xr_3 8 rfl) (N := 6) (by decide) (by decide) (by decide) (Nat.le_of_ble_eq_true rfl) (Nat.le_of_ble_eq_true rfl) dX8_init_72 (fun r8 => ?_)
  refine j_putF h inlX8 tyX8 tyX8_ok nmX8 0 rfl rfl 15 (by decide) (xr_6 16 rfl) rfl rfl rfl rfl rfl rfl (Nat.le_of_ble_eq_true rfl) dX8_init_74 (u' := [(b, .inr (9, [.ref r1, .ref r2, .ref r3, .int 0, .ref r4, .int 0, .ref r5, .int 0, .ref r6, .int 0, .int 0, .int 0, .ref r7, .int 0, .int (-4), .ref r8, .int 0, .int 0])), (r1, .inl (cy 0, 169, .inl (fun _ => 0))), (r2, .inl (cy 0, 169, .inl (fun _ => 0))), (r3, .inl (cy 0, 1352, .inl (fun _ => 0))), (r4, .inl (cy 0, 169, .inl (fun _ => 0))), (r5, .inl (cy 0, 110, .inl (fun _ => 0))), (r6, .inl (cy 6, 60, .inl (fun _ => 0))), (r7, .inl (cy 0, 4, .inl (fun _ => 0))), (r8, .inl (cy 0, 6, .inl (fun _ => 0)))]) rfl ?_
  refine j_aload_n h dX8_init_77 rfl 0 rfl ?_
  refine j_bV h (n := 0) (Wd1 := MW cy (fun k => [b, r1, r2, r3, r4, r5, r6, r7, r8].getD k 0)) (u1 := (mY0, mB0)) (wr := []) (c_X8_begins l D cy (fun k => [b, r1, r2, r3, r4, r5, r6, r7, r8].getD k 0) mY0 mB0) rfl (xg_V (xr_6 17 rfl) (xr_6 18 rfl) (xr_6 19 rfl) (xr_1 5 rfl) (xr_6 20 rfl)) rfl rfl (by decide +kernel) ⟨Nat.le_of_ble_eq_true rfl, Nat.le_of_ble_eq_true rfl⟩ 0 rfl rfl rfl rfl rfl (Nat.le_of_ble_eq_true rfl) dX8_init_78 ⟨Nat.le_of_ble_eq_true rfl, Nat.le_of_ble_eq_true rfl⟩ (fun v hv => ?_)
  obtain ⟨z, rfl, rfl⟩ := hv
  exact hR _ _ _ dX8_init_81 ⟨(fun k => [b, r1, r2, r3, r4, r5, r6, r7, r8].getD k 0), rfl, rfl⟩
