/-! ===== small constructors ===== -/
abbrev rm_X0_init : Room := { frames := 1, cells := 0, slots := 0, locals := 20 }
theorem c_X0_init (l : Launch) (D : gD) (cy : Nat → ClassId) (b : Nat) : CtV l D cy wI yX0_init cX0_init 1 none rm_X0_init [.ref b] ([(b, .inr (1, [.int 0, .int 0, .int 0, .int 0]))]) (fun w => w = [(b, .inr (1, [.int 0, .int 0, .int 0, .int 0]))]) 0 0 := by
  refine m_entV cX0_init 1 (by decide) (Nat.le_of_ble_eq_true rfl) (fun J h hR => ?_)
  show J ([(b, .inr (1, [.int 0, .int 0, .int 0, .int 0]))]) (0, 0) [(0, .ref b)] 0 []
  refine j_aload_n h dX0_init_0 rfl 0 rfl ?_
  refine j_objInit h (xr_3 18 rfl) (xr_1 14 rfl) (xr_1 15 rfl) (Nat.le_of_ble_eq_true rfl) (Nat.le_of_ble_eq_true rfl) dX0_init_1 ?_
  exact hR _ _ _ dX0_init_4 rfl

abbrev rm_X6_init : Room := { frames := 1, cells := 0, slots := 0, locals := 20 }
theorem c_X6_init (l : Launch) (D : gD) (cy : Nat → ClassId) (b : Nat) : CtV l D cy wI yX6_init cX6_init 1 none rm_X6_init [.ref b] ([(b, .inr (7, [.int 0, .int 0, .int 0, .int 0, .int 0, .int 0, .int 0, .int 0]))]) (fun w => w = [(b, .inr (7, [.int 0, .int 0, .int 0, .int 0, .int 0, .int 0, .int 0, .int 0]))]) 0 0 := by
  refine m_entV cX6_init 1 (by decide) (Nat.le_of_ble_eq_true rfl) (fun J h hR => ?_)
  show J ([(b, .inr (7, [.int 0, .int 0, .int 0, .int 0, .int 0, .int 0, .int 0, .int 0]))]) (0, 0) [(0, .ref b)] 0 []
  refine j_aload_n h dX6_init_0 rfl 0 rfl ?_
  refine j_objInit h (xr_3 15 rfl) (xr_1 14 rfl) (xr_1 15 rfl) (Nat.le_of_ble_eq_true rfl) (Nat.le_of_ble_eq_true rfl) dX6_init_1 ?_
  exact hR _ _ _ dX6_init_4 rfl

abbrev rm_X5_init : Room := { frames := 1, cells := 1, slots := 2, locals := 20 }
theorem c_X5_init (l : Launch) (D : gD) (cy : Nat → ClassId) (b : Nat) : CtV l D cy wI yX5_init cX5_init 1 none rm_X5_init [.ref b] ([(b, .inr (6, [.int 0, .int 0, .int 0, .int 0, .int 0, .int 0, .int 0, .int 0, .null]))]) (fun w => ∃ r1, w = [(b, .inr (6, [.int 0, .int 0, .int 0, .int 0, .int 0, .int 0, .int 0, .int 0, .ref r1])), (r1, .inl (cy 0, 2, .inl (fun _ => 0)))]) 1 2 := by
  refine m_entV cX5_init 1 (by decide) (Nat.le_of_ble_eq_true rfl) (fun J h hR => ?_)
  show J ([(b, .inr (6, [.int 0, .int 0, .int 0, .int 0, .int 0, .int 0, .int 0, .int 0, .null]))]) (0, 0) [(0, .ref b)] 0 []
  refine j_aload_n h dX5_init_0 rfl 0 rfl ?_
  refine j_objInit h (xr_3 11 rfl) (xr_1 14 rfl) (xr_1 15 rfl) (Nat.le_of_ble_eq_true rfl) (Nat.le_of_ble_eq_true rfl) dX5_init_1 ?_
  refine j_aload_n h dX5_init_4 rfl 0 rfl ?_
  refine j_iconst h (v := 2) dX5_init_5 (by decide) ?_
  refine j_newi h (xr_1 3 rfl) (N := 2) (by decide) (by decide) (by decide) (by decide) (by decide) dX5_init_6 (fun r1 => ?_)
  refine j_putF h inlX5 tyX5 tyX5_ok nmX5 0 rfl rfl 8 (by decide) (xr_3 12 rfl) rfl rfl rfl rfl rfl rfl (Nat.le_of_ble_eq_true rfl) dX5_init_8 (u' := [(b, .inr (6, [.int 0, .int 0, .int 0, .int 0, .int 0, .int 0, .int 0, .int 0, .ref r1])), (r1, .inl (cy 0, 2, .inl (fun _ => 0)))]) rfl ?_
  exact hR _ _ _ dX5_init_11 ⟨r1, rfl⟩

abbrev rm_X4_init : Room := { frames := 1, cells := 2, slots := 6, locals := 20 }
theorem c_X4_init (l : Launch) (D : gD) (cy : Nat → ClassId) (b : Nat) : CtV l D cy wI yX4_init cX4_init 1 none rm_X4_init [.ref b] ([(b, .inr (5, [.null, .null, .int 0]))]) (fun w => ∃ r1 r2, w = [(b, .inr (5, [.ref r1, .ref r2, .int 0])), (r1, .inl (cy 0, 3, .inl (fun _ => 0))), (r2, .inl (cy 0, 3, .inl (fun _ => 0)))]) 2 6 := by
  refine m_entV cX4_init 1 (by decide) (Nat.le_of_ble_eq_true rfl) (fun J h hR => ?_)
  show J ([(b, .inr (5, [.null, .null, .int 0]))]) (0, 0) [(0, .ref b)] 0 []
  refine j_aload_n h dX4_init_0 rfl 0 rfl ?_
  refine j_objInit h (xr_6 3 rfl) (xr_1 14 rfl) (xr_1 15 rfl) (Nat.le_of_ble_eq_true rfl) (Nat.le_of_ble_eq_true rfl) dX4_init_1 ?_
  refine j_aload_n h dX4_init_4 rfl 0 rfl ?_
  refine j_iconst h (v := 3) dX4_init_5 (by decide) ?_
  refine j_newi h (xr_1 3 rfl) (N := 3) (by decide) (by decide) (by decide) (by decide) (by decide) dX4_init_6 (fun r1 => ?_)
  refine j_putF h inlX4 tyX4 tyX4_ok nmX4 0 rfl rfl 0 (by decide) (xr_6 4 rfl) rfl rfl rfl rfl rfl rfl (Nat.le_of_ble_eq_true rfl) dX4_init_8 (u' := [(b, .inr (5, [.ref r1, .null, .int 0])), (r1, .inl (cy 0, 3, .inl (fun _ => 0)))]) rfl ?_
  refine j_aload_n h dX4_init_11 rfl 0 rfl ?_
  refine j_iconst h (v := 3) dX4_init_12 (by decide) ?_
  refine j_newi h (xr_1 3 rfl) (N := 3) (by decide) (by decide) (by decide) (by decide) (by decide) dX4_init_13 (fun r2 => ?_)
  refine j_putF h inlX4 tyX4 tyX4_ok nmX4 0 rfl rfl 1 (by decide) (xr_6 5 rfl) rfl rfl rfl rfl rfl rfl (Nat.le_of_ble_eq_true rfl) dX4_init_15 (u' := [(b, .inr (5, [.ref r1, .ref r2, .int 0])), (r1, .inl (cy 0, 3, .inl (fun _ => 0))), (r2, .inl (cy 0, 3, .inl (fun _ => 0)))]) rfl ?_
  exact hR _ _ _ dX4_init_18 ⟨r1, r2, rfl⟩

abbrev rm_X2_init : Room := { frames := 1, cells := 2, slots := 180, locals := 20 }
theorem c_X2_init (l : Launch) (D : gD) (cy : Nat → ClassId) (b : Nat) : CtV l D cy wI yX2_init cX2_init 1 none rm_X2_init [.ref b] ([(b, .inr (3, [.null, .null, .int 0, .int 0]))]) (fun w => ∃ r1 r2, w = [(b, .inr (3, [.ref r1, .ref r2, .int 0, .int 0])), (r1, .inl (cy 0, 30, .inl (fun _ => 0))), (r2, .inl (cy 0, 150, .inl (fun _ => 0)))]) 2 180 := by
  refine m_entV cX2_init 1 (by decide) (Nat.le_of_ble_eq_true rfl) (fun J h hR => ?_)
  show J ([(b, .inr (3, [.null, .null, .int 0, .int 0]))]) (0, 0) [(0, .ref b)] 0 []
  refine j_aload_n h dX2_init_0 rfl 0 rfl ?_
  refine j_objInit h (xr_5 21 rfl) (xr_1 14 rfl) (xr_1 15 rfl) (Nat.le_of_ble_eq_true rfl) (Nat.le_of_ble_eq_true rfl) dX2_init_1 ?_
  refine j_aload_n h dX2_init_4 rfl 0 rfl ?_
  refine j_bipush h (v := 30) dX2_init_5 (by decide) ?_
  refine j_newi h (xr_1 3 rfl) (N := 30) (by decide) (by decide) (by decide) (by decide) (by decide) dX2_init_7 (fun r1 => ?_)
  refine j_putF h inlX2 tyX2 tyX2_ok nmX2 0 rfl rfl 0 (by decide) (xr_5 22 rfl) rfl rfl rfl rfl rfl rfl (Nat.le_of_ble_eq_true rfl) dX2_init_9 (u' := [(b, .inr (3, [.ref r1, .null, .int 0, .int 0])), (r1, .inl (cy 0, 30, .inl (fun _ => 0)))]) rfl ?_
  refine j_aload_n h dX2_init_12 rfl 0 rfl ?_
  refine j_sipush h (v := 150) dX2_init_13 (by decide) ?_
  refine j_newi h (xr_1 3 rfl) (N := 150) (by decide) (by decide) (by decide) (by decide) (by decide) dX2_init_16 (fun r2 => ?_)
  refine j_putF h inlX2 tyX2 tyX2_ok nmX2 0 rfl rfl 1 (by decide) (xr_5 23 rfl) rfl rfl rfl rfl rfl rfl (Nat.le_of_ble_eq_true rfl) dX2_init_18 (u' := [(b, .inr (3, [.ref r1, .ref r2, .int 0, .int 0])), (r1, .inl (cy 0, 30, .inl (fun _ => 0))), (r2, .inl (cy 0, 150, .inl (fun _ => 0)))]) rfl ?_
  exact hR _ _ _ dX2_init_21 ⟨r1, r2, rfl⟩

abbrev rm_J5_init_d00df : Room := { frames := 1, cells := 1, slots := 16, locals := 20 }
theorem c_J5_init_d00df (l : Launch) (D : gD) (cy : Nat → ClassId) (b : Nat) : CtV l D cy wI yJ5_init_d00df cJ5_init_d00df 2 none rm_J5_init_d00df [.ref b, .int 16] ([(b, .inr (0, [.null, .int 0, .int 0, .int 0]))]) (fun w => ∃ r, w = [(b, .inr (0, [.ref r, .int 0, .int 0, .int 0])), (r, .inl (cy 5, 16, .inl (fun _ => 0)))]) 1 16 := by
  refine m_entV cJ5_init_d00df 2 (by decide) (Nat.le_of_ble_eq_true rfl) (fun J h hR => ?_)
  show J ([(b, .inr (0, [.null, .int 0, .int 0, .int 0]))]) (0, 0) [(0, .ref b), (1, .int 16)] 0 []
  refine j_aload_n h dJ5_init_d00df_0 rfl 0 rfl ?_
  refine j_objInit h (xr_5 5 rfl) (xr_1 14 rfl) (xr_1 15 rfl) (Nat.le_of_ble_eq_true rfl) (Nat.le_of_ble_eq_true rfl) dJ5_init_d00df_1 ?_
  refine j_gets h (fun _ _ _ z => z.1) (xr_5 6 rfl) rfl dJ5_init_d00df_4 ?_
  refine j_if_eq h (tgt := 25) dJ5_init_d00df_7 (by decide) (fun c => absurd c (by decide)) (fun _ => ?_)
  refine j_aload_n h dJ5_init_d00df_10 rfl 0 rfl ?_
  refine j_iload_n h dJ5_init_d00df_11 rfl 1 rfl ?_
  refine j_newb h (xr_5 7 rfl) (N := 16) (by decide) (by decide) (by decide) (by decide) (by decide) dJ5_init_d00df_12 (fun r => ?_)
  refine j_put h inlJ4 tyJ4 tyJ4_ok nmJ4 0 rfl rfl 0 (by decide) (xr_5 8 rfl) rfl rfl rfl rfl (Nat.le_of_ble_eq_true rfl) dJ5_init_d00df_14 (u' := [(b, .inr (0, [.ref r, .int 0, .int 0, .int 0])), (r, .inl (cy 5, 16, .inl (fun _ => 0)))]) rfl ?_
  refine j_aload_n h dJ5_init_d00df_17 rfl 0 rfl ?_
  refine j_iconst h (v := 0) dJ5_init_d00df_18 (by decide) ?_
  refine j_put h inlJ4 tyJ4 tyJ4_ok nmJ4 0 rfl rfl 1 (by decide) (xr_5 9 rfl) rfl rfl rfl rfl (Nat.le_of_ble_eq_true rfl) dJ5_init_d00df_19 (u' := [(b, .inr (0, [.ref r, .int 0, .int 0, .int 0])), (r, .inl (cy 5, 16, .inl (fun _ => 0)))]) rfl ?_
  refine j_goto h (tgt := 38) dJ5_init_d00df_22 (by decide) ?_
  exact hR _ _ _ dJ5_init_d00df_38 ⟨r, rfl⟩

abbrev rm_J4_init_da8c8 : Room := { frames := 2, cells := 1, slots := 16, locals := 41 }
theorem c_J4_init_da8c8 (l : Launch) (D : gD) (cy : Nat → ClassId) (b : Nat) : CtV l D cy wI yJ4_init_da8c8 cJ4_init_da8c8 1 none rm_J4_init_da8c8 [.ref b] ([(b, .inr (0, [.null, .int 0, .int 0, .int 0]))]) (fun w => ∃ r, w = [(b, .inr (0, [.ref r, .int 0, .int 0, .int 0])), (r, .inl (cy 5, 16, .inl (fun _ => 0)))]) 1 16 := by
  refine m_entV cJ4_init_da8c8 1 (by decide) (Nat.le_of_ble_eq_true rfl) (fun J h hR => ?_)
  show J ([(b, .inr (0, [.null, .int 0, .int 0, .int 0]))]) (0, 0) [(0, .ref b)] 0 []
  refine j_aload_n h dJ4_init_da8c8_0 rfl 0 rfl ?_
  refine j_bipush h (v := 16) dJ4_init_da8c8_1 (by decide) ?_
  refine j_initV h (n := 1) (c_J5_init_d00df l D cy b) (xr_5 1 rfl) (xr_5 2 rfl) (xr_5 3 rfl) (xr_5 4 rfl) rfl rfl rfl (by decide +kernel) ⟨Nat.le_of_ble_eq_true rfl, Nat.le_of_ble_eq_true rfl⟩ (lst := []) rfl rfl rfl (Nat.le_of_ble_eq_true rfl) dJ4_init_da8c8_3 ⟨by decide, by decide⟩ (fun w hw => ?_)
  exact hR _ _ _ dJ4_init_da8c8_6 hw
