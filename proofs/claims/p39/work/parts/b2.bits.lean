/-! ===== some, at; the bits of doubles and floats ===== -/
/-- v modulo n, from 0 -/
def sm (v n : Int32) : Int32 := if v - v / n * n < 0 then v - v / n * n + n else v - v / n * n
/-- the script's number at a place, 0 behind its end -/
def atS (D : gD) (j : Nat) : Int32 := if j < D.2.2.2.2.1 then D.2.2.2.2.2 j else 0
theorem xrem_toInt (v : Int32) {n : Nat} (h0 : 0 < n) (hn : n < 2 ^ 30) : (v - v / nI n * nI n).toInt = v.toInt.tmod n := by
  have hb : nI n ≠ -1 := fun q => by
    have := congrArg Int32.toInt q
    rw [nI_toInt (by omega), show ((-1 : Int32)).toInt = -1 by decide] at this
    omega
  have v1 := Int32.le_toInt v
  have v2 := Int32.toInt_lt v
  have e := Int.tdiv_mul_add_tmod v.toInt n
  have l1 := Int.tmod_lt_of_pos v.toInt (show (0 : Int) < n by omega)
  have l2 := Int.lt_tmod_of_pos v.toInt (show (0 : Int) < n by omega)
  have na := Int.natAbs_tmod v.toInt n
  have nb := Nat.mod_le v.toInt.natAbs (n : Int).natAbs
  have sg : (0 ≤ v.toInt → 0 ≤ v.toInt.tmod n) ∧ (v.toInt ≤ 0 → v.toInt.tmod n ≤ 0) := by
    refine ⟨Int.tmod_nonneg _, fun q => ?_⟩
    have := Int.tmod_nonneg (a := -v.toInt) n (by omega)
    rw [Int.neg_tmod] at this
    omega
  rw [Int32.toInt_sub, Int32.toInt_mul, Int32.toInt_div_of_ne_right _ _ hb, nI_toInt (by omega)]
  generalize v.toInt.tdiv n * n = x at e ⊢
  generalize v.toInt.tmod n = r at e l1 l2 na sg ⊢
  rw [Int.bmod_eq_of_le_mul_two (x := x) (by omega) (by omega), Int.bmod_eq_of_le_mul_two (by omega) (by omega)]
  omega
theorem sm_in (v : Int32) {n : Nat} (h0 : 0 < n) (hn : n < 2 ^ 30) : vp_in (sm v (nI n)) n := by
  have e := xrem_toInt v h0 hn
  have l1 := Int.tmod_lt_of_pos v.toInt (show (0 : Int) < n by omega)
  have l2 : -(n : Int) < v.toInt.tmod n := by
    have := Int.lt_tmod_of_pos v.toInt (show (0 : Int) < n by omega)
    omega
  unfold sm
  generalize v - v / nI n * nI n = r at e ⊢
  by_cases c : r < 0
  · rw [if_pos c]
    have c' := Int32.lt_iff_toInt_lt.mp c
    rw [Int32.toInt_zero] at c'
    have : r + nI n = nI (r.toInt + n).toNat := by
      apply Int32.toInt_inj.mp
      rw [Int32.toInt_add, nI_toInt (by omega), nI_toInt (by omega)]
      rw [Int.bmod_eq_of_le_mul_two (by omega) (by omega)]
      omega
    rw [this]
    exact vp_in_nI (by omega) (by omega)
  · rw [if_neg c]
    obtain ⟨j, hj, rfl⟩ := nI_of c
    rw [nI_toInt hj] at e
    exact vp_in_nI (by omega) (by omega)
abbrev rmZ : Room := { frames := 0, cells := 0, slots := 0, locals := 0 }
set_option maxRecDepth 100000 in
theorem c_L_some (l : Launch) (D : gD) (cy : Nat → ClassId) (u : va_W) (v n : Int32) (hn : ¬ n = 0) : CtI l D cy wI yL_some cL_some 3 (some .int) rmZ [.int v, .int n] u (fun r u' => r = sm v n ∧ u' = u) 0 0 := by
  refine m_entI cL_some 3 (by decide) (Nat.le_of_ble_eq_true rfl) (fun J h hR => ?_)
  show J u (0, 0) [(0, .int v), (1, .int n)] 0 []
  refine j_iload_n h dL_some_0 rfl 0 rfl ?_
  refine j_iload_n h dL_some_1 rfl 1 rfl ?_
  refine j_irem h dL_some_2 hn ?_
  refine j_istore_n h (lv' := [(2, _), (0, _), (1, _)]) dL_some_3 rfl (by decide) rfl ?_
  refine j_iload_n h dL_some_4 rfl 0 rfl ?_
  refine j_if_ge h (tgt := 14) dL_some_5 (by decide) (fun c => ?_) (fun c => ?_)
  · refine j_iload_n h dL_some_14 rfl 0 rfl ?_
    exact hR _ _ _ _ dL_some_15 ⟨(if_neg (Int32.not_lt.mpr c)).symm, rfl⟩
  · refine j_iload_n h dL_some_8 rfl 0 rfl ?_
    refine j_iload_n h dL_some_9 rfl 2 rfl ?_
    refine j_iadd h dL_some_10 ?_
    refine j_goto h (tgt := 15) dL_some_11 (by decide) ?_
    exact hR _ _ _ _ dL_some_15 ⟨(if_pos (Int32.not_le.mp c)).symm, rfl⟩
set_option maxRecDepth 100000 in
theorem c_L_at (l : Launch) (D : gD) (cy : Nat → ClassId) (u : va_W) {j : Nat} (hj : j < 2 ^ 30) (hL : D.2.2.2.2.1 ≤ 260) : CtI l D cy wI yL_at cL_at 2 (some .int) rmZ [.ref D.2.2.2.1, .int (nI j)] u (fun r u' => r = atS D j ∧ u' = u) 0 0 := by
  refine m_entI cL_at 2 (by decide) (Nat.le_of_ble_eq_true rfl) (fun J h hR => ?_)
  show J u (0, 0) [(0, .ref D.2.2.2.1), (1, .int (nI j))] 0 []
  refine j_iload_n h dL_at_0 rfl 1 rfl ?_
  refine j_aload_n h dL_at_1 rfl 0 rfl ?_
  refine j_xlen h dL_at_2 ?_
  refine j_icmp_ge h (tgt := 12) dL_at_3 (by decide) (fun c => ?_) (fun c => ?_)
  · refine j_iconst h (v := 0) dL_at_12 (by decide) ?_
    refine hR _ _ _ _ dL_at_13 ⟨(if_neg ?_).symm, rfl⟩
    have := (nI_leI (by omega) (by omega)).mp c
    omega
  · have hlt : j < D.2.2.2.2.1 := by
      rcases Nat.lt_or_ge j D.2.2.2.2.1 with q | q
      · exact q
      · exact absurd (nI_le q (by omega)) c
    refine j_aload_n h dL_at_6 rfl 0 rfl ?_
    refine j_iload_n h dL_at_7 rfl 1 rfl ?_
    refine j_xld h j hlt (by omega) dL_at_8 ?_
    refine j_goto h (tgt := 13) dL_at_9 (by decide) ?_
    exact hR _ _ _ _ dL_at_13 ⟨(if_pos hlt).symm, rfl⟩
theorem m_entIF {l : Launch} {D : gD} {cy : Nat → ClassId} {S : Type} {Wd : S → va_W} {y : MethodName} {rm : Room} {av : List Value} {u : S} {post : Int32 → S → Prop} {mc ms : Nat} (cc : ByteArray) (n : Nat) (hy : plainFor y = true) (hn : (lg_sl av).length ≤ n)
    (body : ∀ J : JT S, OKJ l D cy Wd J cc n y rm → RtI J cc post mc ms → J u (0, 0) (lv_args 0 av) 0 []) : CtI l D cy Wd y cc n (some .int) rm av u post mc ms := by
  intro sz
  refine va_MetF (cc := cc) (maxL := n) (ret := some .int) hy rfl ?_
  intro p e s m args below meth c s₁ B hml hv
  obtain ⟨rfl, hsz, hP, hK, hD0, hZ0⟩ := hv
  subst hsz
  have hD := hD0.self (sz := s.heap.size)
  have hl := lv_entry av (n := n) hn
  rw [lg_entry_eq]
  generalize (lg_sl av ++ List.replicate (n - (lg_sl av).length) Slot.unset).toArray = ls at hl ⊢
  refine body (fun (u : S) (k : Nat × Nat) (lv : List (Nat × Value)) (pc : Nat) (st : List Value) => ∀ (H : Heap) (locs : List Loc) (ls : Array Slot), va_P D.1 vwCl (Wd u) H → va_D _ (Wd u) → va_S _ s.heap H locs → lv_has ls n lv → W p l e _ s m _ below meth c H locs k.1 k.2 _ (F0 m pc ls st)) ⟨p, e, s, m, _, below, meth, c, va_A (Wd u) s.heap.size, s.heap, _, ⟨B.exec, B.bytes, hml, findClass_of_methodNamed B.named, fun w hw => atoms_spec (ws := wsB y cc n (some .int)) B.pre w (List.mem_cons_of_mem _ hw)⟩, hK, fun q hq => Or.inr hq, (name_of_methodNamed B.named B.method).1, rfl, hZ0, rfl⟩ ?_ s.heap [] ls hP hD va_S.rf hl
  intro u' lv pc r hd hp H locs ls hP' hD' hS' hl'
  exact W.iret B.exec B.bytes B.returns (fun t ht hW => ⟨⟨r, u', rfl, hp, by rw [ht]; exact hP', va_K.moved hW.alike hK, hD'⟩, hS'.F ht⟩) hS'.2.2 hd B.notSynchronized
theorem m_entZF {l : Launch} {D : gD} {cy : Nat → ClassId} {S : Type} {Wd : S → va_W} {y : MethodName} {rm : Room} {av : List Value} {u : S} {post : Int32 → S → Prop} {mc ms : Nat} (cc : ByteArray) (n : Nat) (hy : plainFor y = true) (hn : (lg_sl av).length ≤ n)
    (body : ∀ J : JT S, OKJ l D cy Wd J cc n y rm → RtZ J cc post mc ms → J u (0, 0) (lv_args 0 av) 0 []) : CtI l D cy Wd y cc n (some .boolean) rm av u post mc ms := by
  intro sz
  refine va_MetF (cc := cc) (maxL := n) (ret := some .boolean) hy rfl ?_
  intro p e s m args below meth c s₁ B hml hv
  obtain ⟨rfl, hsz, hP, hK, hD0, hZ0⟩ := hv
  subst hsz
  have hD := hD0.self (sz := s.heap.size)
  have hl := lv_entry av (n := n) hn
  rw [lg_entry_eq]
  generalize (lg_sl av ++ List.replicate (n - (lg_sl av).length) Slot.unset).toArray = ls at hl ⊢
  refine body (fun (u : S) (k : Nat × Nat) (lv : List (Nat × Value)) (pc : Nat) (st : List Value) => ∀ (H : Heap) (locs : List Loc) (ls : Array Slot), va_P D.1 vwCl (Wd u) H → va_D _ (Wd u) → va_S _ s.heap H locs → lv_has ls n lv → W p l e _ s m _ below meth c H locs k.1 k.2 _ (F0 m pc ls st)) ⟨p, e, s, m, _, below, meth, c, va_A (Wd u) s.heap.size, s.heap, _, ⟨B.exec, B.bytes, hml, findClass_of_methodNamed B.named, fun w hw => atoms_spec (ws := wsB y cc n (some .boolean)) B.pre w (List.mem_cons_of_mem _ hw)⟩, hK, fun q hq => Or.inr hq, (name_of_methodNamed B.named B.method).1, rfl, hZ0, rfl⟩ ?_ s.heap [] ls hP hD va_S.rf hl
  intro u' lv pc r hd hr01 hp H locs ls hP' hD' hS' hl'
  exact W.zret B.exec B.bytes B.returns (by rcases hr01 with rfl | rfl <;> rfl) (fun t ht hW => ⟨⟨r, u', rfl, hp, by rw [ht]; exact hP', va_K.moved hW.alike hK, hD'⟩, hS'.F ht⟩) hS'.2.2 hd B.notSynchronized
section BS
variable {l : Launch} {D : gD} {cy : Nat → ClassId} {J : JT va_W} {cc : ByteArray} {nL : Nat} {y0 : MethodName} {R : Room} {u : va_W} {q : Nat × Nat} {lv : List (Nat × Value)} {pc : Nat} {rest : List Value}
theorem k_some (h : OKJ l D cy wI J cc nL y0 R) (hy : y0.cls = RL) {v n : Int32} (hn : ¬ n = 0) (hR : rmZ.frames + 1 ≤ R.frames ∧ 8 + (3 + 11) + rmZ.locals ≤ R.locals) (hroom : (rest.map fun v => v.category).sum ≤ 8) (hf : q.1 ≤ R.cells ∧ q.2 ≤ R.slots) (hdg : decode cc pc = .ok (.invokestatic 43, 3)) (kk : J u q lv (pc + 3) (.int (sm v n) :: rest)) : J u q lv pc (.int n :: .int v :: rest) := by
  refine j_callS h (n := 2) (c_L_some l D cy u v n hn) (by rw [hy]; exact xg_S (xr_38 6 rfl) (xr_38 7 rfl) (xr_30 2 rfl) (xr_38 8 rfl)) rfl rfl (by decide +kernel) hR rfl rfl hroom hdg hf (fun r u' hq => ?_)
  obtain ⟨rfl, rfl⟩ := hq
  exact kk
theorem k_at (h : OKJ l D cy wI J cc nL y0 R) (hy : y0.cls = RL) {j : Nat} (hj : j < 2 ^ 30) (hL : D.2.2.2.2.1 ≤ 260) (hR : rmZ.frames + 1 ≤ R.frames ∧ 8 + (2 + 11) + rmZ.locals ≤ R.locals) (hroom : (rest.map fun v => v.category).sum ≤ 8) (hf : q.1 ≤ R.cells ∧ q.2 ≤ R.slots) (hdg : decode cc pc = .ok (.invokestatic 37, 3)) (kk : J u q lv (pc + 3) (.int (atS D j) :: rest)) : J u q lv pc (.int (nI j) :: .ref D.2.2.2.1 :: rest) := by
  refine j_callS h (n := 2) (c_L_at l D cy u hj hL) (by rw [hy]; exact xg_S (xr_38 3 rfl) (xr_38 4 rfl) (xr_30 2 rfl) (xr_38 5 rfl)) rfl rfl (by decide +kernel) hR rfl rfl hroom hdg hf (fun r u' hq => ?_)
  obtain ⟨rfl, rfl⟩ := hq
  exact kk
theorem j_rawD (h : OKJ l D cy wI J cc nL y0 R) (hy : y0.cls = RJxe99ae) {x : UInt64} (hfr : 1 ≤ R.frames) (hlo : (rest.map fun v => v.category).sum + 15 ≤ R.locals) (hdg : decode cc pc = .ok (.invokestatic 134, 3)) (kk : J u q lv (pc + 3) (.long x.toInt64 :: rest)) : J u q lv pc (.double x :: rest) := by
  obtain ⟨p, e, s, m, args, below, meth, c, A, H0, Q, h0, hK, hA, hnm, hH0, hZ, rfl⟩ := h
  intro H locs ls hP hD hS hl0
  exact vn_d2l h0.1 h0.2.1 (h0.2.2.1.trans hl0.1.symm) h0.2.2.2.1 (h0.2.2.2.2 _ (by rw [hy]; exact (xr_39 1 rfl))) (h0.2.2.2.2 _ (xr_39 2 rfl)) (h0.2.2.2.2 _ (xr_39 3 rfl)) (h0.2.2.2.2 _ (xr_38 23 rfl)) hfr hlo hdg (kk H locs ls hP hD hS hl0)
theorem j_rawF (h : OKJ l D cy wI J cc nL y0 R) (hy : y0.cls = RJxf58ca) {x : UInt32} (hfr : 1 ≤ R.frames) (hlo : (rest.map fun v => v.category).sum + 15 ≤ R.locals) (hdg : decode cc pc = .ok (.invokestatic 74, 3)) (kk : J u q lv (pc + 3) (.int x.toInt32 :: rest)) : J u q lv pc (.float x :: rest) := by
  obtain ⟨p, e, s, m, args, below, meth, c, A, H0, Q, h0, hK, hA, hnm, hH0, hZ, rfl⟩ := h
  intro H locs ls hP hD hS hl0
  exact vn_f2i h0.1 h0.2.1 (h0.2.2.1.trans hl0.1.symm) h0.2.2.2.1 (h0.2.2.2.2 _ (by rw [hy]; exact (xr_39 13 rfl))) (h0.2.2.2.2 _ (xr_39 14 rfl)) (h0.2.2.2.2 _ (xr_39 15 rfl)) (h0.2.2.2.2 _ (xr_39 11 rfl)) hfr hlo hdg (kk H locs ls hP hD hS hl0)
end BS
theorem d_self {x : UInt64} (h : vf_n64 x) : FP.dcmp x x = some .eq := by
  refine Jvm.FP.Core.dcmp_self ?_
  rw [Jvm.FP.Core.ne_nan]
  unfold vf_n64 at h
  rw [UInt64.le_iff_toNat_le, UInt64.toNat_and] at h
  have e : (0x7fffffffffffffff : UInt64).toNat = 2 ^ 63 - 1 := rfl
  rw [e, Nat.and_two_pow_sub_one_eq_mod] at h
  exact h
theorem f_self {x : UInt32} (h : vf_n32 x) : FP.fcmp x x = some .eq := by
  refine Jvm.FP.Core.fcmp_self ?_
  rw [Jvm.FP.Core.ne_nan32]
  unfold vf_n32 at h
  rw [UInt32.le_iff_toNat_le, UInt32.toNat_and] at h
  have e : (0x7fffffff : UInt32).toNat = 2 ^ 31 - 1 := rfl
  rw [e, Nat.and_two_pow_sub_one_eq_mod] at h
  exact h
set_option maxRecDepth 100000 in
theorem c_Jxe99ae_isNaN (l : Launch) (D : gD) (cy : Nat → ClassId) (u : va_W) (x : UInt64) (hx : vf_n64 x) : CtI l D cy wI yJxe99ae_isNaN_b9ae7 cJxe99ae_isNaN_b9ae7 2 (some .boolean) rmZ [.double x] u (fun r u' => r = 0 ∧ u' = u) 0 0 := by
  refine m_entZ cJxe99ae_isNaN_b9ae7 2 (by decide +kernel) (Nat.le_of_ble_eq_true rfl) (fun J h hR => ?_)
  show J u (0, 0) [(0, .double x)] 0 []
  refine j_dload_n h dJxe99ae_isNaN_b9ae7_0 rfl 0 rfl ?_
  refine j_dload_n h dJxe99ae_isNaN_b9ae7_1 rfl 0 rfl ?_
  refine j_dcmp h dJxe99ae_isNaN_b9ae7_2 ?_
  rw [d_self hx]
  refine j_if_eq h (tgt := 10) dJxe99ae_isNaN_b9ae7_3 (by decide) (fun _ => ?_) (fun c => absurd rfl c)
  refine j_iconst h (v := 0) dJxe99ae_isNaN_b9ae7_10 (by decide) ?_
  exact hR _ _ _ _ dJxe99ae_isNaN_b9ae7_11 (Or.inl rfl) ⟨rfl, rfl⟩
abbrev rm_Jxe99ae_bits : Room := { frames := 1, cells := 0, slots := 0, locals := 30 }
set_option maxRecDepth 100000 in
theorem c_Jxe99ae_bits (l : Launch) (D : gD) (cy : Nat → ClassId) (u : va_W) (x : UInt64) (hx : vf_n64 x) : CtL l D cy wI yJxe99ae_doubleToLongBits_ccdee cJxe99ae_doubleToLongBits_ccdee 2 (some .long) rm_Jxe99ae_bits [.double x] u (fun r u' => r = x.toInt64 ∧ u' = u) 0 0 := by
  refine m_entL cJxe99ae_doubleToLongBits_ccdee 2 (by decide +kernel) (Nat.le_of_ble_eq_true rfl) (fun J h hR => ?_)
  show J u (0, 0) [(0, .double x)] 0 []
  refine j_dload_n h dJxe99ae_doubleToLongBits_ccdee_0 rfl 0 rfl ?_
  refine j_callS h (n := 1) (c_Jxe99ae_isNaN l D cy u x hx) (xg_S (xr_39 6 rfl) (xr_39 7 rfl) (xr_38 23 rfl) (xr_39 8 rfl)) rfl rfl (by decide +kernel) ⟨Nat.le_of_ble_eq_true rfl, Nat.le_of_ble_eq_true rfl⟩ rfl rfl (Nat.le_of_ble_eq_true rfl) dJxe99ae_doubleToLongBits_ccdee_1 ⟨Nat.le_refl _, Nat.le_refl _⟩ (fun r u' hq => ?_)
  obtain ⟨rfl, rfl⟩ := hq
  refine j_if_ne h (tgt := 12) dJxe99ae_doubleToLongBits_ccdee_4 (by decide) (fun c => absurd rfl c) (fun _ => ?_)
  refine j_dload_n h dJxe99ae_doubleToLongBits_ccdee_7 rfl 0 rfl ?_
  refine j_rawD h rfl (Nat.le_of_ble_eq_true rfl) (Nat.le_of_ble_eq_true rfl) dJxe99ae_doubleToLongBits_ccdee_8 ?_
  exact hR _ _ _ _ dJxe99ae_doubleToLongBits_ccdee_11 ⟨rfl, rfl⟩
set_option maxRecDepth 100000 in
theorem c_Jxf58ca_isNaN (l : Launch) (D : gD) (cy : Nat → ClassId) (u : va_W) (x : UInt32) (hx : vf_n32 x) : CtI l D cy wI yJxf58ca_isNaN_12338 cJxf58ca_isNaN_12338 1 (some .boolean) rmZ [.float x] u (fun r u' => r = 0 ∧ u' = u) 0 0 := by
  refine m_entZF cJxf58ca_isNaN_12338 1 (by decide +kernel) (Nat.le_of_ble_eq_true rfl) (fun J h hR => ?_)
  show J u (0, 0) [(0, .float x)] 0 []
  refine j_fload_n h dJxf58ca_isNaN_12338_0 rfl 0 rfl ?_
  refine j_fload_n h dJxf58ca_isNaN_12338_1 rfl 0 rfl ?_
  refine j_fcmp h dJxf58ca_isNaN_12338_2 ?_
  rw [f_self hx]
  refine j_if_eq h (tgt := 10) dJxf58ca_isNaN_12338_3 (by decide) (fun _ => ?_) (fun c => absurd rfl c)
  refine j_iconst h (v := 0) dJxf58ca_isNaN_12338_10 (by decide) ?_
  exact hR _ _ _ _ dJxf58ca_isNaN_12338_11 (Or.inl rfl) ⟨rfl, rfl⟩
abbrev rm_Jxf58ca_bits : Room := { frames := 1, cells := 0, slots := 0, locals := 30 }
set_option maxRecDepth 100000 in
theorem c_Jxf58ca_bits (l : Launch) (D : gD) (cy : Nat → ClassId) (u : va_W) (x : UInt32) (hx : vf_n32 x) : CtI l D cy wI yJxf58ca_floatToIntBits_5c35a cJxf58ca_floatToIntBits_5c35a 1 (some .int) rm_Jxf58ca_bits [.float x] u (fun r u' => r = x.toInt32 ∧ u' = u) 0 0 := by
  refine m_entIF cJxf58ca_floatToIntBits_5c35a 1 (by decide +kernel) (Nat.le_of_ble_eq_true rfl) (fun J h hR => ?_)
  show J u (0, 0) [(0, .float x)] 0 []
  refine j_fload_n h dJxf58ca_floatToIntBits_5c35a_0 rfl 0 rfl ?_
  refine j_callS h (n := 1) (c_Jxf58ca_isNaN l D cy u x hx) (xg_S (xr_39 18 rfl) (xr_39 19 rfl) (xr_39 11 rfl) (xr_39 20 rfl)) rfl rfl (by decide +kernel) ⟨Nat.le_of_ble_eq_true rfl, Nat.le_of_ble_eq_true rfl⟩ rfl rfl (Nat.le_of_ble_eq_true rfl) dJxf58ca_floatToIntBits_5c35a_1 ⟨Nat.le_refl _, Nat.le_refl _⟩ (fun r u' hq => ?_)
  obtain ⟨rfl, rfl⟩ := hq
  refine j_if_ne h (tgt := 12) dJxf58ca_floatToIntBits_5c35a_4 (by decide) (fun c => absurd rfl c) (fun _ => ?_)
  refine j_fload_n h dJxf58ca_floatToIntBits_5c35a_7 rfl 0 rfl ?_
  refine j_rawF h rfl (Nat.le_of_ble_eq_true rfl) (Nat.le_of_ble_eq_true rfl) dJxf58ca_floatToIntBits_5c35a_8 ?_
  exact hR _ _ _ _ dJxf58ca_floatToIntBits_5c35a_11 ⟨rfl, rfl⟩
section BS2
variable {l : Launch} {D : gD} {cy : Nat → ClassId} {J : JT va_W} {cc : ByteArray} {nL : Nat} {y0 : MethodName} {R : Room} {u : va_W} {q : Nat × Nat} {lv : List (Nat × Value)} {pc : Nat} {rest : List Value}
theorem k_dbits (h : OKJ l D cy wI J cc nL y0 R) (hy : y0.cls = RL) {x : UInt64} (hx : vf_n64 x) (hR : rm_Jxe99ae_bits.frames + 1 ≤ R.frames ∧ 8 + (2 + 11) + rm_Jxe99ae_bits.locals ≤ R.locals) (hroom : (rest.map fun v => v.category).sum ≤ 8) (hf : q.1 ≤ R.cells ∧ q.2 ≤ R.slots) (hdg : decode cc pc = .ok (.invokestatic 68, 3)) (kk : J u q lv (pc + 3) (.long x.toInt64 :: rest)) : J u q lv pc (.double x :: rest) := by
  refine j_callSL h (n := 1) (c_Jxe99ae_bits l D cy u x hx) (by rw [hy]; exact xg_S (xr_38 21 rfl) (xr_38 22 rfl) (xr_38 23 rfl) (xr_39 0 rfl)) rfl rfl (by decide +kernel) hR rfl rfl hroom hdg hf (fun r u' hq => ?_)
  obtain ⟨rfl, rfl⟩ := hq
  exact kk
theorem k_fbits (h : OKJ l D cy wI J cc nL y0 R) (hy : y0.cls = RL) {x : UInt32} (hx : vf_n32 x) (hR : rm_Jxf58ca_bits.frames + 1 ≤ R.frames ∧ 8 + (1 + 11) + rm_Jxf58ca_bits.locals ≤ R.locals) (hroom : (rest.map fun v => v.category).sum ≤ 8) (hf : q.1 ≤ R.cells ∧ q.2 ≤ R.slots) (hdg : decode cc pc = .ok (.invokestatic 78, 3)) (kk : J u q lv (pc + 3) (.int x.toInt32 :: rest)) : J u q lv pc (.float x :: rest) := by
  refine j_callS h (n := 1) (c_Jxf58ca_bits l D cy u x hx) (by rw [hy]; exact xg_S (xr_39 9 rfl) (xr_39 10 rfl) (xr_39 11 rfl) (xr_39 12 rfl)) rfl rfl (by decide +kernel) hR rfl rfl hroom hdg hf (fun r u' hq => ?_)
  obtain ⟨rfl, rfl⟩ := hq
  exact kk
end BS2
theorem ws_n {M : gM} {X : Nat → Int32} {A : Nat → Nat → Int32} : vf_n64 (f_X7_winShare M X A) := by
  unfold f_X7_winShare
  rw [bd_x]
  by_cases c : f_X1_endsClosed M = 0
  · rw [if_pos c]
    unfold vf_n64
    decide +kernel
  · rw [if_neg c]; exact n64 _ _ c
theorem mw_n {M : gM} {X : Nat → Int32} {A : Nat → Nat → Int32} : vf_n32 (f_X7_meanWet M X A) := by
  unfold f_X7_meanWet
  rw [bd_x]
  by_cases c : M.1 3 = 0
  · rw [if_pos c]
    unfold vf_n32
    decide +kernel
  · rw [if_neg c]; exact n32 _ _ c
