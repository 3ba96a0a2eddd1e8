/-! ===== String constants: calls on them, their fields, their bytes ===== -/
section J2
variable {l : Launch} {D : gD} {cy : Nat → ClassId} {S : Type} {Wd : S → va_W} {J : JT S} {cc : ByteArray} {nL : Nat} {y0 : MethodName} {R : Room} {u : S} {q : Nat × Nat} {lv : List (Nat × Value)} {pc : Nat} {rest : List Value}
theorem j_kI (h : OKJ l D cy Wd J cc nL y0 R) {y : MethodName} {rm : Room} {As : List Value} {b : Nat} {post : Int32 → S → Prop} {mc ms index n maxL : Nat} {C : String} {bytes : ByteArray} {ret : Option FieldType} (hM : CtI l D cy Wd y bytes maxL ret rm (.ref b :: As) u post mc ms) (hG : GoodIn wsL_law (wsV y0.cls index C y (wsB y bytes maxL ret))) (hrc : rm.cells = mc) (hrs : rm.slots = ms)
    (hd : y.cls = C ∧ y.cls ≠ "java/lang/invoke/MethodHandle" ∧ y.cls ≠ "java/lang/invoke/VarHandle" ∧ (parseMethodDescriptor y.desc).map (fun d => d.parameters.length) = some n) (hR : rm.frames + 1 ≤ R.frames ∧ 8 + (maxL + 11) + rm.locals ≤ R.locals) {i0 : Nat} (hb : D.2.1 i0 = b) (hi : i0 < 17) (hC : C = "java/lang/String")
    {st : List Value} (hst : st = As.reverse ++ .ref b :: rest) (hn : As.length = n) (hroom : (rest.map fun v => v.category).sum ≤ 8) (hdg : decode cc pc = .ok (.invokevirtual index, 3)) (hf : q.1 + mc ≤ R.cells ∧ q.2 + ms ≤ R.slots)
    (kk : ∀ (r : Int32) (u' : S), post r u' → J u' (q.1 + mc, q.2 + ms) lv (pc + 3) (.int r :: rest)) : J u q lv pc st := by
  obtain ⟨p, e, s, m, args, below, meth, c, A, H0, Q, h0, hK, hA, hnm', hH0, hZ, rfl⟩ := h
  intro H locs ls hP hD hS hl0
  have hF : ∀ q, va_A (Wd u) H.size q → A q := fun q hq => hq.elim (fun ⟨k, e, hk⟩ => hD.2 k _ hk) (fun hz => hA q (Nat.le_trans hS.1 hz))
  refine va_calli (va_runV (As := As) (rest := rest) h0 (hM H.size) (cwV n h0.2.2.2.2 hG rfl hrc hrs hd hR) ⟨wPre_blind, hb ▸ hC ▸ hZ.2.2.2.2.1.recv hi (show va_S A s.heap H locs from hH0 ▸ hS), fun U hU hW => ⟨rfl, by rw [hU], by rw [hU]; exact hP, va_K.moved hW.alike hK, hD.weaken (fun _ _ _ _ => trivial), by rw [hU]; exact ((hZ.kept (hH0 ▸ hS.2.1)).narrow hF).warm hW⟩⟩ rfl hn hl0.1 hst (lv_room hroom) hdg hf) hS (fun q _ h => hF q h) hF (fun r u' t H1 locs1 ht hvm hw hB hz1 hk1 hS1 => ?_)
  exact kk r u' hw H1 locs1 ls (ht ▸ hB.1) (hB.2.2.weaken (fun k q _ hq => hF _ hq)) hS1 hl0
theorem j_kV (h : OKJ l D cy Wd J cc nL y0 R) {y : MethodName} {rm : Room} {As : List Value} {b : Nat} {post : S → Prop} {mc ms index n maxL : Nat} {C : String} {bytes : ByteArray} {ret : Option FieldType} (hM : CtV l D cy Wd y bytes maxL ret rm (.ref b :: As) u post mc ms) (hG : GoodIn wsL_law (wsV y0.cls index C y (wsB y bytes maxL ret))) (hrc : rm.cells = mc) (hrs : rm.slots = ms)
    (hd : y.cls = C ∧ y.cls ≠ "java/lang/invoke/MethodHandle" ∧ y.cls ≠ "java/lang/invoke/VarHandle" ∧ (parseMethodDescriptor y.desc).map (fun d => d.parameters.length) = some n) (hR : rm.frames + 1 ≤ R.frames ∧ 8 + (maxL + 11) + rm.locals ≤ R.locals) {i0 : Nat} (hb : D.2.1 i0 = b) (hi : i0 < 17) (hC : C = "java/lang/String")
    {st : List Value} (hst : st = As.reverse ++ .ref b :: rest) (hn : As.length = n) (hroom : (rest.map fun v => v.category).sum ≤ 8) (hdg : decode cc pc = .ok (.invokevirtual index, 3)) (hf : q.1 + mc ≤ R.cells ∧ q.2 + ms ≤ R.slots)
    (kk : ∀ u' : S, post u' → J u' (q.1 + mc, q.2 + ms) lv (pc + 3) rest) : J u q lv pc st := by
  obtain ⟨p, e, s, m, args, below, meth, c, A, H0, Q, h0, hK, hA, hnm', hH0, hZ, rfl⟩ := h
  intro H locs ls hP hD hS hl0
  have hF : ∀ q, va_A (Wd u) H.size q → A q := fun q hq => hq.elim (fun ⟨k, e, hk⟩ => hD.2 k _ hk) (fun hz => hA q (Nat.le_trans hS.1 hz))
  refine va_callv (va_runV (As := As) (rest := rest) h0 (hM H.size) (cwV n h0.2.2.2.2 hG rfl hrc hrs hd hR) ⟨wPre_blind, hb ▸ hC ▸ hZ.2.2.2.2.1.recv hi (show va_S A s.heap H locs from hH0 ▸ hS), fun U hU hW => ⟨rfl, by rw [hU], by rw [hU]; exact hP, va_K.moved hW.alike hK, hD.weaken (fun _ _ _ _ => trivial), by rw [hU]; exact ((hZ.kept (hH0 ▸ hS.2.1)).narrow hF).warm hW⟩⟩ rfl hn hl0.1 hst (lv_room hroom) hdg hf) hS (fun q _ h => hF q h) hF (fun u' t H1 locs1 ht hvm hw hB hz1 hk1 hS1 => ?_)
  exact kk u' hw H1 locs1 ls (ht ▸ hB.1) (hB.2.2.weaken (fun k q _ hq => hF _ hq)) hS1 hl0
theorem j_kval (h : OKJ l D cy Wd J cc nL y0 R) {index i : Nat} (hi : i < 17) (hlink : Cond.fieldLink y0.cls index "java/lang/String" "value" "[B" ∈ wsL_law) (hdg : decode cc pc = .ok (.getfield index, 3)) (kk : J u q lv (pc + 3) (.ref (D.2.2.1 i) :: rest)) : J u q lv pc (.ref (D.2.1 i) :: rest) := by
  obtain ⟨p, e, s, m, args, below, meth, c, A, H0, Q, h0, hK, hA, hnm', hH0, hZ, rfl⟩ := h
  intro H locs ls hP hD hS hl0
  subst hH0
  exact vk_getf h0.1 h0.2.1 (hZ.2.2.2.2.1.got hi).2.2.1 hS h0.2.2.2.1 (h0.2.2.2.2 _ hlink) (fun x hx => hx) hdg (kk H locs ls hP hD hS hl0)
theorem j_kcod (h : OKJ l D cy Wd J cc nL y0 R) {index i : Nat} (hi : i < 17) (hlink : Cond.fieldLink y0.cls index "java/lang/String" "coder" "B" ∈ wsL_law) (hdg : decode cc pc = .ok (.getfield index, 3)) (kk : J u q lv (pc + 3) (.int 0 :: rest)) : J u q lv pc (.ref (D.2.1 i) :: rest) := by
  obtain ⟨p, e, s, m, args, below, meth, c, A, H0, Q, h0, hK, hA, hnm', hH0, hZ, rfl⟩ := h
  intro H locs ls hP hD hS hl0
  subst hH0
  exact vk_getf h0.1 h0.2.1 (hZ.2.2.2.2.1.got hi).2.1 hS h0.2.2.2.1 (h0.2.2.2.2 _ hlink) (fun x hx => hx) hdg (kk H locs ls hP hD hS hl0)
theorem j_klen (h : OKJ l D cy Wd J cc nL y0 R) {i : Nat} (hi : i < 17) (hdg : decode cc pc = .ok (.arraylength, 1)) (kk : J u q lv (pc + 1) (.int (nI (lenS.getD i 0)) :: rest)) : J u q lv pc (.ref (D.2.2.1 i) :: rest) := by
  obtain ⟨p, e, s, m, args, below, meth, c, A, H0, Q, h0, hK, hA, hnm', hH0, hZ, rfl⟩ := h
  intro H locs ls hP hD hS hl0
  subst hH0
  exact va_tlen h0.1 h0.2.1 (hZ.2.2.2.2.1.got hi).2.2.2 hS rfl hdg (kk H locs ls hP hD hS hl0)
theorem j_kbyt (h : OKJ l D cy Wd J cc nL y0 R) {i j : Nat} (hi : i < 17) (hj : j < lenS.getD i 0) (hN : lenS.getD i 0 < 2 ^ 31) (hdg : decode cc pc = .ok (.baload, 1)) (kk : J u q lv (pc + 1) (.int ((bytS.getD i []).getD j 0) :: rest)) : J u q lv pc (.int (nI j) :: .ref (D.2.2.1 i) :: rest) := by
  obtain ⟨p, e, s, m, args, below, meth, c, A, H0, Q, h0, hK, hA, hnm', hH0, hZ, rfl⟩ := h
  intro H locs ls hP hD hS hl0
  subst hH0
  exact va_tb h0.1 h0.2.1 (hZ.2.2.2.2.1.got hi).2.2.2 hS (vp_in_nI hj hN) (by rw [nI_clamp (by omega)]) hdg (kk H locs ls hP hD hS hl0)
end J2
theorem lenS_lt {i : Nat} (hi : i < 17) : lenS.getD i 0 ≤ 15 := by
  have h : ∀ i, i < 17 → lenS.getD i 0 ≤ 15 := by decide +kernel
  exact h i hi
/-- the letter j of the constant i -/
def chS (i j : Nat) : Int32 := (bytS.getD i []).getD j 0
theorem chS_ok {i j : Nat} (hi : i < 17) (hj : j < lenS.getD i 0) : chS i j &&& 255 = chS i j ∧ ((chS i j).toUInt32 % 65536).toInt32 = chS i j := by
  have h : ∀ i, i < 17 → ∀ j, j < lenS.getD i 0 → chS i j &&& 255 = chS i j ∧ ((chS i j).toUInt32 % 65536).toInt32 = chS i j := by decide +kernel
  exact h i hi j hj
theorem narrow_b {x : Int32} : x = 0 → narrow .byte (.int x) = .int x := fun h => by subst h; rfl
def RtB {S : Type} (J : JT S) (cc : ByteArray) (post : Int32 → S → Prop) (mc ms : Nat) : Prop := ∀ (u : S) (lv : List (Nat × Value)) (pc : Nat) (r : Int32), decode cc pc = .ok (.ireturn, 1) → narrow .byte (.int r) = .int r → post r u → J u (mc, ms) lv pc [.int r]
theorem m_entY {l : Launch} {D : gD} {cy : Nat → ClassId} {S : Type} {Wd : S → va_W} {y : MethodName} {rm : Room} {av : List Value} {u : S} {post : Int32 → S → Prop} {mc ms : Nat} (cc : ByteArray) (n : Nat) (hy : plainName y.cls = true) (hn : (lg_sl av).length ≤ n)
    (body : ∀ J : JT S, OKJ l D cy Wd J cc n y rm → RtB J cc post mc ms → J u (0, 0) (lv_args 0 av) 0 []) : CtI l D cy Wd y cc n (some .byte) rm av u post mc ms := by
  intro sz
  refine Met.ofW (cc := cc) (maxL := n) (ret := some .byte) hy rfl ?_
  intro p e s m args below meth c s₁ B hml hv
  obtain ⟨rfl, hsz, hP, hK, hD0, hZ0⟩ := hv
  subst hsz
  have hD := hD0.self (sz := s.heap.size)
  have hl := lv_entry av (n := n) hn
  rw [lg_entry_eq]
  generalize (lg_sl av ++ List.replicate (n - (lg_sl av).length) Slot.unset).toArray = ls at hl ⊢
  refine body (fun (u : S) (k : Nat × Nat) (lv : List (Nat × Value)) (pc : Nat) (st : List Value) => ∀ (H : Heap) (locs : List Loc) (ls : Array Slot), va_P D.1 vwCl (Wd u) H → va_D _ (Wd u) → va_S _ s.heap H locs → lv_has ls n lv → W p l e _ s m _ below meth c H locs k.1 k.2 _ (F0 m pc ls st)) ⟨p, e, s, m, _, below, meth, c, va_A (Wd u) s.heap.size, s.heap, _, ⟨B.exec, B.bytes, hml, findClass_of_methodNamed B.named, fun w hw => atoms_spec (ws := wsB y cc n (some .byte)) B.pre w (List.mem_cons_of_mem _ hw)⟩, hK, fun q hq => Or.inr hq, (name_of_methodNamed B.named B.method).1, rfl, hZ0, rfl⟩ ?_ s.heap [] ls hP hD va_S.rf hl
  intro u' lv pc r hd hr01 hp H locs ls hP' hD' hS' hl'
  exact W.zret B.exec B.bytes B.returns hr01 (fun t ht hW => ⟨⟨r, u', rfl, hp, by rw [ht]; exact hP', va_K.moved hW.alike hK, hD'⟩, hS'.F ht⟩) hS'.2.2 hd B.notSynchronized
abbrev rm_J0_coder_7d493 : Room := { frames := 0, cells := 0, slots := 0, locals := 0 }
theorem c_J0_coder_7d493 (l : Launch) (D : gD) (cy : Nat → ClassId) {S : Type} {Wd : S → va_W} (u : S) {i : Nat} (hi : i < 17) : CtI l D cy Wd yJ0_coder_7d493 cJ0_coder_7d493 1 (some .byte) rm_J0_coder_7d493 [.ref (D.2.1 i)] (u) (fun r u' => r = 0 ∧ u' = u) 0 0 := by
  refine m_entY cJ0_coder_7d493 1 (by decide) (Nat.le_of_ble_eq_true rfl) (fun J h hR => ?_)
  show J (u) (0, 0) [(0, .ref (D.2.1 i))] 0 []
  refine j_gets h (fun _ _ _ z => z.1) (xr_18 16 rfl) rfl dJ0_coder_7d493_0 ?_
  refine j_if_eq h (tgt := 13) dJ0_coder_7d493_3 (by decide) (fun c => absurd c (by decide)) (fun _ => ?_)
  refine j_aload_n h dJ0_coder_7d493_6 rfl 0 rfl ?_
  refine j_kcod h hi (xr_18 17 rfl) dJ0_coder_7d493_7 ?_
  refine j_goto h (tgt := 14) dJ0_coder_7d493_10 (by decide) ?_
  exact hR _ _ _ _ dJ0_coder_7d493_14 rfl ⟨rfl, rfl⟩

abbrev rm_J0_isLatin1_aae02 : Room := { frames := 0, cells := 0, slots := 0, locals := 0 }
theorem c_J0_isLatin1_aae02 (l : Launch) (D : gD) (cy : Nat → ClassId) {S : Type} {Wd : S → va_W} (u : S) {i : Nat} (hi : i < 17) : CtI l D cy Wd yJ0_isLatin1_aae02 cJ0_isLatin1_aae02 1 (some .boolean) rm_J0_isLatin1_aae02 [.ref (D.2.1 i)] (u) (fun r u' => r = 1 ∧ u' = u) 0 0 := by
  refine m_entZ cJ0_isLatin1_aae02 1 (by decide) (Nat.le_of_ble_eq_true rfl) (fun J h hR => ?_)
  show J (u) (0, 0) [(0, .ref (D.2.1 i))] 0 []
  refine j_gets h (fun _ _ _ z => z.1) (xr_18 16 rfl) rfl dJ0_isLatin1_aae02_0 ?_
  refine j_if_eq h (tgt := 17) dJ0_isLatin1_aae02_3 (by decide) (fun c => absurd c (by decide)) (fun _ => ?_)
  refine j_aload_n h dJ0_isLatin1_aae02_6 rfl 0 rfl ?_
  refine j_kcod h hi (xr_18 17 rfl) dJ0_isLatin1_aae02_7 ?_
  refine j_if_ne h (tgt := 17) dJ0_isLatin1_aae02_10 (by decide) (fun c => absurd rfl c) (fun _ => ?_)
  refine j_iconst h (v := 1) dJ0_isLatin1_aae02_13 (by decide) ?_
  refine j_goto h (tgt := 18) dJ0_isLatin1_aae02_14 (by decide) ?_
  exact hR _ _ _ _ dJ0_isLatin1_aae02_18 (Or.inr rfl) ⟨rfl, rfl⟩

abbrev rm_J0_length_8abf5 : Room := { frames := 1, cells := 0, slots := 0, locals := 20 }
theorem c_J0_length_8abf5 (l : Launch) (D : gD) (cy : Nat → ClassId) {S : Type} {Wd : S → va_W} (u : S) {i : Nat} (hi : i < 17) : CtI l D cy Wd yJ0_length_8abf5 cJ0_length_8abf5 1 (some .int) rm_J0_length_8abf5 [.ref (D.2.1 i)] (u) (fun r u' => r = nI (lenS.getD i 0) ∧ u' = u) 0 0 := by
  refine m_entI cJ0_length_8abf5 1 (by decide) (Nat.le_of_ble_eq_true rfl) (fun J h hR => ?_)
  show J (u) (0, 0) [(0, .ref (D.2.1 i))] 0 []
  refine j_aload_n h dJ0_length_8abf5_0 rfl 0 rfl ?_
  refine j_kval h hi (xr_18 7 rfl) dJ0_length_8abf5_1 ?_
  refine j_klen h hi dJ0_length_8abf5_4 ?_
  refine j_aload_n h dJ0_length_8abf5_5 rfl 0 rfl ?_
  refine j_kI h (n := 0) (c_J0_coder_7d493 l D cy u hi) (xg_V (xr_18 12 rfl) (xr_18 13 rfl) (xr_18 14 rfl) (xr_15 19 rfl) (xr_18 15 rfl)) rfl rfl (by decide +kernel) ⟨Nat.le_of_ble_eq_true rfl, Nat.le_of_ble_eq_true rfl⟩ rfl hi rfl rfl rfl (Nat.le_of_ble_eq_true rfl) dJ0_length_8abf5_6 ⟨by decide, by decide⟩ (fun r u' hq => ?_)
  obtain ⟨rfl, rfl⟩ := hq
  refine j_ishr h dJ0_length_8abf5_9 ?_
  rw [show ((nI (lenS.getD i 0)) >>> (0 &&& 31) : Int32) = nI (lenS.getD i 0) from (sb_shr0 _)]
  exact hR _ _ _ _ dJ0_length_8abf5_10 ⟨rfl, rfl⟩

abbrev rm_J1_charAt_3b067 : Room := { frames := 2, cells := 0, slots := 0, locals := 43 }
theorem c_J1_charAt_3b067 (l : Launch) (D : gD) (cy : Nat → ClassId) {S : Type} {Wd : S → va_W} (u : S) {i : Nat} (hi : i < 17) {j : Nat} (hj : j < lenS.getD i 0) : CtI l D cy Wd yJ1_charAt_3b067 cJ1_charAt_3b067 2 (some .char) rm_J1_charAt_3b067 [.ref (D.2.2.1 i), .int (nI j)] (u) (fun r u' => r = chS i j ∧ u' = u) 0 0 := by
  refine m_entC cJ1_charAt_3b067 2 (by decide) (Nat.le_of_ble_eq_true rfl) (fun J h hR => ?_)
  show J (u) (0, 0) [(0, .ref (D.2.2.1 i)), (1, .int (nI j))] 0 []
  have hl := lenS_lt hi
  refine j_iload_n h dJ1_charAt_3b067_0 rfl 1 rfl ?_
  refine j_aload_n h dJ1_charAt_3b067_1 rfl 0 rfl ?_
  refine j_klen h hi dJ1_charAt_3b067_2 ?_
  refine j_callSV h (n := 2) (c_J0_checkIndex_df160 l D cy _ (nI_pos (by omega)) (nI_lt hj (by omega))) (xg_S (xr_19 5 rfl) (xr_16 15 rfl) (xr_15 19 rfl) (xr_16 16 rfl)) rfl rfl (by decide +kernel) ⟨Nat.le_of_ble_eq_true rfl, Nat.le_of_ble_eq_true rfl⟩ rfl rfl (Nat.le_of_ble_eq_true rfl) dJ1_charAt_3b067_3 ⟨by decide, by decide⟩ (fun u' hq => ?_)
  obtain rfl : u' = u := hq
  refine j_aload_n h dJ1_charAt_3b067_6 rfl 0 rfl ?_
  refine j_iload_n h dJ1_charAt_3b067_7 rfl 1 rfl ?_
  refine j_kbyt h hi hj (by omega) dJ1_charAt_3b067_8 ?_
  change J _ _ _ _ (.int (chS i j) :: _)
  refine j_sipush h (v := 255) dJ1_charAt_3b067_9 (by decide) ?_
  refine j_iand h dJ1_charAt_3b067_12 ?_
  rw [show ((chS i j) &&& 255 : Int32) = chS i j from (chS_ok hi hj).1]
  refine j_i2c h (v := (chS i j)) dJ1_charAt_3b067_13 (chS_ok hi hj).2 ?_
  exact hR _ _ _ _ dJ1_charAt_3b067_14 (narrow_c (chS_ok hi hj).2) ⟨rfl, rfl⟩

abbrev rm_J0_charAt_5068e : Room := { frames := 3, cells := 0, slots := 0, locals := 64 }
theorem c_J0_charAt_5068e (l : Launch) (D : gD) (cy : Nat → ClassId) {S : Type} {Wd : S → va_W} (u : S) {i : Nat} (hi : i < 17) {j : Nat} (hj : j < lenS.getD i 0) : CtI l D cy Wd yJ0_charAt_5068e cJ0_charAt_5068e 2 (some .char) rm_J0_charAt_5068e [.ref (D.2.1 i), .int (nI j)] (u) (fun r u' => r = chS i j ∧ u' = u) 0 0 := by
  refine m_entC cJ0_charAt_5068e 2 (by decide) (Nat.le_of_ble_eq_true rfl) (fun J h hR => ?_)
  show J (u) (0, 0) [(0, .ref (D.2.1 i)), (1, .int (nI j))] 0 []
  refine j_aload_n h dJ0_charAt_5068e_0 rfl 0 rfl ?_
  refine j_kI h (n := 0) (c_J0_isLatin1_aae02 l D cy u hi) (xg_V (xr_18 22 rfl) (xr_18 23 rfl) (xr_19 0 rfl) (xr_15 19 rfl) (xr_19 1 rfl)) rfl rfl (by decide +kernel) ⟨Nat.le_of_ble_eq_true rfl, Nat.le_of_ble_eq_true rfl⟩ rfl hi rfl rfl rfl (Nat.le_of_ble_eq_true rfl) dJ0_charAt_5068e_1 ⟨by decide, by decide⟩ (fun r u' hq => ?_)
  obtain ⟨rfl, rfl⟩ := hq
  refine j_if_eq h (tgt := 16) dJ0_charAt_5068e_4 (by decide) (fun c => absurd c (by decide)) (fun _ => ?_)
  refine j_aload_n h dJ0_charAt_5068e_7 rfl 0 rfl ?_
  refine j_kval h hi (xr_18 7 rfl) dJ0_charAt_5068e_8 ?_
  refine j_iload_n h dJ0_charAt_5068e_11 rfl 1 rfl ?_
  refine j_callS h (n := 2) (c_J1_charAt_3b067 l D cy _ hi hj) (xg_S (xr_19 2 rfl) (xr_19 3 rfl) (xr_14 22 rfl) (xr_19 4 rfl)) rfl rfl (by decide +kernel) ⟨Nat.le_of_ble_eq_true rfl, Nat.le_of_ble_eq_true rfl⟩ rfl rfl (Nat.le_of_ble_eq_true rfl) dJ0_charAt_5068e_12 ⟨by decide, by decide⟩ (fun r u' hq => ?_)
  obtain ⟨rfl, rfl⟩ := hq
  exact hR _ _ _ _ dJ0_charAt_5068e_15 (narrow_c (chS_ok hi hj).2) ⟨rfl, rfl⟩

