/-! ===== a text from a StringBuilder ===== -/
set_option maxRecDepth 100000
section TS
variable {l : Launch} {D : gD} {cy : Nat → ClassId} {J : JT va_W} {cc : ByteArray} {nL : Nat} {y0 : MethodName} {R : Room} {u : va_W} {q : Nat × Nat} {lv : List (Nat × Value)} {pc : Nat} {rest st : List Value}
theorem j_initW (h : OKJ l D cy wI J cc nL y0 R) {y : MethodName} {rm : Room} {b : Nat} {As : List Value} {wc : va_W} {lst : va_W} {post : va_W → Prop} {mc ms index maxL n : Nat} {bytes : ByteArray} (hM : CtV l D cy wI y bytes maxL none rm (.ref b :: As) wc post mc ms)
    (hl : Cond.methodLink y0.cls index y ∈ wsL_law) (hin : Cond.instanceMethod y ∈ wsL_law) (hini : Cond.initialized y.cls ∈ wsL_law) (hcd : Cond.code y bytes maxL none ∈ wsL_law) (hy1 : y.name = "<init>") (hrc : rm.cells = mc) (hrs : rm.slots = ms)
    (hd : y.cls ≠ "java/lang/invoke/MethodHandle" ∧ y.cls ≠ "java/lang/invoke/VarHandle" ∧ (parseMethodDescriptor y.desc).map (fun d => d.parameters.length) = some n) (hR : rm.frames + 1 ≤ R.frames ∧ 8 + (maxL + 11) + rm.locals ≤ R.locals) (hu : u = lst ++ wc) {st : List Value} (hst : st = As.reverse ++ .ref b :: rest) (hn : As.length = n)
    (hroom : (rest.map fun v => v.category).sum ≤ 8) (hdg : decode cc pc = .ok (.invokespecial index, 3)) (hf : q.1 + mc ≤ R.cells ∧ q.2 + ms ≤ R.slots) (kk : ∀ w, post w → J (lst ++ w) (q.1 + mc, q.2 + ms) lv (pc + 3) rest) : J u q lv pc st := by
  obtain ⟨p, e, s, m, args, below, meth, c, A, H0, Q, h0, hK, hA, hnm', hH0, hZ, rfl⟩ := h
  intro H locs ls hP hD hS hl0
  subst hu
  have hC : (List.range' lst.length wc.length).map (fun i => (lst ++ wc)[i]?) = wc.map some := rg_r lst wc
  have hFc := va_free (wc := wc) hD hS hA _ hC
  have hPc : va_P D.1 vwCl wc H := hP.sub _ (fm_of hC)
  have hDc : va_D A wc := hD.sub _ (nd_rg _ _) hC
  refine va_callv (va_runI (As := As) (rest := rest) h0 (hM H.size) (cwI n h0.2.2.2.2 (xg_cons hcd xg_law) rfl hrc hrs (h0.2.2.2.2 _ hini) (h0.2.2.2.2 _ hl) (h0.2.2.2.2 _ hin) hy1 hd hR) ⟨wPre_blind, fun U hU hW => ⟨rfl, by rw [hU], by rw [hU]; exact hPc, va_K.moved hW.alike hK, hDc.weaken (fun _ _ _ _ => trivial), by rw [hU]; exact ((hZ.kept (hH0 ▸ hS.2.1)).narrow hFc).warm hW⟩⟩ rfl hn hl0.1 hst (lv_room hroom) hdg hf) hS (fun q _ h => hFc q h) hFc (fun w t H1 locs1 ht hvm hw hB hz1 hk1 hS1 => ?_)
  obtain ⟨hP2, hD2⟩ := va_join hP hD _ (List.range' 0 lst.length) hC (rg_l lst wc) (nd_rg _ _) (rg_dis _ _) hk1 hFc (ht ▸ hB.1) hB.2.2
  exact kk w hw H1 locs1 ls hP2 hD2 hS1 hl0
theorem j_drop (h : OKJ l D cy wI J cc nL y0 R) {a w : va_W} (kk : J w q lv pc st) : J (a ++ w) q lv pc st :=
  j_perm h (List.range' a.length w.length) (nd_rg _ _) (rg_r a w) kk
end TS
section TO
variable {l : Launch} {D : gD} {cy : Nat → ClassId} {S : Type} {Wd : S → va_W} {J : JT S} {cc : ByteArray} {nL : Nat} {y0 : MethodName} {R : Room} {u : S} {q : Nat × Nat} {lv : List (Nat × Value)} {pc : Nat} {rest : List Value}
theorem j_prvO (h : OKJ l D cy Wd J cc nL y0 R) {x y : MethodName} {owner : String} {rm : Room} {As : List Value} {b : Nat} {post : Int32 → S → Prop} {mc ms index n maxL : Nat} {C : String} {bytes : ByteArray} {ret : Option FieldType} (hM : CtI l D cy Wd y bytes maxL ret rm (.ref b :: As) u post mc ms) (hG : GoodIn wsL_law (va_wsO y0.cls index C owner x y (wsB y bytes maxL ret))) {b0 : ByteArray} {m0 : Nat} {r0 : Option FieldType} (h00 : Cond.code ⟨owner, x.name, x.desc⟩ b0 m0 r0 ∈ wsL_law) (hrc : rm.cells = mc) (hrs : rm.slots = ms)
    (hd : owner ≠ "java/lang/invoke/MethodHandle" ∧ owner ≠ "java/lang/invoke/VarHandle" ∧ (parseMethodDescriptor x.desc).map (fun d => d.parameters.length) = some n) (hR : rm.frames + 1 ≤ R.frames ∧ 8 + (maxL + 11) + rm.locals ≤ R.locals) (q0 : Nat) {ci : Nat} {cq : vw_C} {fs : List Value} (hb : (Wd u)[q0]? = some (b, .inr (ci, fs))) (hc : vwCl[ci]? = some cq) (hC : cq.1 = C)
    {st : List Value} (hst : st = As.reverse ++ .ref b :: rest) (hn : As.length = n) (hroom : (rest.map fun v => v.category).sum ≤ 8) (hdg : decode cc pc = .ok (.invokevirtual index, 3)) (hf : q.1 + mc ≤ R.cells ∧ q.2 + ms ≤ R.slots)
    (kk : ∀ (r : Int32) (u' : S), post r u' → J u' (q.1 + mc, q.2 + ms) lv (pc + 3) (.int r :: rest)) : J u q lv pc st := by
  obtain ⟨p, e, s, m, args, below, meth, c, A, H0, Q, h0, hK, hA, hnm', hH0, hZ, rfl⟩ := h
  intro H locs ls hP hD hS hl0
  have hF : ∀ q, va_A (Wd u) H.size q → A q := fun q hq => hq.elim (fun ⟨k, e, hk⟩ => hD.2 k _ hk) (fun hz => hA q (Nat.le_trans hS.1 hz))
  refine va_calli (va_runU (As := As) (rest := rest) h0 (hM H.size) (va_cwO n h0.2.2.2.2 hG rfl hrc hrs h00 hd hR) ⟨wPre_blind, hC ▸ va_recv hK hP hc hb, fun U hU hW => ⟨rfl, by rw [hU], by rw [hU]; exact hP, va_K.moved hW.alike hK, hD.weaken (fun _ _ _ _ => trivial), by rw [hU]; exact ((hZ.kept (hH0 ▸ hS.2.1)).narrow hF).warm hW⟩⟩ rfl hn hl0.1 hst (lv_room hroom) hdg hf) hS (fun q _ h => hF q h) hF (fun r u' t H1 locs1 ht hvm hw hB hz1 hk1 hS1 => ?_)
  exact kk r u' hw H1 locs1 ls (ht ▸ hB.1) (hB.2.2.weaken (fun k q _ hq => hF _ hq)) hS1 hl0
end TO
theorem xg_O {own C owner : String} {idx : Nat} {x y : MethodName} {c : Cond} (h1 : Cond.methodLink own idx x ∈ wsL_law) (h2 : Cond.sameMethod x.cls owner x.name x.desc ∈ wsL_law) (h2' : Cond.instanceMethod ⟨owner, x.name, x.desc⟩ ∈ wsL_law) (h3 : Cond.selects C x y ∈ wsL_law) (h4 : Cond.instanceMethod y ∈ wsL_law) (h5 : Cond.initialized y.cls ∈ wsL_law) (h6 : c ∈ wsL_law) : GoodIn wsL_law (va_wsO own idx C owner x y (c :: wsL_law)) := xg_cons h1 (xg_cons h2 (xg_cons h2' (xg_cons h3 (xg_cons h4 (xg_cons h5 (xg_cons h6 xg_law))))))
abbrev rm_J7_chk : Room := { frames := 0, cells := 0, slots := 0, locals := 2 }
theorem c_J7_checkLength (l : Launch) (D : gD) (cy : Nat → ClassId) {S : Type} {Wd : S → va_W} (u : S) {x y : Int32} (hxy : x ≤ y) : CtV l D cy Wd yJ7_checkLength_df160 cJ7_checkLength_df160 2 none rm_J7_chk [.int x, .int y] (u) (fun u' => u' = u) 0 0 := by
  refine m_entV cJ7_checkLength_df160 2 (by decide) (Nat.le_of_ble_eq_true rfl) (fun J h hR => ?_)
  show J (u) (0, 0) [(0, .int x), (1, .int y)] 0 []
  refine j_iload_n h dJ7_checkLength_df160_0 rfl 1 rfl ?_
  refine j_iload_n h dJ7_checkLength_df160_1 rfl 0 rfl ?_
  refine j_icmp_ge h (tgt := 37) dJ7_checkLength_df160_2 (by decide) (fun _ => ?_) (fun c => absurd hxy c)
  exact hR _ _ _ dJ7_checkLength_df160_37 rfl
abbrev rm_J7_copyRB (q : Nat) : Room := { frames := 1, cells := 1, slots := q, locals := 64 }
theorem c_J7_copyRB (l : Launch) (D : gD) (cy : Nat → ClassId) (u : va_W) {i a m q : Nat} {f : Nat → Int32} (ha : u[i]? = some (a, .inl (cy 5, m, .inl f))) (hmq : q ≤ m) (hm : m ≤ 65536) (hf : ∀ j, fits .byte (.int (f j)) = true) : CtA l D cy wI yJ7_copyOfRangeByte_39247 cJ7_copyOfRangeByte_39247 5 (some (.array .byte)) (rm_J7_copyRB q) [.ref a, .int 0, .int (nI q)] (u) (fun r u' => u' = u ++ [(r, .inl (cy 5, q, .inl (va_cpy f (fun _ => 0) 0 0 q)))]) 1 q := by
  refine m_entB cJ7_copyOfRangeByte_39247 5 (by decide) (Nat.le_of_ble_eq_true rfl) (fun J h hR => ?_)
  show J (u) (0, 0) [(0, .ref a), (1, .int 0), (2, .int (nI q))] 0 []
  have s0 : ∀ x : Int32, x - 0 = x := fun x => Int32.sub_zero x
  refine j_iload_n h dJ7_copyOfRangeByte_39247_0 rfl 1 rfl ?_
  refine j_iload_n h dJ7_copyOfRangeByte_39247_1 rfl 2 rfl ?_
  refine j_callSV h (n := 2) (c_J7_checkLength l D cy u (x := 0) (y := nI q) (nI_pos' (by omega))) (xg_S (xr_43 11 rfl) (xr_43 12 rfl) (xr_14 2 rfl) (xr_43 13 rfl)) rfl rfl (by decide +kernel) ⟨Nat.le_of_ble_eq_true rfl, Nat.le_of_ble_eq_true rfl⟩ rfl rfl (Nat.le_of_ble_eq_true rfl) dJ7_copyOfRangeByte_39247_2 ⟨by show 0 + 0 ≤ 1; omega, by show 0 + 0 ≤ q; omega⟩ (fun u' hu => ?_)
  subst hu
  refine j_iload_n h dJ7_copyOfRangeByte_39247_5 rfl 2 rfl ?_
  refine j_iload_n h dJ7_copyOfRangeByte_39247_6 rfl 1 rfl ?_
  refine j_isub h dJ7_copyOfRangeByte_39247_7 ?_
  rw [s0]
  refine j_istore_n h (lv' := [(3, _), (0, _), (1, _), (2, _)]) dJ7_copyOfRangeByte_39247_8 rfl (by decide) rfl ?_
  refine j_iload_n h dJ7_copyOfRangeByte_39247_9 rfl 0 rfl ?_
  refine j_newb h (xr_5 7 rfl) (nI_pos (by omega)) (nI_clamp (by omega)) (by omega) (by show 0 + 1 ≤ 1; omega) (by show 0 + q ≤ q; omega) dJ7_copyOfRangeByte_39247_10 (fun r => ?_)
  refine j_astore h (lv' := [(4, _), (3, _), (0, _), (1, _), (2, _)]) dJ7_copyOfRangeByte_39247_12 (by decide) rfl ?_
  refine j_aload_n h dJ7_copyOfRangeByte_39247_14 rfl 2 rfl ?_
  refine j_iload_n h dJ7_copyOfRangeByte_39247_15 rfl 3 rfl ?_
  refine j_aload h dJ7_copyOfRangeByte_39247_16 0 rfl ?_
  refine j_iconst h (v := 0) dJ7_copyOfRangeByte_39247_18 (by decide) ?_
  refine j_aload_n h dJ7_copyOfRangeByte_39247_19 rfl 2 rfl ?_
  refine j_alen h i 5 (w_l ha) rfl (v := nI m) rfl dJ7_copyOfRangeByte_39247_20 ?_
  refine j_iload_n h dJ7_copyOfRangeByte_39247_21 rfl 3 rfl ?_
  refine j_isub h dJ7_copyOfRangeByte_39247_22 ?_
  rw [s0]
  refine j_iload_n h dJ7_copyOfRangeByte_39247_23 rfl 1 rfl ?_
  refine j_mmin h (xr_14 10 rfl) (xr_1 7 rfl) (xr_1 8 rfl) (xr_1 9 rfl) (Nat.le_of_ble_eq_true rfl) (Nat.le_of_ble_eq_true rfl) (by show 0 + 1 ≤ 1; omega) (by show 0 + q ≤ q; omega) dJ7_copyOfRangeByte_39247_24 ?_
  rw [show (if (nI q) < (nI m) then (nI q) else (nI m)) = nI q from by
    by_cases c : q < m
    · exact if_pos ((nI_ltI (by omega) (by omega)).mpr c)
    · rw [show m = q by omega]; exact ite_self _]
  refine j_copyb h (xr_14 11 rfl) (xr_14 12 rfl) (xr_14 13 rfl) (xr_14 14 rfl) i u'.length (w_l ha) w_n (by decide) (by decide) (nI_pos (by omega)) (by rw [nI_clamp (by omega)]; show 0 + q ≤ m; omega) (by rw [nI_clamp (by omega)]; show 0 + q ≤ q; omega) (fun j _ => hf _) (Nat.le_of_ble_eq_true rfl) (Nat.le_of_ble_eq_true rfl) dJ7_copyOfRangeByte_39247_27 w_s ?_
  refine j_aload h dJ7_copyOfRangeByte_39247_30 0 rfl ?_
  rw [nI_clamp (by omega), sb_cl0]
  refine j_widen h (q := _) (by show 0 + 1 ≤ 1; omega) (by show 0 + q ≤ q; omega) ?_
  exact hR _ _ _ _ dJ7_copyOfRangeByte_39247_32 rfl
abbrev rm_J7_copyR (q : Nat) : Room := { frames := 2, cells := 1, slots := q, locals := 100 }
theorem c_J7_copyR (l : Launch) (D : gD) (cy : Nat → ClassId) (u : va_W) {i a m q : Nat} {f : Nat → Int32} (ha : u[i]? = some (a, .inl (cy 5, m, .inl f))) (hmq : q < m) (hm : m ≤ 65536) (hf : ∀ j, fits .byte (.int (f j)) = true) : CtA l D cy wI yJ7_copyOfRange_39247 cJ7_copyOfRange_39247 3 (some (.array .byte)) (rm_J7_copyR q) [.ref a, .int 0, .int (nI q)] (u) (fun r u' => u' = u ++ [(r, .inl (cy 5, q, .inl (va_cpy f (fun _ => 0) 0 0 q)))]) 1 q := by
  refine m_entB cJ7_copyOfRange_39247 3 (by decide) (Nat.le_of_ble_eq_true rfl) (fun J h hR => ?_)
  show J (u) (0, 0) [(0, .ref a), (1, .int 0), (2, .int (nI q))] 0 []
  refine j_iload_n h dJ7_copyOfRange_39247_0 rfl 1 rfl ?_
  refine j_if_ne h (tgt := 10) dJ7_copyOfRange_39247_1 (by decide) (fun c => absurd rfl c) (fun _ => ?_)
  refine j_iload_n h dJ7_copyOfRange_39247_4 rfl 2 rfl ?_
  refine j_aload_n h dJ7_copyOfRange_39247_5 rfl 0 rfl ?_
  refine j_alen h i 5 ha rfl (v := nI m) rfl dJ7_copyOfRange_39247_6 ?_
  refine j_icmp_eq h (tgt := 17) dJ7_copyOfRange_39247_7 (by decide) (fun c => absurd ((nI_eq (by omega) (by omega)).mp c) (by omega)) (fun _ => ?_)
  refine j_aload_n h dJ7_copyOfRange_39247_10 rfl 0 rfl ?_
  refine j_iload_n h dJ7_copyOfRange_39247_11 rfl 1 rfl ?_
  refine j_iload_n h dJ7_copyOfRange_39247_12 rfl 2 rfl ?_
  refine j_callSA h (n := 3) (c_J7_copyRB l D cy u ha (Nat.le_of_lt hmq) hm hf) (xg_S (xr_43 8 rfl) (xr_43 9 rfl) (xr_14 2 rfl) (xr_43 10 rfl)) rfl rfl (by decide +kernel) ⟨Nat.le_of_ble_eq_true rfl, Nat.le_of_ble_eq_true rfl⟩ rfl rfl (Nat.le_of_ble_eq_true rfl) dJ7_copyOfRange_39247_13 ⟨by show 0 + 1 ≤ 1; omega, by show 0 + q ≤ q; omega⟩ (fun r u' hu => ?_)
  refine j_widen h (k := 1) (n := q) (by show 0 + 1 ≤ 1; omega) (by show 0 + q ≤ q; omega) ?_
  exact hR _ _ _ _ dJ7_copyOfRange_39247_16 hu
abbrev rm_J5_gv : Room := { frames := 0, cells := 0, slots := 0, locals := 1 }
theorem c_J5_gv (l : Launch) (D : gD) (cy : Nat → ClassId) {S : Type} {Wd : S → va_W} {p q0 q1 : Nat} {put : sbV → S} (hB : SBL cy Wd p q0 q1 put) (ml n : Int32) (a m : Nat) (f : Nat → Int32) : CtA l D cy Wd yJ5_getValue_6d5f1 cJ5_getValue_6d5f1 1 (some (.array .byte)) rm_J5_gv [.ref p] (put (ml, n, a, m, f)) (fun r u' => r = a ∧ u' = put (ml, n, a, m, f)) 0 0 := by
  refine m_entB cJ5_getValue_6d5f1 1 (by decide) (Nat.le_of_ble_eq_true rfl) (fun J h hR => ?_)
  show J (put (ml, n, a, m, f)) (0, 0) [(0, .ref p)] 0 []
  refine j_aload_n h dJ5_getValue_6d5f1_0 rfl 0 rfl ?_
  refine j_get h inlJ4 q0 (hB.2.1 _) rfl 0 (by decide) (xr_5 8 rfl) rfl (v := .ref a) rfl dJ5_getValue_6d5f1_1 ?_
  exact hR _ _ _ _ dJ5_getValue_6d5f1_4 ⟨rfl, rfl⟩
abbrev rm_J0_ia (n : Nat) : Room := { frames := 3, cells := 1, slots := n, locals := 140 }
theorem c_J0_ia (l : Launch) (D : gD) (cy : Nat → ClassId) {n m : Nat} (ml : Int32) (p a s : Nat) {f : Nat → Int32} (hnm : n < m) (hm : m ≤ 65536) (hf : sb_Fit f) (t : va_W) : CtV l D cy wI yJ0_init_db425 cJ0_init_db425 5 none (rm_J0_ia n) [.ref s, .ref p, .null] ((s, .inr (9, [.null, .int 0, .int 0, .int 0])) :: (p, .inr (0, [.ref a, .int 0, .int ml, .int (nI n)])) :: (a, .inl (cy 5, m, .inl f)) :: t : va_W) (fun w => ∃ r, w = ((s, .inr (9, [.ref r, .int 0, .int 0, .int 0])) :: (p, .inr (0, [.ref a, .int 0, .int ml, .int (nI n)])) :: (a, .inl (cy 5, m, .inl f)) :: (t ++ [(r, .inl (cy 5, n, .inl (va_cpy f (fun _ => 0) 0 0 n)))]) : va_W)) 1 n := by
  have hB : SBL cy wI p 1 2 (fun v : sbV => ((s, .inr (9, [.null, .int 0, .int 0, .int 0])) :: (p, .inr (0, [.ref v.2.2.1, .int 0, .int v.1, .int v.2.1])) :: (v.2.2.1, .inl (cy 5, v.2.2.2.1, .inl v.2.2.2.2)) :: t : va_W)) := ⟨by decide, fun v => rfl, fun v => rfl, fun v v' => rfl⟩
  refine m_entV cJ0_init_db425 5 (by decide) (Nat.le_of_ble_eq_true rfl) (fun J h hR => ?_)
  show J ((s, .inr (9, [.null, .int 0, .int 0, .int 0])) :: (p, .inr (0, [.ref a, .int 0, .int ml, .int (nI n)])) :: (a, .inl (cy 5, m, .inl f)) :: t : va_W) (0, 0) [(0, .ref s), (1, .ref p), (2, .null)] 0 []
  refine j_aload_n h dJ0_init_db425_0 rfl 0 rfl ?_
  refine j_objInit h (xr_42 18 rfl) (xr_1 14 rfl) (xr_1 15 rfl) (Nat.le_of_ble_eq_true rfl) (Nat.le_of_ble_eq_true rfl) dJ0_init_db425_1 ?_
  refine j_aload_n h dJ0_init_db425_4 rfl 1 rfl ?_
  refine j_prvA h (n := 0) (c_J5_gv l D cy hB ml (nI n) a m f) (xg_U (xr_42 20 rfl) (xr_42 21 rfl) (xr_42 22 rfl) (xr_42 23 rfl) (xr_5 3 rfl) (xr_43 0 rfl)) rfl rfl (by decide +kernel) ⟨Nat.le_of_ble_eq_true rfl, Nat.le_of_ble_eq_true rfl⟩ 1 (hB.2.1 (ml, nI n, a, m, f)) rfl rfl rfl rfl (Nat.le_of_ble_eq_true rfl) dJ0_init_db425_5 ⟨by show 0 + 0 ≤ 1; omega, by show 0 + 0 ≤ n; omega⟩ (fun r0 u' hq => ?_)
  obtain ⟨rfl, rfl⟩ := hq
  refine j_astore_n h (lv' := [(3, _), (0, _), (1, _), (2, _)]) dJ0_init_db425_8 rfl (by decide) rfl ?_
  refine j_aload_n h dJ0_init_db425_9 rfl 2 rfl ?_
  refine j_prvO h (n := 0) (c_J4_length_8abf5 l D cy hB ml (nI n) r0 m f) (xg_O (owner := "java/lang/AbstractStringBuilder") (xr_43 1 rfl) (xr_12 11 rfl) (xr_12 13 rfl) (xr_43 3 rfl) (xr_12 7 rfl) (xr_2 4 rfl) (xr_12 9 rfl)) (xr_12 14 rfl) rfl rfl (by decide +kernel) ⟨Nat.le_of_ble_eq_true rfl, Nat.le_of_ble_eq_true rfl⟩ 1 (hB.2.1 (ml, nI n, r0, m, f)) rfl rfl rfl rfl (Nat.le_of_ble_eq_true rfl) dJ0_init_db425_10 ⟨by show 0 + 0 + 0 ≤ 1; omega, by show 0 + 0 + 0 ≤ n; omega⟩ (fun r1 u' hq => ?_)
  obtain ⟨rfl, rfl⟩ := hq
  refine j_istore h (lv' := [(4, _), (3, _), (0, _), (1, _), (2, _)]) dJ0_init_db425_13 (by decide) rfl ?_
  refine j_aload_n h dJ0_init_db425_15 rfl 3 rfl ?_
  refine j_prvI h (n := 0) (c_J5_isLatin1_aae02 l D cy hB ml (nI n) r0 m f) (xg_U (xr_43 4 rfl) (xr_14 16 rfl) (xr_14 17 rfl) (xr_14 18 rfl) (xr_5 3 rfl) (xr_14 19 rfl)) rfl rfl (by decide +kernel) ⟨Nat.le_of_ble_eq_true rfl, Nat.le_of_ble_eq_true rfl⟩ 1 (hB.2.1 (ml, nI n, r0, m, f)) rfl rfl rfl rfl (Nat.le_of_ble_eq_true rfl) dJ0_init_db425_16 ⟨by show 0 + 0 + 0 + 0 ≤ 1; omega, by show 0 + 0 + 0 + 0 ≤ n; omega⟩ (fun r1 u' hq => ?_)
  obtain ⟨rfl, rfl⟩ := hq
  refine j_if_eq h (tgt := 41) dJ0_init_db425_19 (by decide) (fun c => absurd c (by decide)) (fun _ => ?_)
  refine j_aload_n h dJ0_init_db425_22 rfl 2 rfl ?_
  refine j_iconst h (v := 0) dJ0_init_db425_23 (by decide) ?_
  refine j_putF h inlJ0 tyJ0 tyJ0_ok nmJ0 0 rfl rfl 1 (by decide) (xr_18 17 rfl) rfl rfl rfl rfl rfl rfl (Nat.le_of_ble_eq_true rfl) dJ0_init_db425_24 (u' := ((s, .inr (9, [.null, .int 0, .int 0, .int 0])) :: (p, .inr (0, [.ref r0, .int 0, .int ml, .int (nI n)])) :: (r0, .inl (cy 5, m, .inl f)) :: t : va_W)) rfl ?_
  refine j_aload_n h dJ0_init_db425_27 rfl 2 rfl ?_
  refine j_aload_n h dJ0_init_db425_28 rfl 1 rfl ?_
  refine j_iconst h (v := 0) dJ0_init_db425_29 (by decide) ?_
  refine j_iload h dJ0_init_db425_30 0 rfl ?_
  refine j_callSA h (n := 3) (c_J7_copyR l D cy ((s, .inr (9, [.null, .int 0, .int 0, .int 0])) :: (p, .inr (0, [.ref r0, .int 0, .int ml, .int (nI n)])) :: (r0, .inl (cy 5, m, .inl f)) :: t : va_W) (i := 2) (a := r0) (m := m) (f := f) rfl hnm hm hf) (xg_S (xr_43 5 rfl) (xr_43 6 rfl) (xr_14 2 rfl) (xr_43 7 rfl)) rfl rfl (by decide +kernel) ⟨Nat.le_of_ble_eq_true rfl, Nat.le_of_ble_eq_true rfl⟩ rfl rfl (Nat.le_of_ble_eq_true rfl) dJ0_init_db425_32 ⟨by show 0 + 0 + 0 + 0 + 1 ≤ 1; omega, by show 0 + 0 + 0 + 0 + n ≤ n; omega⟩ (fun r u' hu => ?_)
  subst hu
  refine j_putF h inlJ0 tyJ0 tyJ0_ok nmJ0 0 rfl rfl 0 (by decide) (xr_18 7 rfl) rfl rfl rfl rfl rfl rfl (Nat.le_of_ble_eq_true rfl) dJ0_init_db425_35 (u' := ((s, .inr (9, [.ref r, .int 0, .int 0, .int 0])) :: (p, .inr (0, [.ref r0, .int 0, .int ml, .int (nI n)])) :: (r0, .inl (cy 5, m, .inl f)) :: (t ++ [(r, .inl (cy 5, n, .inl (va_cpy f (fun _ => 0) 0 0 n)))]) : va_W)) rfl ?_
  refine j_goto h (tgt := 97) dJ0_init_db425_38 (by decide) ?_
  refine j_widen h (k := 1) (n := n) (by show 0 + 0 + 0 + 0 + 1 ≤ 1; omega) (by show 0 + 0 + 0 + 0 + n ≤ n; omega) ?_
  exact hR _ _ _ dJ0_init_db425_97 ⟨r, rfl⟩
abbrev rm_J0_is (n : Nat) : Room := { frames := 4, cells := 1, slots := n, locals := 170 }
theorem c_J0_is (l : Launch) (D : gD) (cy : Nat → ClassId) {n m : Nat} (ml : Int32) (p a s : Nat) {f : Nat → Int32} (hnm : n < m) (hm : m ≤ 65536) (hf : sb_Fit f) (t : va_W) : CtV l D cy wI yJ0_init_81219 cJ0_init_81219 2 none (rm_J0_is n) [.ref s, .ref p] ((s, .inr (9, [.null, .int 0, .int 0, .int 0])) :: (p, .inr (0, [.ref a, .int 0, .int ml, .int (nI n)])) :: (a, .inl (cy 5, m, .inl f)) :: t : va_W) (fun w => ∃ r, w = ((s, .inr (9, [.ref r, .int 0, .int 0, .int 0])) :: (p, .inr (0, [.ref a, .int 0, .int ml, .int (nI n)])) :: (a, .inl (cy 5, m, .inl f)) :: (t ++ [(r, .inl (cy 5, n, .inl (va_cpy f (fun _ => 0) 0 0 n)))]) : va_W)) 1 n := by
  refine m_entV cJ0_init_81219 2 (by decide) (Nat.le_of_ble_eq_true rfl) (fun J h hR => ?_)
  show J ((s, .inr (9, [.null, .int 0, .int 0, .int 0])) :: (p, .inr (0, [.ref a, .int 0, .int ml, .int (nI n)])) :: (a, .inl (cy 5, m, .inl f)) :: t : va_W) (0, 0) [(0, .ref s), (1, .ref p)] 0 []
  refine j_aload_n h dJ0_init_81219_0 rfl 0 rfl ?_
  refine j_aload_n h dJ0_init_81219_1 rfl 1 rfl ?_
  refine j_null h dJ0_init_81219_2 ?_
  refine j_initW h (n := 2) (c_J0_ia l D cy ml p a s hnm hm hf t) (xr_42 15 rfl) (xr_42 16 rfl) (xr_15 19 rfl) (xr_42 17 rfl) rfl rfl rfl (by decide +kernel) ⟨Nat.le_of_ble_eq_true rfl, Nat.le_of_ble_eq_true rfl⟩ (lst := []) rfl rfl rfl (Nat.le_of_ble_eq_true rfl) dJ0_init_81219_3 ⟨by show 0 + 1 ≤ 1; omega, by show 0 + n ≤ n; omega⟩ (fun w hw => ?_)
  refine j_widen h (k := 1) (n := n) (by show 0 + 1 ≤ 1; omega) (by show 0 + n ≤ n; omega) ?_
  exact hR _ _ _ dJ0_init_81219_6 hw
abbrev rm_J4_ts (n : Nat) : Room := { frames := 5, cells := 2, slots := n + 4, locals := 200 }
theorem c_J4_ts (l : Launch) (D : gD) (cy : Nat → ClassId) {n m : Nat} (ml : Int32) (p a : Nat) {f : Nat → Int32} (hnm : n < m) (hm : m ≤ 65536) (hf : sb_Fit f) (t : va_W) : CtA l D cy wI yJ4_toString_0e30d cJ4_toString_0e30d 1 (some (.object "java/lang/String")) (rm_J4_ts n) [.ref p] ((p, .inr (0, [.ref a, .int 0, .int ml, .int (nI n)])) :: (a, .inl (cy 5, m, .inl f)) :: t : va_W) (fun s w => ∃ r, w = ((s, .inr (9, [.ref r, .int 0, .int 0, .int 0])) :: (p, .inr (0, [.ref a, .int 0, .int ml, .int (nI n)])) :: (a, .inl (cy 5, m, .inl f)) :: (t ++ [(r, .inl (cy 5, n, .inl (va_cpy f (fun _ => 0) 0 0 n)))]) : va_W)) 2 (n + 4) := by
  refine m_entA cJ4_toString_0e30d 1 (by decide) (Nat.le_of_ble_eq_true rfl) (fun J h hR => ?_)
  show J ((p, .inr (0, [.ref a, .int 0, .int ml, .int (nI n)])) :: (a, .inl (cy 5, m, .inl f)) :: t) (0, 0) [(0, .ref p)] 0 []
  refine j_new h inlJ0 tyJ0 tyJ0_ok (xr_42 10 rfl) (xr_42 11 rfl) (xr_15 19 rfl) (ci := 9) rfl (fs := [.null, .int 0, .int 0, .int 0]) (fun j hj => by rcases (show j = 0 ∨ j = 1 ∨ j = 2 ∨ j = 3 by omega) with rfl | rfl | rfl | rfl <;> rfl) (by show 0 + 1 ≤ 2; omega) (by show 0 + 4 ≤ n + 4; omega) dJ4_toString_0e30d_0 (fun s => ?_)
  refine j_pm h (List.perm_append_comm.trans (List.Perm.refl ((s, .inr (9, [.null, .int 0, .int 0, .int 0])) :: (p, .inr (0, [.ref a, .int 0, .int ml, .int (nI n)])) :: (a, .inl (cy 5, m, .inl f)) :: t : va_W))) ?_
  refine j_dup h dJ4_toString_0e30d_3 rfl ?_
  refine j_aload_n h dJ4_toString_0e30d_4 rfl 0 rfl ?_
  refine j_initW h (n := 1) (c_J0_is l D cy ml p a s hnm hm hf t) (xr_42 12 rfl) (xr_42 13 rfl) (xr_15 19 rfl) (xr_42 14 rfl) rfl rfl rfl (by decide +kernel) ⟨Nat.le_of_ble_eq_true rfl, Nat.le_of_ble_eq_true rfl⟩ (lst := []) rfl rfl rfl (Nat.le_of_ble_eq_true rfl) dJ4_toString_0e30d_5 ⟨by show 0 + 1 + 1 ≤ 2; omega, by show 0 + 4 + n ≤ n + 4; omega⟩ (fun w hw => ?_)
  refine j_widen h (k := 2) (n := n + 4) (by show 0 + 1 + 1 ≤ 2; omega) (by show 0 + 4 + n ≤ n + 4; omega) ?_
  exact hR _ _ _ _ dJ4_toString_0e30d_8 hw
