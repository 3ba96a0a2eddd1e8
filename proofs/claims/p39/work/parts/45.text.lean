/-! ===== a StringBuilder in a world: its object at q0, its bytes at q1 ===== -/
/-- maybeLatin1, count, the bytes' address, how many, the bytes -/
abbrev sbV : Type := Int32 × Int32 × Nat × Nat × (Nat → Int32)
def SBL (cy : Nat → ClassId) {S : Type} (Wd : S → va_W) (p q0 q1 : Nat) (put : sbV → S) : Prop :=
  q0 ≠ q1 ∧ (∀ v : sbV, (Wd (put v))[q0]? = some (p, .inr (0, [.ref v.2.2.1, .int 0, .int v.1, .int v.2.1]))) ∧ (∀ v : sbV, (Wd (put v))[q1]? = some (v.2.2.1, .inl (cy 5, v.2.2.2.1, .inl v.2.2.2.2))) ∧
  ∀ v v' : sbV, ((Wd (put v)).set q0 (p, .inr (0, [.ref v'.2.2.1, .int 0, .int v'.1, .int v'.2.1]))).set q1 (v'.2.2.1, .inl (cy 5, v'.2.2.2.1, .inl v'.2.2.2.2)) = Wd (put v')
theorem set_eq {α : Type} {l : List α} {i : Nat} {x : α} (h : l[i]? = some x) : l.set i x = l := by
  refine List.ext_getElem? fun j => ?_
  by_cases e : i = j
  · subst e
    rw [List.getElem?_set_self (List.getElem?_eq_some_iff.mp h).1, h]
  · rw [List.getElem?_set_ne e]
theorem SBL.s0 {cy : Nat → ClassId} {S : Type} {Wd : S → va_W} {p q0 q1 : Nat} {put : sbV → S} (hB : SBL cy Wd p q0 q1 put) {v v' : sbV} (e1 : v'.2.2.1 = v.2.2.1) (e2 : v'.2.2.2.1 = v.2.2.2.1) (e3 : v'.2.2.2.2 = v.2.2.2.2) : (Wd (put v)).set q0 (p, .inr (0, [.ref v'.2.2.1, .int 0, .int v'.1, .int v'.2.1])) = Wd (put v') := by
  have h := hB.2.2.2 v v'
  rw [set_eq] at h
  · exact h
  · rw [List.getElem?_set_ne hB.1, hB.2.2.1 v, e1, e2, e3]
theorem SBL.s1 {cy : Nat → ClassId} {S : Type} {Wd : S → va_W} {p q0 q1 : Nat} {put : sbV → S} (hB : SBL cy Wd p q0 q1 put) {ml n : Int32} {a m : Nat} {f g : Nat → Int32} : (Wd (put (ml, n, a, m, f))).set q1 (a, .inl (cy 5, m, .inl g)) = Wd (put (ml, n, a, m, g)) := by
  have h := hB.2.2.2 (ml, n, a, m, f) (ml, n, a, m, g)
  rw [set_eq (hB.2.1 (ml, n, a, m, f))] at h
  exact h
theorem xg_U {own C : String} {idx : Nat} {y : MethodName} {c : Cond} (h1 : Cond.methodLink own idx y ∈ wsL_law) (h2 : Cond.sameMethod y.cls y.cls y.name y.desc ∈ wsL_law) (h3 : Cond.selects C y y ∈ wsL_law) (h4 : Cond.instanceMethod y ∈ wsL_law) (h5 : Cond.initialized y.cls ∈ wsL_law) (h6 : c ∈ wsL_law) : GoodIn wsL_law (va_wsU own idx C y.cls y y (c :: wsL_law)) := xg_cons h1 (xg_cons h2 (xg_cons h3 (xg_cons h4 (xg_cons h5 (xg_cons h6 xg_law)))))
theorem xg_SU {own : String} {idx : Nat} {y : MethodName} {c : Cond} (h1 : Cond.methodLink own idx y ∈ wsL_law) (h2 : Cond.sameMethod y.cls y.cls y.name y.desc ∈ wsL_law) (h3 : Cond.superclass own y.cls ∈ wsL_law) (h4 : Cond.instanceMethod y ∈ wsL_law) (h5 : Cond.initialized y.cls ∈ wsL_law) (h6 : c ∈ wsL_law) : GoodIn wsL_law (va_wsSU own idx y (c :: wsL_law)) := xg_cons h1 (xg_cons h2 (xg_cons h3 (xg_cons h4 (xg_cons h5 (xg_cons h6 xg_law)))))
theorem narrow_c {x : Int32} (h : (x.toUInt32 % 65536).toInt32 = x) : narrow .char (.int x) = .int x := by
  simp [narrow, h]
def RtC {S : Type} (J : JT S) (cc : ByteArray) (post : Int32 → S → Prop) (mc ms : Nat) : Prop := ∀ (u : S) (lv : List (Nat × Value)) (pc : Nat) (r : Int32), decode cc pc = .ok (.ireturn, 1) → narrow .char (.int r) = .int r → post r u → J u (mc, ms) lv pc [.int r]
theorem m_entC {l : Launch} {D : gD} {cy : Nat → ClassId} {S : Type} {Wd : S → va_W} {y : MethodName} {rm : Room} {av : List Value} {u : S} {post : Int32 → S → Prop} {mc ms : Nat} (cc : ByteArray) (n : Nat) (hy : plainName y.cls = true) (hn : (lg_sl av).length ≤ n)
    (body : ∀ J : JT S, OKJ l D cy Wd J cc n y rm → RtC J cc post mc ms → J u (0, 0) (lv_args 0 av) 0 []) : CtI l D cy Wd y cc n (some .char) rm av u post mc ms := by
  intro sz
  refine Met.ofW (cc := cc) (maxL := n) (ret := some .char) hy rfl ?_
  intro p e s m args below meth c s₁ B hml hv
  obtain ⟨rfl, hsz, hP, hK, hD0, hZ0⟩ := hv
  subst hsz
  have hD := hD0.self (sz := s.heap.size)
  have hl := lv_entry av (n := n) hn
  rw [lg_entry_eq]
  generalize (lg_sl av ++ List.replicate (n - (lg_sl av).length) Slot.unset).toArray = ls at hl ⊢
  refine body (fun (u : S) (k : Nat × Nat) (lv : List (Nat × Value)) (pc : Nat) (st : List Value) => ∀ (H : Heap) (locs : List Loc) (ls : Array Slot), va_P D.1 vwCl (Wd u) H → va_D _ (Wd u) → va_S _ s.heap H locs → lv_has ls n lv → W p l e _ s m _ below meth c H locs k.1 k.2 _ (F0 m pc ls st)) ⟨p, e, s, m, _, below, meth, c, va_A (Wd u) s.heap.size, s.heap, _, ⟨B.exec, B.bytes, hml, findClass_of_methodNamed B.named, fun w hw => atoms_spec (ws := wsB y cc n (some .char)) B.pre w (List.mem_cons_of_mem _ hw)⟩, hK, fun q hq => Or.inr hq, (name_of_methodNamed B.named B.method).1, rfl, hZ0, rfl⟩ ?_ s.heap [] ls hP hD va_S.rf hl
  intro u' lv pc r hd hr01 hp H locs ls hP' hD' hS' hl'
  exact W.zret B.exec B.bytes B.returns hr01 (fun t ht hW => ⟨⟨r, u', rfl, hp, by rw [ht]; exact hP', va_K.moved hW.alike hK, hD'⟩, hS'.F ht⟩) hS'.2.2 hd B.notSynchronized
abbrev rm_J5_isLatin1_aae02 : Room := { frames := 0, cells := 0, slots := 0, locals := 0 }
theorem c_J5_isLatin1_aae02 (l : Launch) (D : gD) (cy : Nat → ClassId) {S : Type} {Wd : S → va_W} {p q0 q1 : Nat} {put : sbV → S} (hB : SBL cy Wd p q0 q1 put) (ml n : Int32) (a m : Nat) (f : Nat → Int32) : CtI l D cy Wd yJ5_isLatin1_aae02 cJ5_isLatin1_aae02 1 (some .boolean) rm_J5_isLatin1_aae02 [.ref p] (put (ml, n, a, m, f)) (fun r u' => r = 1 ∧ u' = put (ml, n, a, m, f)) 0 0 := by
  refine m_entZ cJ5_isLatin1_aae02 1 (by decide) (Nat.le_of_ble_eq_true rfl) (fun J h hR => ?_)
  show J (put (ml, n, a, m, f)) (0, 0) [(0, .ref p)] 0 []
  refine j_gets h (fun _ _ _ z => z.1) (xr_5 6 rfl) rfl dJ5_isLatin1_aae02_0 ?_
  refine j_if_eq h (tgt := 17) dJ5_isLatin1_aae02_3 (by decide) (fun c => absurd c (by decide)) (fun _ => ?_)
  refine j_aload_n h dJ5_isLatin1_aae02_6 rfl 0 rfl ?_
  refine j_get h inlJ4 q0 (hB.2.1 _) rfl 1 (by decide) (xr_5 9 rfl) rfl (v := .int 0) rfl dJ5_isLatin1_aae02_7 ?_
  refine j_if_ne h (tgt := 17) dJ5_isLatin1_aae02_10 (by decide) (fun c => absurd rfl c) (fun _ => ?_)
  refine j_iconst h (v := 1) dJ5_isLatin1_aae02_13 (by decide) ?_
  refine j_goto h (tgt := 18) dJ5_isLatin1_aae02_14 (by decide) ?_
  exact hR _ _ _ _ dJ5_isLatin1_aae02_18 (Or.inr rfl) ⟨rfl, rfl⟩

abbrev rm_J5_length_8abf5 : Room := { frames := 0, cells := 0, slots := 0, locals := 0 }
theorem c_J5_length_8abf5 (l : Launch) (D : gD) (cy : Nat → ClassId) {S : Type} {Wd : S → va_W} {p q0 q1 : Nat} {put : sbV → S} (hB : SBL cy Wd p q0 q1 put) (ml n : Int32) (a m : Nat) (f : Nat → Int32) : CtI l D cy Wd yJ5_length_8abf5 cJ5_length_8abf5 1 (some .int) rm_J5_length_8abf5 [.ref p] (put (ml, n, a, m, f)) (fun r u' => r = n ∧ u' = put (ml, n, a, m, f)) 0 0 := by
  refine m_entI cJ5_length_8abf5 1 (by decide) (Nat.le_of_ble_eq_true rfl) (fun J h hR => ?_)
  show J (put (ml, n, a, m, f)) (0, 0) [(0, .ref p)] 0 []
  refine j_aload_n h dJ5_length_8abf5_0 rfl 0 rfl ?_
  refine j_get h inlJ4 q0 (hB.2.1 _) rfl 3 (by decide) (xr_12 15 rfl) rfl (v := .int n) rfl dJ5_length_8abf5_1 ?_
  exact hR _ _ _ _ dJ5_length_8abf5_4 ⟨rfl, rfl⟩

abbrev rm_J4_length_8abf5 : Room := { frames := 1, cells := 0, slots := 0, locals := 20 }
theorem c_J4_length_8abf5 (l : Launch) (D : gD) (cy : Nat → ClassId) {S : Type} {Wd : S → va_W} {p q0 q1 : Nat} {put : sbV → S} (hB : SBL cy Wd p q0 q1 put) (ml n : Int32) (a m : Nat) (f : Nat → Int32) : CtI l D cy Wd yJ4_length_8abf5 cJ4_length_8abf5 1 (some .int) rm_J4_length_8abf5 [.ref p] (put (ml, n, a, m, f)) (fun r u' => r = n ∧ u' = put (ml, n, a, m, f)) 0 0 := by
  refine m_entI cJ4_length_8abf5 1 (by decide) (Nat.le_of_ble_eq_true rfl) (fun J h hR => ?_)
  show J (put (ml, n, a, m, f)) (0, 0) [(0, .ref p)] 0 []
  refine j_aload_n h dJ4_length_8abf5_0 rfl 0 rfl ?_
  refine j_supI h (n := 0) (c_J5_length_8abf5 l D cy hB ml n a m f) (xg_SU (xr_12 10 rfl) (xr_12 11 rfl) (xr_12 12 rfl) (xr_12 13 rfl) (xr_5 3 rfl) (xr_12 14 rfl)) rfl rfl (xr_2 3 rfl) (by decide +kernel) ⟨Nat.le_of_ble_eq_true rfl, Nat.le_of_ble_eq_true rfl⟩ q0 (hB.2.1 _) rfl rfl rfl rfl (Nat.le_of_ble_eq_true rfl) dJ4_length_8abf5_1 ⟨by decide, by decide⟩ (fun r u' hq => ?_)
  obtain ⟨rfl, rfl⟩ := hq
  exact hR _ _ _ _ dJ4_length_8abf5_4 ⟨rfl, rfl⟩

abbrev rm_J1_canEncode_fc78d : Room := { frames := 0, cells := 0, slots := 0, locals := 0 }
theorem c_J1_canEncode_fc78d (l : Launch) (D : gD) (cy : Nat → ClassId) {S : Type} {Wd : S → va_W} (u : S) {x : Int32} (hx : ¬ 255 < x) : CtI l D cy Wd yJ1_canEncode_fc78d cJ1_canEncode_fc78d 1 (some .boolean) rm_J1_canEncode_fc78d [.int x] (u) (fun r u' => r = 1 ∧ u' = u) 0 0 := by
  refine m_entZ cJ1_canEncode_fc78d 1 (by decide) (Nat.le_of_ble_eq_true rfl) (fun J h hR => ?_)
  show J (u) (0, 0) [(0, .int x)] 0 []
  refine j_iload_n h dJ1_canEncode_fc78d_0 rfl 0 rfl ?_
  refine j_sipush h (v := 255) dJ1_canEncode_fc78d_1 (by decide) ?_
  refine j_icmp_gt h (tgt := 11) dJ1_canEncode_fc78d_4 (by decide) (fun c => absurd c hx) (fun _ => ?_)
  refine j_iconst h (v := 1) dJ1_canEncode_fc78d_7 (by decide) ?_
  refine j_goto h (tgt := 12) dJ1_canEncode_fc78d_8 (by decide) ?_
  exact hR _ _ _ _ dJ1_canEncode_fc78d_12 (Or.inr rfl) ⟨rfl, rfl⟩

abbrev rm_J3_checkIndex_8e157 : Room := { frames := 0, cells := 0, slots := 0, locals := 0 }
theorem c_J3_checkIndex_n (l : Launch) (D : gD) (cy : Nat → ClassId) {S : Type} {Wd : S → va_W} (u : S) {i n : Int32} (h0 : ¬ i < 0) (h1 : i < n) : CtI l D cy Wd yJ3_checkIndex_8e157 cJ3_checkIndex_8e157 3 (some .int) rm_J3_checkIndex_8e157 [.int i, .int n, .null] (u) (fun r u' => r = i ∧ u' = u) 0 0 := by
  refine m_entI cJ3_checkIndex_8e157 3 (by decide) (Nat.le_of_ble_eq_true rfl) (fun J h hR => ?_)
  show J (u) (0, 0) [(0, .int i), (1, .int n), (2, .null)] 0 []
  refine j_iload_n h dJ3_checkIndex_8e157_0 rfl 0 rfl ?_
  refine j_if_lt h (tgt := 9) dJ3_checkIndex_8e157_1 (by decide) (fun c => absurd c h0) (fun _ => ?_)
  refine j_iload_n h dJ3_checkIndex_8e157_4 rfl 0 rfl ?_
  refine j_iload_n h dJ3_checkIndex_8e157_5 rfl 1 rfl ?_
  refine j_icmp_lt h (tgt := 16) dJ3_checkIndex_8e157_6 (by decide) (fun _ => ?_) (fun c => absurd h1 c)
  refine j_iload_n h dJ3_checkIndex_8e157_16 rfl 0 rfl ?_
  exact hR _ _ _ _ dJ3_checkIndex_8e157_17 ⟨rfl, rfl⟩


theorem c_J3_checkIndex_r (l : Launch) (D : gD) (cy : Nat → ClassId) {S : Type} {Wd : S → va_W} (u : S) (t0 : Nat) {i n : Int32} (h0 : ¬ i < 0) (h1 : i < n) : CtI l D cy Wd yJ3_checkIndex_8e157 cJ3_checkIndex_8e157 3 (some .int) rm_J3_checkIndex_8e157 [.int i, .int n, .ref t0] (u) (fun r u' => r = i ∧ u' = u) 0 0 := by
  refine m_entI cJ3_checkIndex_8e157 3 (by decide) (Nat.le_of_ble_eq_true rfl) (fun J h hR => ?_)
  show J (u) (0, 0) [(0, .int i), (1, .int n), (2, .ref t0)] 0 []
  refine j_iload_n h dJ3_checkIndex_8e157_0 rfl 0 rfl ?_
  refine j_if_lt h (tgt := 9) dJ3_checkIndex_8e157_1 (by decide) (fun c => absurd c h0) (fun _ => ?_)
  refine j_iload_n h dJ3_checkIndex_8e157_4 rfl 0 rfl ?_
  refine j_iload_n h dJ3_checkIndex_8e157_5 rfl 1 rfl ?_
  refine j_icmp_lt h (tgt := 16) dJ3_checkIndex_8e157_6 (by decide) (fun _ => ?_) (fun c => absurd h1 c)
  refine j_iload_n h dJ3_checkIndex_8e157_16 rfl 0 rfl ?_
  exact hR _ _ _ _ dJ3_checkIndex_8e157_17 ⟨rfl, rfl⟩

abbrev rm_J0_checkIndex_df160 : Room := { frames := 1, cells := 0, slots := 0, locals := 22 }
theorem c_J0_checkIndex_df160 (l : Launch) (D : gD) (cy : Nat → ClassId) {S : Type} {Wd : S → va_W} (u : S) {i n : Int32} (h0 : ¬ i < 0) (h1 : i < n) : CtV l D cy Wd yJ0_checkIndex_df160 cJ0_checkIndex_df160 2 none rm_J0_checkIndex_df160 [.int i, .int n] (u) (fun u' => u' = u) 0 0 := by
  refine m_entV cJ0_checkIndex_df160 2 (by decide) (Nat.le_of_ble_eq_true rfl) (fun J h hR => ?_)
  show J (u) (0, 0) [(0, .int i), (1, .int n)] 0 []
  refine j_iload_n h dJ0_checkIndex_df160_0 rfl 0 rfl ?_
  refine j_iload_n h dJ0_checkIndex_df160_1 rfl 1 rfl ?_
  refine j_getsq h (fun _ _ _ z => z.2.1) (xr_15 21 rfl) rfl dJ0_checkIndex_df160_2 (fun v hv => ?_)
  rcases hv with rfl | ⟨t0, rfl⟩
  · refine j_callS h (n := 3) (c_J3_checkIndex_n l D cy u h0 h1) (xg_S (xr_16 17 rfl) (xr_16 18 rfl) (xr_16 0 rfl) (xr_16 19 rfl)) rfl rfl (by decide +kernel) ⟨Nat.le_of_ble_eq_true rfl, Nat.le_of_ble_eq_true rfl⟩ rfl rfl (Nat.le_of_ble_eq_true rfl) dJ0_checkIndex_df160_5 ⟨by decide, by decide⟩ (fun r u' hq => ?_)
    obtain ⟨rfl, rfl⟩ := hq
    refine j_pop h dJ0_checkIndex_df160_8 rfl ?_
    exact hR _ _ _ dJ0_checkIndex_df160_9 rfl
  · refine j_callS h (n := 3) (c_J3_checkIndex_r l D cy u t0 h0 h1) (xg_S (xr_16 17 rfl) (xr_16 18 rfl) (xr_16 0 rfl) (xr_16 19 rfl)) rfl rfl (by decide +kernel) ⟨Nat.le_of_ble_eq_true rfl, Nat.le_of_ble_eq_true rfl⟩ rfl rfl (Nat.le_of_ble_eq_true rfl) dJ0_checkIndex_df160_5 ⟨by decide, by decide⟩ (fun r u' hq => ?_)
    obtain ⟨rfl, rfl⟩ := hq
    refine j_pop h dJ0_checkIndex_df160_8 rfl ?_
    exact hR _ _ _ dJ0_checkIndex_df160_9 rfl

abbrev rm_J5_charAt_5068e : Room := { frames := 2, cells := 0, slots := 0, locals := 43 }
theorem c_J5_charAt_5068e (l : Launch) (D : gD) (cy : Nat → ClassId) {S : Type} {Wd : S → va_W} {p q0 q1 : Nat} {put : sbV → S} (hB : SBL cy Wd p q0 q1 put) (ml : Int32) {n : Nat} (a : Nat) {m : Nat} (f : Nat → Int32) {i : Nat} (hi : i < n) (hnm : n ≤ m) (hm : m ≤ 65536) (hv : ((f i &&& 255).toUInt32 % 65536).toInt32 = f i &&& 255) : CtI l D cy Wd yJ5_charAt_5068e cJ5_charAt_5068e 5 (some .char) rm_J5_charAt_5068e [.ref p, .int (nI i)] (put (ml, nI n, a, m, f)) (fun r u' => r = f i &&& 255 ∧ u' = put (ml, nI n, a, m, f)) 0 0 := by
  refine m_entC cJ5_charAt_5068e 5 (by decide) (Nat.le_of_ble_eq_true rfl) (fun J h hR => ?_)
  show J (put (ml, nI n, a, m, f)) (0, 0) [(0, .ref p), (1, .int (nI i))] 0 []
  refine j_aload_n h dJ5_charAt_5068e_0 rfl 0 rfl ?_
  refine j_get h inlJ4 q0 (hB.2.1 _) rfl 1 (by decide) (xr_5 9 rfl) rfl (v := .int 0) rfl dJ5_charAt_5068e_1 ?_
  refine j_istore_n h (lv' := [(2, _), (0, _), (1, _)]) dJ5_charAt_5068e_4 rfl (by decide) rfl ?_
  refine j_aload_n h dJ5_charAt_5068e_5 rfl 1 rfl ?_
  refine j_get h inlJ4 q0 (hB.2.1 _) rfl 0 (by decide) (xr_5 8 rfl) rfl (v := .ref a) rfl dJ5_charAt_5068e_6 ?_
  refine j_astore_n h (lv' := [(3, _), (2, _), (0, _), (1, _)]) dJ5_charAt_5068e_9 rfl (by decide) rfl ?_
  refine j_aload_n h dJ5_charAt_5068e_10 rfl 2 rfl ?_
  refine j_get h inlJ4 q0 (hB.2.1 _) rfl 3 (by decide) (xr_12 15 rfl) rfl (v := .int (nI n)) rfl dJ5_charAt_5068e_11 ?_
  refine j_aload_n h dJ5_charAt_5068e_14 rfl 0 rfl ?_
  refine j_alen h q1 5 (hB.2.2.1 _) rfl (v := nI m) rfl dJ5_charAt_5068e_15 ?_
  refine j_iload_n h dJ5_charAt_5068e_16 rfl 1 rfl ?_
  refine j_ishr h dJ5_charAt_5068e_17 ?_
  rw [show ((nI m) >>> (0 &&& 31) : Int32) = nI m from (sb_shr0 _)]
  refine j_mmin h (xr_17 19 rfl) (xr_1 7 rfl) (xr_1 8 rfl) (xr_1 9 rfl) (by decide) (Nat.le_of_ble_eq_true rfl) (Nat.zero_le _) (Nat.zero_le _) dJ5_charAt_5068e_18 ?_
  rw [show (if (nI m) < (nI n) then (nI m) else (nI n)) = nI n from (if_neg (nI_nlt hnm (by omega)))]
  refine j_istore h (lv' := [(4, _), (3, _), (2, _), (0, _), (1, _)]) dJ5_charAt_5068e_21 (by decide) rfl ?_
  refine j_iload_n h dJ5_charAt_5068e_23 rfl 4 rfl ?_
  refine j_iload h dJ5_charAt_5068e_24 0 rfl ?_
  refine j_callSV h (n := 2) (c_J0_checkIndex_df160 l D cy _ (nI_pos (by omega)) (nI_lt hi (by omega))) (xg_S (xr_17 20 rfl) (xr_16 15 rfl) (xr_15 19 rfl) (xr_16 16 rfl)) rfl rfl (by decide +kernel) ⟨Nat.le_of_ble_eq_true rfl, Nat.le_of_ble_eq_true rfl⟩ rfl rfl (Nat.le_of_ble_eq_true rfl) dJ5_charAt_5068e_26 ⟨by decide, by decide⟩ (fun u' hq => ?_)
  subst hq
  refine j_iload_n h dJ5_charAt_5068e_29 rfl 2 rfl ?_
  refine j_if_ne h (tgt := 42) dJ5_charAt_5068e_30 (by decide) (fun c => absurd rfl c) (fun _ => ?_)
  refine j_aload_n h dJ5_charAt_5068e_33 rfl 1 rfl ?_
  refine j_iload_n h dJ5_charAt_5068e_34 rfl 4 rfl ?_
  refine j_bald h q1 (hB.2.2.1 _) (vp_in_nI (n := i) (N := m) (by omega) (by omega)) dJ5_charAt_5068e_35 ?_
  rw [nI_clamp (n := i) (by omega)]
  refine j_sipush h (v := 255) dJ5_charAt_5068e_36 (by decide) ?_
  refine j_iand h dJ5_charAt_5068e_39 ?_
  refine j_i2c h (v := f i &&& 255) dJ5_charAt_5068e_40 hv ?_
  exact hR _ _ _ _ dJ5_charAt_5068e_41 (narrow_c hv) ⟨rfl, rfl⟩

abbrev rm_J4_charAt_5068e : Room := { frames := 3, cells := 0, slots := 0, locals := 67 }
theorem c_J4_charAt_5068e (l : Launch) (D : gD) (cy : Nat → ClassId) {S : Type} {Wd : S → va_W} {p q0 q1 : Nat} {put : sbV → S} (hB : SBL cy Wd p q0 q1 put) (ml : Int32) {n : Nat} (a : Nat) {m : Nat} (f : Nat → Int32) {i : Nat} (hi : i < n) (hnm : n ≤ m) (hm : m ≤ 65536) (hv : ((f i &&& 255).toUInt32 % 65536).toInt32 = f i &&& 255) : CtI l D cy Wd yJ4_charAt_5068e cJ4_charAt_5068e 2 (some .char) rm_J4_charAt_5068e [.ref p, .int (nI i)] (put (ml, nI n, a, m, f)) (fun r u' => r = f i &&& 255 ∧ u' = put (ml, nI n, a, m, f)) 0 0 := by
  refine m_entC cJ4_charAt_5068e 2 (by decide) (Nat.le_of_ble_eq_true rfl) (fun J h hR => ?_)
  show J (put (ml, nI n, a, m, f)) (0, 0) [(0, .ref p), (1, .int (nI i))] 0 []
  refine j_aload_n h dJ4_charAt_5068e_0 rfl 0 rfl ?_
  refine j_iload_n h dJ4_charAt_5068e_1 rfl 1 rfl ?_
  refine j_supI h (n := 1) (c_J5_charAt_5068e l D cy hB ml a f hi hnm hm hv) (xg_SU (xr_17 15 rfl) (xr_17 16 rfl) (xr_12 12 rfl) (xr_17 17 rfl) (xr_5 3 rfl) (xr_17 18 rfl)) rfl rfl (xr_2 3 rfl) (by decide +kernel) ⟨Nat.le_of_ble_eq_true rfl, Nat.le_of_ble_eq_true rfl⟩ q0 (hB.2.1 _) rfl rfl rfl rfl (Nat.le_of_ble_eq_true rfl) dJ4_charAt_5068e_2 ⟨by decide, by decide⟩ (fun r u' hq => ?_)
  obtain ⟨rfl, rfl⟩ := hq
  exact hR _ _ _ _ dJ4_charAt_5068e_5 (narrow_c hv) ⟨rfl, rfl⟩

