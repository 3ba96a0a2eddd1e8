/-! ===== a StringBuilder in a world: its object at q0, its bytes at q1 ===== -/
/-- maybeLatin1, count, the bytes' address, how many, the bytes -/
abbrev sbV : Type := Int32 × Int32 × Nat × Nat × (Nat → Int32)
def SBL (cy : Nat → ClassId) {S : Type} (Wd : S → va_W) (p q0 q1 : Nat) (put : sbV → S) : Prop :=
  q0 ≠ q1 ∧ (∀ v : sbV, (Wd (put v))[q0]? = some (p, .inr (0, [.ref v.2.2.1, .int 0, .int v.1, .int v.2.1]))) ∧ (∀ v : sbV, (Wd (put v))[q1]? = some (v.2.2.1, .inl (cy 5, v.2.2.2.1, .inl v.2.2.2.2))) ∧
  ∀ v v' : sbV, ((Wd (put v)).set q0 (p, .inr (0, [.ref v'.2.2.1, .int 0, .int v'.1, .int v'.2.1]))).set q1 (v'.2.2.1, .inl (cy 5, v'.2.2.2.1, .inl v'.2.2.2.2)) = Wd (put v')
theorem set_eq {α : Type} {l : List α} {i : Nat} {x : α} (h : l[i]? = some x) : l.set i x = l := by
  refine List.ext_getElem? fun j => ?_
  by_cases e : i = j
  · subst e
    rw [List.getElem?_set_self (List.getElem?_eq_some_iff.mp h).1, h]
  · rw [List.getElem?_set_ne e]
theorem SBL.s0 {cy : Nat → ClassId} {S : Type} {Wd : S → va_W} {p q0 q1 : Nat} {put : sbV → S} (hB : SBL cy Wd p q0 q1 put) {v v' : sbV} (e1 : v'.2.2.1 = v.2.2.1) (e2 : v'.2.2.2.1 = v.2.2.2.1) (e3 : v'.2.2.2.2 = v.2.2.2.2) : (Wd (put v)).set q0 (p, .inr (0, [.ref v'.2.2.1, .int 0, .int v'.1, .int v'.2.1])) = Wd (put v') := by
  have h := hB.2.2.2 v v'
  rw [set_eq] at h
  · exact h
  · rw [List.getElem?_set_ne hB.1, hB.2.2.1 v, e1, e2, e3]
theorem SBL.s1 {cy : Nat → ClassId} {S : Type} {Wd : S → va_W} {p q0 q1 : Nat} {put : sbV → S} (hB : SBL cy Wd p q0 q1 put) {ml n : Int32} {a m : Nat} {f g : Nat → Int32} : (Wd (put (ml, n, a, m, f))).set q1 (a, .inl (cy 5, m, .inl g)) = Wd (put (ml, n, a, m, g)) := by
  have h := hB.2.2.2 (ml, n, a, m, f) (ml, n, a, m, g)
  rw [set_eq (hB.2.1 (ml, n, a, m, f))] at h
  exact h
theorem xg_U {own C : String} {idx : Nat} {y : MethodName} {c : Cond} (h1 : Cond.methodLink own idx y ∈ wsL_law) (h2 : Cond.sameMethod y.cls y.cls y.name y.desc ∈ wsL_law) (h3 : Cond.selects C y y ∈ wsL_law) (h4 : Cond.instanceMethod y ∈ wsL_law) (h5 : Cond.initialized y.cls ∈ wsL_law) (h6 : c ∈ wsL_law) : GoodIn wsL_law (va_wsU own idx C y.cls y y (c :: wsL_law)) := xg_cons h1 (xg_cons h2 (xg_cons h3 (xg_cons h4 (xg_cons h5 (xg_cons h6 xg_law)))))
theorem xg_SU {own : String} {idx : Nat} {y : MethodName} {c : Cond} (h1 : Cond.methodLink own idx y ∈ wsL_law) (h2 : Cond.sameMethod y.cls y.cls y.name y.desc ∈ wsL_law) (h3 : Cond.superclass own y.cls ∈ wsL_law) (h4 : Cond.instanceMethod y ∈ wsL_law) (h5 : Cond.initialized y.cls ∈ wsL_law) (h6 : c ∈ wsL_law) : GoodIn wsL_law (va_wsSU own idx y (c :: wsL_law)) := xg_cons h1 (xg_cons h2 (xg_cons h3 (xg_cons h4 (xg_cons h5 (xg_cons h6 xg_law)))))
def RtC {S : Type} (J : JT S) (cc : ByteArray) (post : Int32 → S → Prop) (mc ms : Nat) : Prop := ∀ (u : S) (lv : List (Nat × Value)) (pc : Nat) (r : Int32), decode cc pc = .ok (.ireturn, 1) → narrow .char (.int r) = .int r → post r u → J u (mc, ms) lv pc [.int r]
theorem m_entC {l : Launch} {D : gD} {cy : Nat → ClassId} {S : Type} {Wd : S → va_W} {y : MethodName} {rm : Room} {av : List Value} {u : S} {post : Int32 → S → Prop} {mc ms : Nat} (cc : ByteArray) (n : Nat) (hy : plainName y.cls = true) (hn : (lg_sl av).length ≤ n)
    (body : ∀ J : JT S, OKJ l D cy Wd J cc n y rm → RtC J cc post mc ms → J u (0, 0) (lv_args 0 av) 0 []) : CtI l D cy Wd y cc n (some .char) rm av u post mc ms := by
  intro sz
  refine Met.ofW (cc := cc) (maxL := n) (ret := some .char) hy rfl ?_
  intro p e s m args below meth c s₁ B hml hv
  obtain ⟨rfl, hsz, hP, hK, hD0, hZ0⟩ := hv
  subst hsz
  have hD := hD0.self (sz := s.heap.size)
  have hl := lv_entry av (n := n) hn
  rw [lg_entry_eq]
  generalize (lg_sl av ++ List.replicate (n - (lg_sl av).length) Slot.unset).toArray = ls at hl ⊢
  refine body (fun (u : S) (k : Nat × Nat) (lv : List (Nat × Value)) (pc : Nat) (st : List Value) => ∀ (H : Heap) (locs : List Loc) (ls : Array Slot), va_P D.1 vwCl (Wd u) H → va_D _ (Wd u) → va_S _ s.heap H locs → lv_has ls n lv → W p l e _ s m _ below meth c H locs k.1 k.2 _ (F0 m pc ls st)) ⟨p, e, s, m, _, below, meth, c, va_A (Wd u) s.heap.size, s.heap, _, ⟨B.exec, B.bytes, hml, findClass_of_methodNamed B.named, fun w hw => atoms_spec (ws := wsB y cc n (some .char)) B.pre w (List.mem_cons_of_mem _ hw)⟩, hK, fun q hq => Or.inr hq, (name_of_methodNamed B.named B.method).1, rfl, hZ0, rfl⟩ ?_ s.heap [] ls hP hD va_S.rf hl
  intro u' lv pc r hd hr01 hp H locs ls hP' hD' hS' hl'
  exact W.zret B.exec B.bytes B.returns hr01 (fun t ht hW => ⟨⟨r, u', rfl, hp, by rw [ht]; exact hP', va_K.moved hW.alike hK, hD'⟩, hS'.F ht⟩) hS'.2.2 hd B.notSynchronized
abbrev rm_J5_isLatin1_aae02 : Room := { frames := 0, cells := 0, slots := 0, locals := 0 }
theorem c_J5_isLatin1_aae02 (l : Launch) (D : gD) (cy : Nat → ClassId) {S : Type} {Wd : S → va_W} {p q0 q1 : Nat} {put : sbV → S} (hB : SBL cy Wd p q0 q1 put) (ml n : Int32) (a m : Nat) (f : Nat → Int32) : CtI l D cy Wd yJ5_isLatin1_aae02 cJ5_isLatin1_aae02 1 (some .boolean) rm_J5_isLatin1_aae02 [.ref p] (put (ml, n, a, m, f)) (fun r u' => r = 1 ∧ u' = put (ml, n, a, m, f)) 0 0 := by
  refine m_entZ cJ5_isLatin1_aae02 1 (by decide) (Nat.le_of_ble_eq_true rfl) (fun J h hR => ?_)
  show J (put (ml, n, a, m, f)) (0, 0) [(0, .ref p)] 0 []
  refine j_gets h (fun _ _ _ z => z.1) (xr_5 3 rfl) rfl dJ5_isLatin1_aae02_0 ?_
  refine j_if_eq h (tgt := 17) dJ5_isLatin1_aae02_3 (by decide) (fun c => absurd c (by decide)) (fun _ => ?_)
  refine j_aload_n h dJ5_isLatin1_aae02_6 rfl 0 rfl ?_
  refine j_get h inlJ4 q0 (hB.2.1 _) rfl 1 (by decide) (xr_5 6 rfl) rfl (v := .int 0) rfl dJ5_isLatin1_aae02_7 ?_
  refine j_if_ne h (tgt := 17) dJ5_isLatin1_aae02_10 (by decide) (fun c => absurd rfl c) (fun _ => ?_)
  refine j_iconst h (v := 1) dJ5_isLatin1_aae02_13 (by decide) ?_
  refine j_goto h (tgt := 18) dJ5_isLatin1_aae02_14 (by decide) ?_
  exact hR _ _ _ _ dJ5_isLatin1_aae02_18 (Or.inr rfl) ⟨rfl, rfl⟩

abbrev rm_J5_length_8abf5 : Room := { frames := 0, cells := 0, slots := 0, locals := 0 }
theorem c_J5_length_8abf5 (l : Launch) (D : gD) (cy : Nat → ClassId) {S : Type} {Wd : S → va_W} {p q0 q1 : Nat} {put : sbV → S} (hB : SBL cy Wd p q0 q1 put) (ml n : Int32) (a m : Nat) (f : Nat → Int32) : CtI l D cy Wd yJ5_length_8abf5 cJ5_length_8abf5 1 (some .int) rm_J5_length_8abf5 [.ref p] (put (ml, n, a, m, f)) (fun r u' => r = n ∧ u' = put (ml, n, a, m, f)) 0 0 := by
  refine m_entI cJ5_length_8abf5 1 (by decide) (Nat.le_of_ble_eq_true rfl) (fun J h hR => ?_)
  show J (put (ml, n, a, m, f)) (0, 0) [(0, .ref p)] 0 []
  refine j_aload_n h dJ5_length_8abf5_0 rfl 0 rfl ?_
  refine j_get h inlJ4 q0 (hB.2.1 _) rfl 3 (by decide) (xr_8 2 rfl) rfl (v := .int n) rfl dJ5_length_8abf5_1 ?_
  exact hR _ _ _ _ dJ5_length_8abf5_4 ⟨rfl, rfl⟩

abbrev rm_J4_length_8abf5 : Room := { frames := 1, cells := 0, slots := 0, locals := 20 }
theorem c_J4_length_8abf5 (l : Launch) (D : gD) (cy : Nat → ClassId) {S : Type} {Wd : S → va_W} {p q0 q1 : Nat} {put : sbV → S} (hB : SBL cy Wd p q0 q1 put) (ml n : Int32) (a m : Nat) (f : Nat → Int32) : CtI l D cy Wd yJ4_length_8abf5 cJ4_length_8abf5 1 (some .int) rm_J4_length_8abf5 [.ref p] (put (ml, n, a, m, f)) (fun r u' => r = n ∧ u' = put (ml, n, a, m, f)) 0 0 := by
  refine m_entI cJ4_length_8abf5 1 (by decide) (Nat.le_of_ble_eq_true rfl) (fun J h hR => ?_)
  show J (put (ml, n, a, m, f)) (0, 0) [(0, .ref p)] 0 []
  refine j_aload_n h dJ4_length_8abf5_0 rfl 0 rfl ?_
  refine j_supI h (n := 0) (c_J5_length_8abf5 l D cy hB ml n a m f) (xg_SU (xr_7 21 rfl) (xr_7 22 rfl) (xr_7 23 rfl) (xr_8 0 rfl) (xr_5 0 rfl) (xr_8 1 rfl)) rfl rfl (xr_1 23 rfl) (by decide +kernel) ⟨Nat.le_of_ble_eq_true rfl, Nat.le_of_ble_eq_true rfl⟩ q0 (hB.2.1 _) rfl rfl rfl rfl (Nat.le_of_ble_eq_true rfl) dJ4_length_8abf5_1 ⟨by decide, by decide⟩ (fun r u' hq => ?_)
  obtain ⟨rfl, rfl⟩ := hq
  exact hR _ _ _ _ dJ4_length_8abf5_4 ⟨rfl, rfl⟩

