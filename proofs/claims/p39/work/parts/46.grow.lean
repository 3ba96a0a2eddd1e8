/-! ===== a world as a list of cells: methods that make arrays ===== -/
abbrev wI : va_W → va_W := fun w => w
def RtW (D : gD) {S : Type} (Wd : S → va_W) (J : JT va_W) (cc : ByteArray) (post : S → Prop) (mc ms : Nat) : Prop := ∀ (w : va_W) (u : S) (lv : List (Nat × Value)) (pc : Nat), decode cc pc = .ok (.return_, 1) → post u → (∀ H : Heap, va_P D.1 vwCl w H → va_P D.1 vwCl (Wd u) H) → (∀ A : Nat → Prop, va_D A w → va_D A (Wd u)) → J w (mc, ms) lv pc []
theorem m_entW {l : Launch} {D : gD} {cy : Nat → ClassId} {S : Type} {Wd : S → va_W} {y : MethodName} {rm : Room} {av : List Value} {u : S} {post : S → Prop} {mc ms : Nat} (cc : ByteArray) (n : Nat) (hy : plainName y.cls = true) (hn : (lg_sl av).length ≤ n)
    (body : ∀ J : JT va_W, OKJ l D cy wI J cc n y rm → RtW D Wd J cc post mc ms → J (Wd u) (0, 0) (lv_args 0 av) 0 []) : CtV l D cy Wd y cc n none rm av u post mc ms := by
  intro sz
  refine Met.ofW (cc := cc) (maxL := n) (ret := none) hy rfl ?_
  intro p e s m args below meth c s₁ B hml hv
  obtain ⟨rfl, hsz, hP, hK, hD0, hZ0⟩ := hv
  subst hsz
  have hD := hD0.self (sz := s.heap.size)
  have hl := lv_entry av (n := n) hn
  rw [lg_entry_eq]
  generalize (lg_sl av ++ List.replicate (n - (lg_sl av).length) Slot.unset).toArray = ls at hl ⊢
  refine body (fun (w : va_W) (k : Nat × Nat) (lv : List (Nat × Value)) (pc : Nat) (st : List Value) => ∀ (H : Heap) (locs : List Loc) (ls : Array Slot), va_P D.1 vwCl w H → va_D _ w → va_S _ s.heap H locs → lv_has ls n lv → W p l e _ s m _ below meth c H locs k.1 k.2 _ (F0 m pc ls st)) ⟨p, e, s, m, _, below, meth, c, va_A (Wd u) s.heap.size, s.heap, _, ⟨B.exec, B.bytes, hml, findClass_of_methodNamed B.named, fun w hw => atoms_spec (ws := wsB y cc n none) B.pre w (List.mem_cons_of_mem _ hw)⟩, hK, fun q hq => Or.inr hq, (name_of_methodNamed B.named B.method).1, rfl, hZ0, rfl⟩ ?_ s.heap [] ls hP hD va_S.rf hl
  intro w u' lv pc hd hp hPc hDc H locs ls hP' hD' hS' hl'
  exact W.vret B.exec B.bytes B.returns (fun t ht hW => ⟨⟨u', rfl, hp, by rw [ht]; exact hPc _ hP', va_K.moved hW.alike hK, hDc _ hD'⟩, hS'.F ht⟩) hS'.2.2 hd B.notSynchronized
theorem SBL.raw {cy : Nat → ClassId} {S : Type} {Wd : S → va_W} {p q0 q1 : Nat} {put : sbV → S} (hB : SBL cy Wd p q0 q1 put) : SBL cy wI p q0 q1 (fun v => Wd (put v)) := hB
section J3
variable {l : Launch} {D : gD} {cy : Nat → ClassId} {J : JT va_W} {cc : ByteArray} {nL : Nat} {y0 : MethodName} {R : Room} {u : va_W} {q : Nat × Nat} {lv : List (Nat × Value)} {pc : Nat} {rest : List Value}
/-- a new array of bytes comes last in the world -/
theorem j_newb (h : OKJ l D cy wI J cc nL y0 R) (harr : Cond.arrayClass .byte ∈ wsL_law) {n : Int32} {N : Nat} (hn : ¬ n < 0) (hN : n.toNatClampNeg = N) (hb : N ≤ 65536) (hc : q.1 + 1 ≤ R.cells) (hs : q.2 + N ≤ R.slots) (hdg : decode cc pc = .ok (.newarray .byte, 2))
    (kk : ∀ r : Nat, J (u ++ [(r, .inl (cy 5, N, .inl (fun _ => 0)))]) (q.1 + 1, q.2 + N) lv (pc + 2) (.ref r :: rest)) : J u q lv pc (.int n :: rest) := by
  obtain ⟨p, e, s, m, args, below, meth, c, A, H0, Q, h0, hK, hA, hnm', hH0, hZ, rfl⟩ := h
  intro H locs ls hP hD hS hl0
  refine va_newa (atype := .byte) h0.1 h0.2.1 (h0.2.2.2.2 _ harr) (ty := .byte) rfl hK hP hD hS hA (N' := N) (a0 := (N, .inl (fun _ => 0))) (fun cA => rfl) hn hN (by show N * 1 ≤ 536870912; omega) hc hs hdg (fun r cA H1 hK1 hP1 hD1 hS1 => ?_)
  have e1 : s.vm.findClass ("[" ++ FieldType.toString .byte) = some (cy 5) := (hK.2 5 (cy 5, .byte) rfl).2
  have e2 : s.vm.findClass ("[" ++ FieldType.toString .byte) = some cA := (hK1.2 7 (cA, .byte) rfl).2
  have e3 : cA = cy 5 := Option.some.inj (e2.symm.trans e1)
  subst e3
  exact kk r H1 locs ls hP1 hD1 hS1 hl0
theorem j_copyb {S : Type} {Wd : S → va_W} {J : JT S} {u : S} (h : OKJ l D cy Wd J cc nL y0 R) {index : Nat} (h1 : Cond.methodLink y0.cls index arraycopyName ∈ wsL_law) (h2 : Cond.native arraycopyName ∈ wsL_law) (h3 : Cond.static arraycopyName ∈ wsL_law) (h4 : Cond.initialized "java/lang/System" ∈ wsL_law) (p0 p1 : Nat) {a0 a1 n0 n1 : Nat} {f g : Nat → Int32}
    (ha0 : (Wd u)[p0]? = some (a0, .inl (cy 5, n0, .inl f))) (ha1 : (Wd u)[p1]? = some (a1, .inl (cy 5, n1, .inl g))) {sp dp n : Int32} (g1 : ¬ sp < 0) (g2 : ¬ dp < 0) (g3 : ¬ n < 0) (g4 : sp.toNatClampNeg + n.toNatClampNeg ≤ n0) (g5 : dp.toNatClampNeg + n.toNatClampNeg ≤ n1) (hfit : ∀ i, i < n.toNatClampNeg → fits .byte (.int (f (sp.toNatClampNeg + i))) = true)
    (hfr : 1 ≤ R.frames) (hlo : (rest.map fun v => v.category).sum + (nativeFrameWords "java/lang/System" "arraycopy" 5 + 11) ≤ R.locals) (hdg : decode cc pc = .ok (.invokestatic index, 3)) {u' : S} (hset : (Wd u).set p1 (a1, .inl (cy 5, n1, .inl (va_cpy f g sp.toNatClampNeg dp.toNatClampNeg n.toNatClampNeg))) = Wd u')
    (kk : J u' q lv (pc + 3) rest) : J u q lv pc (.int n :: .int dp :: .ref a1 :: .int sp :: .ref a0 :: rest) := by
  obtain ⟨p, e, s, m, args, below, meth, c, A, H0, Q, h0, hK, hA, hnm', hH0, hZ, rfl⟩ := h
  intro H locs ls hP hD hS hl0
  exact va_copyi h0.1 h0.2.1 (h0.2.2.1.trans hl0.1.symm) h0.2.2.2.1 (h0.2.2.2.2 _ h1) (h0.2.2.2.2 _ h2) (h0.2.2.2.2 _ h3) (h0.2.2.2.2 _ h4) hK hP hD hS p0 p1 5 5 ha0 ha1 rfl rfl rfl g1 g2 g3 g4 g5 hfit hfr hlo hdg (fun H1 locs1 hP1 hD1 hS1 => kk H1 locs1 ls (hset ▸ hP1) (hset ▸ hD1) hS1 hl0)
end J3
theorem mx_nI {x y : Nat} (hx : x < 2 ^ 31) (hy : y < 2 ^ 31) : (if nI x < nI y then nI y else nI x) = nI (if x < y then y else x) := by
  by_cases z : x < y
  · rw [if_pos z, if_pos (nI_lt z hy)]
  · rw [if_neg z, if_neg (nI_nlt (by omega) (by omega))]
abbrev rm_J8_newLength_cabcc : Room := { frames := 1, cells := 0, slots := 0, locals := 21 }
theorem c_J8_newLength_cabcc (l : Launch) (D : gD) (cy : Nat → ClassId) {S : Type} {Wd : S → va_W} (u : S) {m x y : Nat} (hm : m ≤ 65536) (hx : x ≤ 65536) (hy : y ≤ 131074) (hp : 0 < m + (if x < y then y else x)) (hq : m + (if x < y then y else x) ≤ 196610) : CtI l D cy Wd yJ8_newLength_cabcc cJ8_newLength_cabcc 4 (some .int) rm_J8_newLength_cabcc [.int (nI m), .int (nI x), .int (nI y)] (u) (fun r u' => r = nI (m + (if x < y then y else x)) ∧ u' = u) 0 0 := by
  refine m_entI cJ8_newLength_cabcc 4 (by decide) (Nat.le_of_ble_eq_true rfl) (fun J h hR => ?_)
  show J (u) (0, 0) [(0, .int (nI m)), (1, .int (nI x)), (2, .int (nI y))] 0 []
  refine j_iload_n h dJ8_newLength_cabcc_0 rfl 0 rfl ?_
  refine j_iload_n h dJ8_newLength_cabcc_1 rfl 1 rfl ?_
  refine j_iload_n h dJ8_newLength_cabcc_2 rfl 2 rfl ?_
  refine j_mmax h (xr_13 19 rfl) (xr_9 15 rfl) (xr_1 8 rfl) (xr_9 16 rfl) (by decide) (Nat.le_of_ble_eq_true rfl) (Nat.zero_le _) (Nat.zero_le _) dJ8_newLength_cabcc_3 ?_
  rw [show (if (nI x) < (nI y) then (nI y) else (nI x)) = (nI (if x < y then y else x)) from (mx_nI (by omega) (by omega))]
  refine j_iadd h dJ8_newLength_cabcc_6 ?_
  rw [show ((nI m) + (nI (if x < y then y else x)) : Int32) = nI (m + (if x < y then y else x)) from (nI_add _ _)]
  refine j_istore_n h (lv' := [(3, _), (0, _), (1, _), (2, _)]) dJ8_newLength_cabcc_7 rfl (by decide) rfl ?_
  refine j_iconst h (v := 0) dJ8_newLength_cabcc_8 (by decide) ?_
  refine j_iload_n h dJ8_newLength_cabcc_9 rfl 0 rfl ?_
  refine j_icmp_ge h (tgt := 21) dJ8_newLength_cabcc_10 (by decide) (fun c => absurd c (nI_nle hp (by omega))) (fun _ => ?_)
  refine j_iload_n h dJ8_newLength_cabcc_13 rfl 0 rfl ?_
  refine j_ldc h (xr_13 20 rfl) dJ8_newLength_cabcc_14 ?_
  refine j_icmp_gt h (tgt := 21) dJ8_newLength_cabcc_16 (by decide) (fun c => absurd c (show ¬ nI 2147483639 < nI (m + (if x < y then y else x)) from nI_nlt (by omega) (by decide))) (fun _ => ?_)
  refine j_iload_n h dJ8_newLength_cabcc_19 rfl 0 rfl ?_
  exact hR _ _ _ _ dJ8_newLength_cabcc_20 ⟨rfl, rfl⟩

theorem sb_capE {q m : Nat} (h : ¬ q ≤ m) : sb_cap q m = m + (if q - m < m + 2 then m + 2 else q - m) := by
  unfold sb_cap
  rw [if_neg h]
  split <;> split <;> omega
abbrev rm_J5_newCapacity_0f7a4 : Room := { frames := 2, cells := 0, slots := 0, locals := 44 }
theorem c_J5_newCapacity_0f7a4 (l : Launch) (D : gD) (cy : Nat → ClassId) {S : Type} {Wd : S → va_W} {p q0 q1 : Nat} {put : sbV → S} (hB : SBL cy Wd p q0 q1 put) (ml n : Int32) (a : Nat) {m : Nat} (f : Nat → Int32) {q : Nat} (hc0 : ¬ q ≤ m) (hm : m ≤ 32766) (hq : q ≤ 65536) : CtI l D cy Wd yJ5_newCapacity_0f7a4 cJ5_newCapacity_0f7a4 6 (some .int) rm_J5_newCapacity_0f7a4 [.ref p, .int (nI q)] (put (ml, n, a, m, f)) (fun r u' => r = nI (sb_cap q m) ∧ u' = put (ml, n, a, m, f)) 0 0 := by
  refine m_entI cJ5_newCapacity_0f7a4 6 (by decide) (Nat.le_of_ble_eq_true rfl) (fun J h hR => ?_)
  show J (put (ml, n, a, m, f)) (0, 0) [(0, .ref p), (1, .int (nI q))] 0 []
  have hcE := sb_capE hc0
  have hc1 : sb_cap q m ≤ 65536 := by rw [hcE]; split <;> omega
  have hcp : 0 < sb_cap q m := Nat.lt_of_lt_of_le (by omega) (sb_cap_ge q m)
  refine j_aload_n h dJ5_newCapacity_0f7a4_0 rfl 0 rfl ?_
  refine j_get h inlJ4 q0 (hB.2.1 _) rfl 0 (by decide) (xr_5 8 rfl) rfl (v := .ref a) rfl dJ5_newCapacity_0f7a4_1 ?_
  refine j_alen h q1 5 (hB.2.2.1 _) rfl (v := nI m) rfl dJ5_newCapacity_0f7a4_4 ?_
  refine j_istore_n h (lv' := [(2, _), (0, _), (1, _)]) dJ5_newCapacity_0f7a4_5 rfl (by decide) rfl ?_
  refine j_iload_n h dJ5_newCapacity_0f7a4_6 rfl 2 rfl ?_
  refine j_aload_n h dJ5_newCapacity_0f7a4_7 rfl 1 rfl ?_
  refine j_get h inlJ4 q0 (hB.2.1 _) rfl 1 (by decide) (xr_5 9 rfl) rfl (v := .int 0) rfl dJ5_newCapacity_0f7a4_8 ?_
  refine j_ishl h dJ5_newCapacity_0f7a4_11 ?_
  rw [show ((nI q) <<< (0 &&& 31) : Int32) = nI q from (sb_shl0 _)]
  refine j_istore_n h (lv' := [(3, _), (2, _), (0, _), (1, _)]) dJ5_newCapacity_0f7a4_12 rfl (by decide) rfl ?_
  refine j_iload_n h dJ5_newCapacity_0f7a4_13 rfl 0 rfl ?_
  refine j_iload_n h dJ5_newCapacity_0f7a4_14 rfl 1 rfl ?_
  refine j_isub h dJ5_newCapacity_0f7a4_15 ?_
  rw [show ((nI q) - (nI m) : Int32) = nI (q - m) from (pk_sub (by omega))]
  refine j_istore h (lv' := [(4, _), (3, _), (2, _), (0, _), (1, _)]) dJ5_newCapacity_0f7a4_16 (by decide) rfl ?_
  refine j_iload_n h dJ5_newCapacity_0f7a4_18 rfl 2 rfl ?_
  refine j_iload h dJ5_newCapacity_0f7a4_19 0 rfl ?_
  refine j_iload_n h dJ5_newCapacity_0f7a4_21 rfl 2 rfl ?_
  refine j_iconst h (v := 2) dJ5_newCapacity_0f7a4_22 (by decide) ?_
  refine j_aload_n h dJ5_newCapacity_0f7a4_23 rfl 3 rfl ?_
  refine j_get h inlJ4 q0 (hB.2.1 _) rfl 1 (by decide) (xr_5 9 rfl) rfl (v := .int 0) rfl dJ5_newCapacity_0f7a4_24 ?_
  refine j_ishl h dJ5_newCapacity_0f7a4_27 ?_
  rw [show ((2 : Int32) <<< (0 &&& 31) : Int32) = 2 from (sb_shl0 _)]
  refine j_iadd h dJ5_newCapacity_0f7a4_28 ?_
  rw [show ((nI m) + 2 : Int32) = nI (m + 2) from (nI_add m 2)]
  refine j_callS h (n := 3) (c_J8_newLength_cabcc l D cy _ (m := m) (x := q - m) (y := m + 2) (by omega) (by omega) (by omega) (by omega) (by omega)) (xg_S (xr_13 15 rfl) (xr_13 16 rfl) (xr_13 17 rfl) (xr_13 18 rfl)) rfl rfl (by decide +kernel) ⟨Nat.le_of_ble_eq_true rfl, Nat.le_of_ble_eq_true rfl⟩ rfl rfl (Nat.le_of_ble_eq_true rfl) dJ5_newCapacity_0f7a4_29 ⟨by decide, by decide⟩ (fun r u' hq => ?_)
  obtain ⟨rfl, rfl⟩ := hq
  rw [← hcE]
  refine j_istore h (lv' := [(5, _), (4, _), (3, _), (2, _), (0, _), (1, _)]) dJ5_newCapacity_0f7a4_32 (by decide) rfl ?_
  refine j_iload h dJ5_newCapacity_0f7a4_34 0 rfl ?_
  refine j_ldc h (xr_13 14 rfl) dJ5_newCapacity_0f7a4_36 ?_
  refine j_icmp_ne h (tgt := 51) dJ5_newCapacity_0f7a4_38 (by decide) (fun _ => ?_) (fun c => absurd ((nI_eq (by omega) (by decide)).mp (show nI (sb_cap q m) = nI 2147483647 from c)) (by omega))
  refine j_iload h dJ5_newCapacity_0f7a4_51 0 rfl ?_
  refine j_aload_n h dJ5_newCapacity_0f7a4_53 rfl 4 rfl ?_
  refine j_get h inlJ4 q0 (hB.2.1 _) rfl 1 (by decide) (xr_5 9 rfl) rfl (v := .int 0) rfl dJ5_newCapacity_0f7a4_54 ?_
  refine j_ishr h dJ5_newCapacity_0f7a4_57 ?_
  rw [show ((nI (sb_cap q m)) >>> (0 &&& 31) : Int32) = nI (sb_cap q m) from (sb_shr0 _)]
  exact hR _ _ _ _ dJ5_newCapacity_0f7a4_58 ⟨rfl, rfl⟩

theorem w_l {l t : va_W} {i : Nat} {x : Nat × va_E} (h : l[i]? = some x) : (l ++ t)[i]? = some x := by
  rw [List.getElem?_append_left (List.getElem?_eq_some_iff.mp h).1]
  exact h
theorem w_n {l : va_W} {x : Nat × va_E} : (l ++ [x])[l.length]? = some x := by
  rw [List.getElem?_append_right (Nat.le_refl _), Nat.sub_self]
  rfl
theorem w_s {l : va_W} {x y : Nat × va_E} : (l ++ [x]).set l.length y = l ++ [y] := by
  rw [List.set_append_right _ _ (Nat.le_refl _), Nat.sub_self]
  rfl
theorem grow_at {l : va_W} {q0 q1 : Nat} {c y : Nat × va_E} (h0 : q0 < l.length) (h1 : q1 < l.length) (k : Nat) (x : Nat × va_E) (h : ((l.set q0 c).set q1 y)[k]? = some x) : ((l ++ [y]).set q0 c)[if k = q1 then l.length else k]? = some x := by
  rw [List.set_append_left _ _ h0]
  by_cases e : k = q1
  · subst e
    rw [List.getElem?_set_self (by rw [List.length_set]; exact h1)] at h
    rw [if_pos rfl, List.getElem?_append_right (by rw [List.length_set]; exact Nat.le_refl _), List.length_set, Nat.sub_self]
    exact h
  · rw [List.getElem?_set_ne (Ne.symm e)] at h
    rw [if_neg e, List.getElem?_append_left (List.getElem?_eq_some_iff.mp h).1]
    exact h
theorem grow_P {D : gD} {l : va_W} {q0 q1 : Nat} {c y : Nat × va_E} (h0 : q0 < l.length) (h1 : q1 < l.length) (H : Heap) (h : va_P D.1 vwCl ((l ++ [y]).set q0 c) H) : va_P D.1 vwCl ((l.set q0 c).set q1 y) H := h.by (fun k => if k = q1 then l.length else k) (fun k x hx => grow_at h0 h1 k x hx)
theorem grow_D {A : Nat → Prop} {l : va_W} {q0 q1 : Nat} {c y : Nat × va_E} (h0 : q0 < l.length) (h1 : q1 < l.length) (h : va_D A ((l ++ [y]).set q0 c)) : va_D A ((l.set q0 c).set q1 y) := by
  refine h.by (fun k => if k = q1 then l.length else k) (fun k x hx => grow_at h0 h1 k x hx) (fun i j hi hj e => ?_)
  rw [List.length_set, List.length_set] at hi hj
  change (if i = q1 then l.length else i) = (if j = q1 then l.length else j) at e
  split at e <;> split at e <;> omega
abbrev rm_J7_copyOf_9075b (q : Nat) : Room := { frames := 1, cells := 1, slots := q, locals := 64 }
theorem c_J7_copyOf_9075b (l : Launch) (D : gD) (cy : Nat → ClassId) (u : va_W) {i a m q : Nat} {f : Nat → Int32} (ha : u[i]? = some (a, .inl (cy 5, m, .inl f))) (hmq : m < q) (hq : q ≤ 65536) (hf : ∀ j, fits .byte (.int (f j)) = true) : CtA l D cy wI yJ7_copyOf_9075b cJ7_copyOf_9075b 3 (some (.array .byte)) (rm_J7_copyOf_9075b q) [.ref a, .int (nI q)] (u) (fun r u' => u' = u ++ [(r, .inl (cy 5, q, .inl (va_cpy f (fun _ => 0) 0 0 m)))]) 1 q := by
  refine m_entB cJ7_copyOf_9075b 3 (by decide) (Nat.le_of_ble_eq_true rfl) (fun J h hR => ?_)
  show J (u) (0, 0) [(0, .ref a), (1, .int (nI q))] 0 []
  refine j_iload_n h dJ7_copyOf_9075b_0 rfl 1 rfl ?_
  refine j_aload_n h dJ7_copyOf_9075b_1 rfl 0 rfl ?_
  refine j_alen h i 5 (ha) rfl (v := nI m) rfl dJ7_copyOf_9075b_2 ?_
  refine j_icmp_ne h (tgt := 14) dJ7_copyOf_9075b_3 (by decide) (fun _ => ?_) (fun c => absurd ((nI_eq (by omega) (by omega)).mp c) (by omega))
  refine j_iload_n h dJ7_copyOf_9075b_14 rfl 1 rfl ?_
  refine j_newb h (xr_5 7 rfl) (nI_pos (by omega)) (nI_clamp (by omega)) hq (by show 0 + 1 ≤ 1; omega) (by show 0 + q ≤ q; omega) dJ7_copyOf_9075b_15 (fun r => ?_)
  refine j_astore_n h (lv' := [(2, _), (0, _), (1, _)]) dJ7_copyOf_9075b_17 rfl (by decide) rfl ?_
  refine j_aload_n h dJ7_copyOf_9075b_18 rfl 1 rfl ?_
  refine j_iconst h (v := 0) dJ7_copyOf_9075b_19 (by decide) ?_
  refine j_aload_n h dJ7_copyOf_9075b_20 rfl 0 rfl ?_
  refine j_iconst h (v := 0) dJ7_copyOf_9075b_21 (by decide) ?_
  refine j_aload_n h dJ7_copyOf_9075b_22 rfl 1 rfl ?_
  refine j_alen h i 5 (w_l ha) rfl (v := nI m) rfl dJ7_copyOf_9075b_23 ?_
  refine j_iload_n h dJ7_copyOf_9075b_24 rfl 2 rfl ?_
  refine j_mmin h (xr_14 10 rfl) (xr_1 7 rfl) (xr_1 8 rfl) (xr_1 9 rfl) (Nat.le_of_ble_eq_true rfl) (Nat.le_of_ble_eq_true rfl) (by show 0 + 1 ≤ 1; omega) (by show 0 + q ≤ q; omega) dJ7_copyOf_9075b_25 ?_
  rw [show (if (nI q) < (nI m) then (nI q) else (nI m)) = nI m from (if_neg (nI_nlt (by omega) (by omega)))]
  refine j_copyb h (xr_14 11 rfl) (xr_14 12 rfl) (xr_14 13 rfl) (xr_14 14 rfl) i u.length (w_l ha) w_n (by decide) (by decide) (nI_pos (by omega)) (by rw [nI_clamp (by omega)]; show 0 + m ≤ m; omega) (by rw [nI_clamp (by omega)]; show 0 + m ≤ q; omega) (fun j _ => hf _) (Nat.le_of_ble_eq_true rfl) (Nat.le_of_ble_eq_true rfl) dJ7_copyOf_9075b_28 w_s ?_
  refine j_aload_n h dJ7_copyOf_9075b_31 rfl 0 rfl ?_
  rw [nI_clamp (by omega), sb_cl0]
  refine j_widen h (q := _) (by show 0 + 1 ≤ 1; omega) (by show 0 + q ≤ q; omega) ?_
  exact hR _ _ _ _ dJ7_copyOf_9075b_32 rfl

abbrev kE (q m : Nat) : Nat := if q ≤ m then 0 else 1
abbrev sE (q m : Nat) : Nat := if q ≤ m then 0 else sb_cap q m
theorem sub_le0 {q m : Nat} (h : q ≤ m) (hm : m ≤ 65536) : nI q - nI m ≤ 0 := by
  rw [Int32.le_iff_toInt_le, pk_sub_toInt (by omega) (by omega), Int32.toInt_zero]
  omega
abbrev rm_J5_ensureCapacityInternal_d00df (q m : Nat) : Room := { frames := 3, cells := kE q m, slots := sE q m, locals := 86 }
theorem c_J5_ensureCapacityInternal_d00df (l : Launch) (D : gD) (cy : Nat → ClassId) {S : Type} {Wd : S → va_W} {p q0 q1 : Nat} {put : sbV → S} (hB : SBL cy Wd p q0 q1 put) (ml n : Int32) (a : Nat) {m : Nat} {f : Nat → Int32} {q : Nat} (hm : m ≤ 32766) (hq : q ≤ 65536) (hf : sb_Fit f) : CtV l D cy Wd yJ5_ensureCapacityInternal_d00df cJ5_ensureCapacityInternal_d00df 3 none (rm_J5_ensureCapacityInternal_d00df q m) [.ref p, .int (nI q)] (put (ml, n, a, m, f)) (fun u' => ∃ (a1 : Nat) (f1 : Nat → Int32), u' = put (ml, n, a1, sb_cap q m, f1) ∧ (∀ j, j < m → f1 j = f j) ∧ sb_Fit f1) (kE q m) (sE q m) := by
  refine m_entW cJ5_ensureCapacityInternal_d00df 3 (by decide) (Nat.le_of_ble_eq_true rfl) (fun J h hR => ?_)
  show J (Wd (put (ml, n, a, m, f))) (0, 0) [(0, .ref p), (1, .int (nI q))] 0 []
  by_cases hc0 : q ≤ m
  · rw [kE, sE, if_pos hc0, if_pos hc0] at hR
    refine j_aload_n h dJ5_ensureCapacityInternal_d00df_0 rfl 0 rfl ?_
    refine j_get h inlJ4 q0 (hB.2.1 _) rfl 0 (by decide) (xr_5 8 rfl) rfl (v := .ref a) rfl dJ5_ensureCapacityInternal_d00df_1 ?_
    refine j_alen h q1 5 (hB.2.2.1 _) rfl (v := nI m) rfl dJ5_ensureCapacityInternal_d00df_4 ?_
    refine j_aload_n h dJ5_ensureCapacityInternal_d00df_5 rfl 0 rfl ?_
    refine j_get h inlJ4 q0 (hB.2.1 _) rfl 1 (by decide) (xr_5 9 rfl) rfl (v := .int 0) rfl dJ5_ensureCapacityInternal_d00df_6 ?_
    refine j_ishr h dJ5_ensureCapacityInternal_d00df_9 ?_
    rw [show ((nI m) >>> (0 &&& 31) : Int32) = nI m from (sb_shr0 _)]
    refine j_istore_n h (lv' := [(2, _), (0, _), (1, _)]) dJ5_ensureCapacityInternal_d00df_10 rfl (by decide) rfl ?_
    refine j_iload_n h dJ5_ensureCapacityInternal_d00df_11 rfl 2 rfl ?_
    refine j_iload_n h dJ5_ensureCapacityInternal_d00df_12 rfl 0 rfl ?_
    refine j_isub h dJ5_ensureCapacityInternal_d00df_13 ?_
    refine j_if_le h (tgt := 38) dJ5_ensureCapacityInternal_d00df_14 (by decide) (fun _ => ?_) (fun c => absurd (sub_le0 hc0 (by omega)) c)
    exact hR _ (put (ml, n, a, m, f)) _ _ dJ5_ensureCapacityInternal_d00df_38 ⟨a, f, by rw [sb_cap, if_pos hc0], fun _ _ => rfl, hf⟩ (fun _ z => z) (fun _ z => z)
  · rw [kE, sE, if_neg hc0, if_neg hc0] at hR
    have hcE := sb_capE hc0
    have hc1 : sb_cap q m ≤ 65536 := by rw [hcE]; split <;> omega
    have hc2 : m < sb_cap q m := Nat.lt_of_lt_of_le (by omega) (sb_cap_ge q m)
    have l0 : q0 < (Wd (put (ml, n, a, m, f))).length := (List.getElem?_eq_some_iff.mp (hB.2.1 _)).1
    have l1 : q1 < (Wd (put (ml, n, a, m, f))).length := (List.getElem?_eq_some_iff.mp (hB.2.2.1 _)).1
    refine j_aload_n h dJ5_ensureCapacityInternal_d00df_0 rfl 0 rfl ?_
    refine j_get h inlJ4 q0 (hB.2.1 _) rfl 0 (by decide) (xr_5 8 rfl) rfl (v := .ref a) rfl dJ5_ensureCapacityInternal_d00df_1 ?_
    refine j_alen h q1 5 (hB.2.2.1 _) rfl (v := nI m) rfl dJ5_ensureCapacityInternal_d00df_4 ?_
    refine j_aload_n h dJ5_ensureCapacityInternal_d00df_5 rfl 0 rfl ?_
    refine j_get h inlJ4 q0 (hB.2.1 _) rfl 1 (by decide) (xr_5 9 rfl) rfl (v := .int 0) rfl dJ5_ensureCapacityInternal_d00df_6 ?_
    refine j_ishr h dJ5_ensureCapacityInternal_d00df_9 ?_
    rw [show ((nI m) >>> (0 &&& 31) : Int32) = nI m from (sb_shr0 _)]
    refine j_istore_n h (lv' := [(2, _), (0, _), (1, _)]) dJ5_ensureCapacityInternal_d00df_10 rfl (by decide) rfl ?_
    refine j_iload_n h dJ5_ensureCapacityInternal_d00df_11 rfl 2 rfl ?_
    refine j_iload_n h dJ5_ensureCapacityInternal_d00df_12 rfl 0 rfl ?_
    refine j_isub h dJ5_ensureCapacityInternal_d00df_13 ?_
    rw [show ((nI q) - (nI m) : Int32) = nI (q - m) from (pk_sub (by omega))]
    refine j_if_le h (tgt := 38) dJ5_ensureCapacityInternal_d00df_14 (by decide) (fun c => absurd c (nI_nle (n := q - m) (by omega) (by omega))) (fun _ => ?_)
    refine j_aload_n h dJ5_ensureCapacityInternal_d00df_17 rfl 1 rfl ?_
    refine j_aload_n h dJ5_ensureCapacityInternal_d00df_18 rfl 1 rfl ?_
    refine j_get h inlJ4 q0 (hB.2.1 _) rfl 0 (by decide) (xr_5 8 rfl) rfl (v := .ref a) rfl dJ5_ensureCapacityInternal_d00df_19 ?_
    refine j_aload_n h dJ5_ensureCapacityInternal_d00df_22 rfl 1 rfl ?_
    refine j_iload_n h dJ5_ensureCapacityInternal_d00df_23 rfl 2 rfl ?_
    refine j_prvI h (n := 1) (c_J5_newCapacity_0f7a4 l D cy hB.raw ml n a f hc0 hm hq) (xg_U (xr_13 9 rfl) (xr_13 10 rfl) (xr_13 11 rfl) (xr_13 12 rfl) (xr_5 3 rfl) (xr_13 13 rfl)) rfl rfl (by decide +kernel) ⟨Nat.le_of_ble_eq_true rfl, Nat.le_of_ble_eq_true rfl⟩ q0 (hB.2.1 _) rfl rfl rfl rfl (Nat.le_of_ble_eq_true rfl) dJ5_ensureCapacityInternal_d00df_24 ⟨Nat.zero_le _, Nat.zero_le _⟩ (fun r u' hq => ?_)
    obtain ⟨rfl, rfl⟩ := hq
    refine j_aload_n h dJ5_ensureCapacityInternal_d00df_27 rfl 1 rfl ?_
    refine j_get h inlJ4 q0 (hB.2.1 _) rfl 1 (by decide) (xr_5 9 rfl) rfl (v := .int 0) rfl dJ5_ensureCapacityInternal_d00df_28 ?_
    refine j_ishl h dJ5_ensureCapacityInternal_d00df_31 ?_
    rw [show ((nI (sb_cap q m)) <<< (0 &&& 31) : Int32) = nI (sb_cap q m) from (sb_shl0 _)]
    refine j_callSA h (n := 2) (c_J7_copyOf_9075b l D cy (Wd (put (ml, n, a, m, f))) (i := q1) (a := a) (m := m) (f := f) (hB.2.2.1 _) hc2 hc1 hf) (xg_S (xr_14 0 rfl) (xr_14 1 rfl) (xr_14 2 rfl) (xr_14 3 rfl)) rfl rfl (by decide +kernel) ⟨Nat.le_of_ble_eq_true rfl, Nat.le_of_ble_eq_true rfl⟩ rfl rfl (Nat.le_of_ble_eq_true rfl) dJ5_ensureCapacityInternal_d00df_32 ⟨by show 0 + 0 + 1 ≤ kE q m; rw [kE, if_neg hc0]; omega, by show 0 + 0 + sb_cap q m ≤ sE q m; rw [sE, if_neg hc0]; omega⟩ (fun r u' hq => ?_)
    subst hq
    refine j_put h inlJ4 tyJ4 tyJ4_ok nmJ4 q0 (w_l (hB.2.1 _)) rfl 0 (by decide) (xr_5 8 rfl) rfl rfl (v := .ref r) rfl rfl (Nat.le_of_ble_eq_true rfl) dJ5_ensureCapacityInternal_d00df_35 rfl ?_
    refine j_widen h (k := 1) (n := sb_cap q m) (by show 0 + 0 + 1 ≤ 1; omega) (by show 0 + 0 + sb_cap q m ≤ sb_cap q m; omega) ?_
    refine hR _ (put (ml, n, r, sb_cap q m, va_cpy f (fun _ => 0) 0 0 m)) _ _ dJ5_ensureCapacityInternal_d00df_38 ⟨r, _, rfl, fun j hj => sb_cpy0 hj, sb_fitC hf sb_fit0⟩ (fun H z => ?_) (fun A z => ?_)
    · rw [← hB.2.2.2 (ml, n, a, m, f) (ml, n, r, sb_cap q m, va_cpy f (fun _ => 0) 0 0 m)]; exact grow_P l0 l1 H z
    · rw [← hB.2.2.2 (ml, n, a, m, f) (ml, n, r, sb_cap q m, va_cpy f (fun _ => 0) 0 0 m)]; exact grow_D l0 l1 z

