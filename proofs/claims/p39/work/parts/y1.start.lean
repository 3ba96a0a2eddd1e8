/-! ===== the law's start ===== -/
abbrev lw_fl : List Cond := flatC (Jvm.Cond.and given_1 narrow_1)
def tmS (i : Nat) : Term := .string (nS.getD i ("", 0, "")).1 (nS.getD i ("", 0, "")).2.1
def exI : List Nat := [251, 258, 271, 278, 286, 294, 305, 318, 333, 347, 361, 377, 393, 411, 429, 448, 472]
theorem fl_6 : ∀ i, i < 17 → lenS.getD i 0 < 2 ^ 31 := by decide
theorem fl_mem {i : Nat} {w : Cond} (h : lw_fl[i]? = some w) : w ∈ lw_fl := List.mem_of_getElem? h
set_option maxRecDepth 100000 in
theorem fl_1 : ∀ j, j < 100 → lw_fl[12 + j]? = some (Cond.eq (.elem (.static "java/lang/Integer" "DigitOnes" "[B") (.int (Int32.ofNat j))) (.int (nI (48 + j % 10)))) := by decide +kernel
set_option maxRecDepth 100000 in
theorem fl_2 : ∀ j, j < 100 → lw_fl[115 + j]? = some (Cond.eq (.elem (.static "java/lang/Integer" "DigitTens" "[B") (.int (Int32.ofNat j))) (.int (nI (48 + j / 10)))) := by decide +kernel
set_option maxRecDepth 100000 in
theorem fl_3 : ∀ i, i < 17 → lw_fl[exI.getD i 0]? = some (Cond.exactly (tmS i) "java/lang/String") ∧ lw_fl[exI.getD i 0 + 1]? = some (Cond.eq (.field (tmS i) "java/lang/String" "coder" "B") (.int 0)) ∧ lw_fl[exI.getD i 0 + 2]? = some (Cond.arrayOf (.field (tmS i) "java/lang/String" "value" "[B") .byte) ∧ lw_fl[exI.getD i 0 + 3]? = some (Cond.eq (.length (.field (tmS i) "java/lang/String" "value" "[B")) (.int (Int32.ofNat (lenS.getD i 0)))) := by decide +kernel
set_option maxRecDepth 100000 in
theorem fl_4 : ∀ i, i < 17 → ∀ j, j < lenS.getD i 0 → lw_fl[exI.getD i 0 + 4 + j]? = some (Cond.eq (.elem (.field (tmS i) "java/lang/String" "value" "[B") (.int (Int32.ofNat j))) (.int ((bytS.getD i []).getD j 0))) := by decide +kernel
theorem aC_of {args : Array Value} {s : State} {ty : FieldType} (hty : ∀ C, ty ≠ .object C) (h : (Cond.arrayClass ty).before args s = true) : ∃ c, ArrOfT s c ty ∧ va_RA s c ty := by
  obtain ⟨c, k, comp, h1, h2, h3⟩ := Cond.arrayClass_spec h
  refine ⟨c, fun n z => ⟨fun k h => (by cases h), k, h2, comp, h3⟩, ?_⟩
  cases ty with
  | object C => exact absurd rfl (hty C)
  | _ => exact h1
theorem aO_of {args : Array Value} {s : State} {C : String} (h : (Cond.arrayOver (.object C)).before args s = true) : ∃ c, ArrOfT s c (.object C) ∧ va_RA s c (.object C) := by
  obtain ⟨comp, c, k, h1, h2, h3, h4, h5⟩ := Cond.arrayOver_spec h
  exact ⟨c, fun n z => ⟨fun k h => (by cases h), k, h3, comp, h4⟩, k, comp, h3, h4, h1, h5⟩
section ST
variable {s : State} {b : Nat}
theorem st_cls (hts : ∀ w ∈ wsL_law, w.before #[Value.ref b] s = true) : ∃ (dC : Nat → ClassId) (dI : Nat → Nat → Nat), ∀ (k : Nat) (q : vw_C), vwCl[k]? = some q → u_Kn s q.1 q.2.1 q.2.2 (dC k) (dI k) := by
  obtain ⟨c0, i0, k0⟩ := u_known (C := RJ4) (T := TJ4) (N := 4) (n := 4) hts inlJ4 (hts _ (xr_2 3 rfl))
  obtain ⟨c1, i1, k1⟩ := u_known (C := RX0) (T := TX0) (N := 4) (n := 4) hts inlX0 (hts _ (xr_3 6 rfl))
  obtain ⟨c2, i2, k2⟩ := u_known (C := RX1) (T := TX1) (N := 11) (n := 11) hts inlX1 (hts _ (xr_1 17 rfl))
  obtain ⟨c3, i3, k3⟩ := u_known (C := RX2) (T := TX2) (N := 4) (n := 4) hts inlX2 (hts _ (xr_2 7 rfl))
  obtain ⟨c4, i4, k4⟩ := u_known (C := RX3) (T := TX3) (N := 3) (n := 3) hts inlX3 (hts _ (xr_1 23 rfl))
  obtain ⟨c5, i5, k5⟩ := u_known (C := RX4) (T := TX4) (N := 3) (n := 3) hts inlX4 (hts _ (xr_2 12 rfl))
  obtain ⟨c6, i6, k6⟩ := u_known (C := RX5) (T := TX5) (N := 9) (n := 9) hts inlX5 (hts _ (xr_2 22 rfl))
  obtain ⟨c7, i7, k7⟩ := u_known (C := RX6) (T := TX6) (N := 8) (n := 8) hts inlX6 (hts _ (xr_3 2 rfl))
  obtain ⟨c8, i8, k8⟩ := u_known (C := RX7) (T := TX7) (N := 9) (n := 9) hts inlX7 (hts _ (xr_1 1 rfl))
  obtain ⟨c9, i9, k9⟩ := u_known (C := RJ0) (T := TJ0) (N := 4) (n := 4) hts inlJ0 (hts _ (xr_42 11 rfl))
  have key : ∀ k : Nat, ∃ (cC : ClassId) (iS : Nat → Nat), ∀ q : vw_C, vwCl[k]? = some q → u_Kn s q.1 q.2.1 q.2.2 cC iS := by
    intro k
    match k with
    | 0 => exact ⟨c0, i0, fun q hq => by cases hq; exact k0⟩
    | 1 => exact ⟨c1, i1, fun q hq => by cases hq; exact k1⟩
    | 2 => exact ⟨c2, i2, fun q hq => by cases hq; exact k2⟩
    | 3 => exact ⟨c3, i3, fun q hq => by cases hq; exact k3⟩
    | 4 => exact ⟨c4, i4, fun q hq => by cases hq; exact k4⟩
    | 5 => exact ⟨c5, i5, fun q hq => by cases hq; exact k5⟩
    | 6 => exact ⟨c6, i6, fun q hq => by cases hq; exact k6⟩
    | 7 => exact ⟨c7, i7, fun q hq => by cases hq; exact k7⟩
    | 8 => exact ⟨c8, i8, fun q hq => by cases hq; exact k8⟩
    | 9 => exact ⟨c9, i9, fun q hq => by cases hq; exact k9⟩
    | k + 10 => exact ⟨c0, i0, fun q hq => by simp [vwCl] at hq⟩
  exact ⟨fun k => (key k).choose, fun k => (key k).choose_spec.choose, fun k q hq => (key k).choose_spec.choose_spec q hq⟩
theorem st_arr (hts : ∀ w ∈ lw_tbl, w.before #[Value.ref b] s = true) : ∃ cy : Nat → ClassId, ∀ (k : Nat) (q : ClassId × FieldType), (tyC cy)[k]? = some q → ArrOfT s q.1 q.2 ∧ va_RA s q.1 q.2 := by
  obtain ⟨c0, h0⟩ := aC_of (ty := .int) (fun _ h => by cases h) (hts (.arrayClass .int) (by decide +kernel))
  obtain ⟨c1, h1⟩ := aO_of (hts (.arrayOver (.object "BowlsGreen$Rink")) (by decide +kernel))
  obtain ⟨c2, h2⟩ := aO_of (hts (.arrayOver (.object "BowlsGreen$Wood")) (by decide +kernel))
  obtain ⟨c3, h3⟩ := aO_of (hts (.arrayOver (.object "BowlsGreen$Club")) (by decide +kernel))
  obtain ⟨c4, h4⟩ := aO_of (hts (.arrayOver (.object "BowlsGreen$Green")) (by decide +kernel))
  obtain ⟨c5, h5⟩ := aC_of (ty := .byte) (fun _ h => by cases h) (hts (.arrayClass .byte) (by decide +kernel))
  obtain ⟨c6, h6⟩ := aC_of (ty := .long) (fun _ h => by cases h) (hts (.arrayClass .long) (by decide +kernel))
  refine ⟨fun i => [c0, c1, c2, c3, c4, c5, c6].getD i c0, fun k q hk => ?_⟩
  match k, hk with
  | 0, hk => cases hk; exact h0
  | 1, hk => cases hk; exact h1
  | 2, hk => cases hk; exact h2
  | 3, hk => cases hk; exact h3
  | 4, hk => cases hk; exact h4
  | 5, hk => cases hk; exact h5
  | 6, hk => cases hk; exact h6
  | k + 7, hk => simp [tyC] at hk
theorem st_ao (hts : ∀ w ∈ lw_tbl, w.before #[Value.ref b] s = true) : xAO s :=
  ⟨va_AO.of (hts (.arrayOver (.object "BowlsGreen$Rink")) (by decide +kernel)), va_AO.of (hts (.arrayOver (.object "BowlsGreen$Wood")) (by decide +kernel)), va_AO.of (hts (.arrayOver (.object "BowlsGreen$Club")) (by decide +kernel)), va_AO.of (hts (.arrayOver (.object "BowlsGreen$Green")) (by decide +kernel)), va_Nw.of rfl (hts (.methodLinkNest "BowlsGreen$Green" 24 yX6_init "BowlsGreen") (by decide +kernel)), va_Nw.of rfl (hts (.methodLinkNest "BowlsGreen$Green" 31 yX0_init "BowlsGreen") (by decide +kernel))⟩
theorem st_xz {A : Nat → Prop} (dD : va_G) (hts : ∀ w ∈ lw_tbl, w.before #[Value.ref b] s = true) (hF : ∀ w ∈ lw_fl, w.before #[Value.ref b] s = true) (hA : ∀ a : Nat, a < s.heap.size → ¬ A a) {Ls : Nat} {xs : Nat → Int32} (hX : va_X b Ls xs s s.heap) (hbl : b < s.heap.size) : ∃ (e1 e2 : Nat → Nat), xZ (dD, e1, e2, b, Ls, xs) A s s.heap := by
  obtain ⟨t1, ht1, hT1⟩ := va_Tof (N := 100) (ty := .byte) (tm := .static "java/lang/Integer" "DigitOnes" "[B") (f := fun j => .int (nI (48 + j % 10))) (A := A) (by decide) (hF _ (by decide +kernel)) (va_eqt (hF _ (by decide +kernel))) (fun j hj => va_eqt (hF _ (fl_mem (fl_1 j hj)))) hA
  obtain ⟨t2, ht2, hT2⟩ := va_Tof (N := 100) (ty := .byte) (tm := .static "java/lang/Integer" "DigitTens" "[B") (f := fun j => .int (nI (48 + j / 10))) (A := A) (by decide) (hF _ (by decide +kernel)) (va_eqt (hF _ (by decide +kernel))) (fun j hj => va_eqt (hF _ (fl_mem (fl_2 j hj)))) hA
  have z : ∀ i' : Nat, i' < 1 → i' = 0 := fun i' h => by omega
  have key : ∀ i : Nat, ∃ q : Nat × Nat, i < 17 → (tmS i).eval #[Value.ref b] s none [] s = some (.ref q.1) ∧ vk_S 1 [lenS.getD i 0] [bytS.getD i []] (fun _ => q.1) (fun _ => q.2) A s s.heap := by
    intro i
    by_cases hi : i < 17
    · obtain ⟨h1, h2, h3, h4⟩ := fl_3 i hi
      obtain ⟨aK, aV, hS, hev⟩ := vk_Sof (args := #[Value.ref b]) (N := 1) (tm := fun _ => tmS i) (len := [lenS.getD i 0]) (byt := [bytS.getD i []]) (A := A) (fun i' hi' => by cases z i' hi'; exact fl_6 i hi) (fun _ _ => hF _ (fl_mem h1)) (fun _ _ => hF _ (fl_mem h2)) (fun _ _ => hF _ (fl_mem h3)) (fun i' hi' => by cases z i' hi'; exact hF _ (fl_mem h4)) (fun i' hi' j hj => by cases z i' hi'; exact hF _ (fl_mem (fl_4 i hi j hj))) (fun i' j' hi' hj' ne => by omega) hA
      exact ⟨(aK 0, aV 0), fun _ => ⟨hev 0 Nat.zero_lt_one, fun i' hi' => by cases z i' hi'; exact hS.1 0 Nat.zero_lt_one, fun i' j' hi' hj' _ => by omega⟩⟩
    · exact ⟨(0, 0), fun h => absurd h hi⟩
  obtain ⟨ad, had⟩ := Classical.axiomOfChoice key
  refine ⟨fun i => (ad i).1, fun i => (ad i).2, va_Zof (hts (.laysStatic "java/lang/String" "COMPACT_STRINGS" "Z") (by decide +kernel)) (hts (.initialized "java/lang/String") (by decide +kernel)) (va_eqt (hF _ (by decide +kernel))) hA, va_Zqof (hts (.laysStatic "jdk/internal/util/Preconditions" "SIOOBE_FORMATTER" "Ljava/util/function/BiFunction;") (by decide +kernel)) (hts (.initialized "jdk/internal/util/Preconditions") (by decide +kernel)) (hF _ (by decide +kernel)) hA, ⟨t1, va_Zof (hts (.laysStatic "java/lang/Integer" "DigitOnes" "[B") (by decide +kernel)) (hts (.initialized "java/lang/Integer") (by decide +kernel)) ht1 hA, hT1⟩, ⟨t2, va_Zof (hts (.laysStatic "java/lang/Integer" "DigitTens" "[B") (by decide +kernel)) (hts (.initialized "java/lang/Integer") (by decide +kernel)) ht2 hA, hT2⟩, fun i hi => (had i hi).2, fun i x hx => ?_, hX, hA b hbl⟩
  match i, hx with
  | 0, hx => cases hx; exact vk_R.of (A := #[Value.ref b]) (hts (.stringRef "BowlsGreen$Orders" 62 "d:n") (by decide +kernel)) (had 0 (by decide)).1
  | 1, hx => cases hx; exact vk_R.of (A := #[Value.ref b]) (hts (.stringRef "BowlsGreen$Orders" 64 "d,n@n*n+") (by decide +kernel)) (had 1 (by decide)).1
  | 2, hx => cases hx; exact vk_R.of (A := #[Value.ref b]) (hts (.stringRef "BowlsGreen$Orders" 66 "d") (by decide +kernel)) (had 2 (by decide)).1
  | 3, hx => cases hx; exact vk_R.of (A := #[Value.ref b]) (hts (.stringRef "BowlsGreen$Orders" 68 "n") (by decide +kernel)) (had 3 (by decide)).1
  | 4, hx => cases hx; exact vk_R.of (A := #[Value.ref b]) (hts (.stringRef "BowlsGreen$Orders" 70 "") (by decide +kernel)) (had 4 (by decide)).1
  | 5, hx => cases hx; exact vk_R.of (A := #[Value.ref b]) (hts (.stringRef "BowlsGreen" 375 ": ") (by decide +kernel)) (had 5 (by decide)).1
  | 6, hx => cases hx; exact vk_R.of (A := #[Value.ref b]) (hts (.stringRef "BowlsGreen" 380 "dry") (by decide +kernel)) (had 6 (by decide)).1
  | 7, hx => cases hx; exact vk_R.of (A := #[Value.ref b]) (hts (.stringRef "BowlsGreen" 382 "wet ") (by decide +kernel)) (had 7 (by decide)).1
  | 8, hx => cases hx; exact vk_R.of (A := #[Value.ref b]) (hts (.stringRef "BowlsGreen" 384 " j") (by decide +kernel)) (had 8 (by decide)).1
  | 9, hx => cases hx; exact vk_R.of (A := #[Value.ref b]) (hts (.stringRef "BowlsGreenLaw" 146 "r") (by decide +kernel)) (had 9 (by decide)).1
  | 10, hx => cases hx; exact vk_R.of (A := #[Value.ref b]) (hts (.stringRef "BowlsGreenLaw" 154 ";h") (by decide +kernel)) (had 10 (by decide)).1
  | 11, hx => cases hx; exact vk_R.of (A := #[Value.ref b]) (hts (.stringRef "BowlsGreenLaw" 160 "c") (by decide +kernel)) (had 11 (by decide)).1
  | 12, hx => cases hx; exact vk_R.of (A := #[Value.ref b]) (hts (.stringRef "BowlsGreenLaw" 162 ";e") (by decide +kernel)) (had 12 (by decide)).1
  | 13, hx => cases hx; exact vk_R.of (A := #[Value.ref b]) (hts (.stringRef "BowlsGreenLaw" 164 ":") (by decide +kernel)) (had 13 (by decide)).1
  | 14, hx => cases hx; exact vk_R.of (A := #[Value.ref b]) (hts (.stringRef "BowlsGreenLaw" 174 "z") (by decide +kernel)) (had 14 (by decide)).1
  | 15, hx => cases hx; exact vk_R.of (A := #[Value.ref b]) (hts (.stringRef "BowlsGreenLaw" 179 "r1;h0") (by decide +kernel)) (had 15 (by decide)).1
  | 16, hx => cases hx; exact vk_R.of (A := #[Value.ref b]) (hts (.stringRef "BowlsGreenLaw" 196 "3-5: wet 2 j20") (by decide +kernel)) (had 16 (by decide)).1
  | i + 17, hx => simp [nS] at hx
end ST
/-! THE CLAIM OUT OF ONE WALK OF THE LAW'S BODY. Your part is whole_start (and what it stands on); all else here is the same for every law, but numbers. -/
def R_law : String := "BowlsGreenLaw"
def lw_P (b : Addr) (xs : List Int32) (args : Array Value) (s : State) : Prop := args = #[.ref b] ∧ s.IntsAt b xs ∧ xs.length ≤ 260 ∧ (Jvm.Cond.and given_1 narrow_1).before args s = true
/-- what a walk over the start with the record d0 says of its end, said of the start itself -/
theorem lw_closed {s t : State} {o : Outcome} {d0 : Drawn} {L : List Loc} {k n : Nat} (hd0 : s.drawn.sameBut d0 lw_cs) (hv : ∃ v, o = .returned v) (hW : (s.setDrawn d0).WarmedH t.vm) (hs : (s.setDrawn d0).sameButNew ({ t with vm := s.vm } : State) L k n) : State.butDraws s t lw_cs (fun t1 => Framed s o t1 L k n) := by
  have h2 : t.drawn = d0 := congrArg State.drawn hs.1
  refine ⟨⟨hv, hW, State.sameButNew.setDrawn hs s.drawn⟩, ?_, by decide⟩
  rw [h2]
  exact hd0
def lw_Q (_ : Array Value) (s : State) (o : Outcome) (t : State) : Prop := o = .returned (some (.int 1)) ∧ State.butDraws s t lw_cs (fun t1 => Framed s o t1 [] 659866 7122651)
def lw_Z (below : List Frame) (a : Array Value) (s : State) : State → Prop := fun t => ∃ o, t.status = .running ∧ Ended t below o ∧ lw_Q a s o t
/-- the law's own end, with 1 on the stack, nothing written that was there before, its room as the claim has it; d0: the record of draws at this point (at the entry s.drawn: begin with 'refine W.base ?_' and 'have hd0 := Drawn.sameBut.refl s.drawn lw_cs') -/
theorem lw_ret {p : Program} {l : Launch} {e : Env} {s : State} {m : MethodId} {below : List Frame} {meth : Method} {c : Code} {b : Nat} {d0 : Drawn} (hd0 : s.drawn.sameBut d0 lw_cs) (hx : p.tables.exec = Jvm.exec) (hb : c.code = code) (hr : meth.sig.returnType = ret) (hlocks : meth.locks = false) {pc : Nat} {H : Heap} {ls : Array Slot} (hdg : decode code pc = .ok (.ireturn, 1)) : W p l e room_1 (s.setDrawn d0) m #[Value.ref b] below meth c H [] 659866 7122651 (lw_Z below #[Value.ref b] s) (F0 m pc ls [.int 1]) := by
  intro T hT X
  obtain ⟨fs, hret, hrun, hended, hW, hframe⟩ := X.leave (v := some (.int 1)) (hlocks := hlocks) (fun h => by rw [hr] at h; cases h)
  have hmeth' : T.vm.method? m = some meth := X.method'
  refine ⟨T.setFrames fs, ?_, .returned (some (.int 1)), hrun, hended, rfl, lw_closed hd0 ⟨_, rfl⟩ hW hframe⟩
  jvm_step X.here [X.here.top, hx, hb, hdg, hmeth', hr, ret, narrow_b1]
  (try refine ⟨rfl, ?_⟩); (try refine ⟨rfl, ?_⟩)
  first | (intro acts; rw [hret _ acts rfl rfl rfl]) | rw [hret _ _ rfl rfl rfl]
  exact Steps.refl _
/-- what holds at the law's entry: the machine, the code, the tables' words (any of lw_tbl by 'hts w (by decide +kernel)'), the script of L ints xs at the cell b, what the Statement gives of the start (any of its parts by flat_of_before) -/
def lw_At (p : Program) (s : State) (m : MethodId) (meth : Method) (c : Code) (b L : Nat) (xs : Nat → Int32) : Prop :=
  p.tables.exec = Jvm.exec ∧ c.code = code ∧ meth.sig.returnType = ret ∧ c.maxLocals = 11 ∧ s.vm.findClass R_law = some m.cls ∧ (∀ w ∈ lw_tbl, w.before #[Value.ref b] s = true) ∧ va_X b L xs s s.heap ∧ b < s.heap.size ∧ meth.locks = false ∧ (Jvm.Cond.and given_1 narrow_1).before #[Value.ref b] s = true
set_option maxRecDepth 100000 in
set_option maxHeartbeats 4000000 in
theorem whole_start {p : Program} {e : Env} {s : State} {m : MethodId} {below : List Frame} {meth : Method} {c : Code} (l : Launch) {b L : Nat} {xs : Nat → Int32} (hL : L ≤ 260) (hnm : meth.name = yL_law.name) (C0 : lw_At p s m meth c b L xs) : W p l e room_1 s m #[Value.ref b] below meth c s.heap [] 0 0 (lw_Z below #[Value.ref b] s) (entryFrame m ([Value.ref b] : List Value).toArray 11) := by
  obtain ⟨hx, hb, hr, hml, hown, hts, hX, hbl, hlocks, hgv⟩ := id C0
  have hF := flat_of_before _ hgv
  have hts' : ∀ w ∈ wsL_law, w.before #[Value.ref b] s = true := fun w hw => hts w (wsL_law_in w hw)
  obtain ⟨dC, dI, hKc⟩ := st_cls hts'
  obtain ⟨cy, hKa⟩ := st_arr hts
  obtain ⟨e1, e2, hZ⟩ := st_xz (A := fun q : Nat => s.heap.size ≤ q) (dC, dI) hts hF (fun a h => Nat.not_le.mpr h) hX hbl
  have hK : va_K (dC, dI) vwCl (tyC cy) s := ⟨hKc, hKa⟩
  have hP : va_P (dC, dI) vwCl [] s.heap := fun k q h => by simp at h
  have hD : va_D (fun q : Nat => s.heap.size ≤ q) [] := ⟨fun i j p q h => by simp at h, fun k q h => by simp at h⟩
  have hl := lv_entry ([.ref b]) (n := 11) (Nat.le_of_ble_eq_true rfl)
  rw [lg_entry_eq]
  generalize (lg_sl ([.ref b]) ++ List.replicate (11 - (lg_sl ([.ref b])).length) Slot.unset).toArray = ls at hl ⊢
  have hl : lv_has ls 11 [(0, .ref b)] := hl
  have K := lw_from0 (l := l) (D := ((dC, dI), e1, e2, b, L, xs)) (cy := cy)
    (J := fun (u : va_W) (k : Nat × Nat) (lv : List (Nat × Value)) (pc : Nat) (st : List Value) => ∀ (H : Heap) (locs : List Loc) (ls : Array Slot), va_P (dC, dI) vwCl (wI u) H → va_D (fun q : Nat => s.heap.size ≤ q) (wI u) → va_S (fun q : Nat => s.heap.size ≤ q) s.heap H locs → lv_has ls 11 lv → W p l e room_1 s m #[Value.ref b] below meth c H locs k.1 k.2 (lw_Z below #[Value.ref b] s) (F0 m pc ls st))
    ⟨p, e, s, m, #[Value.ref b], below, meth, c, fun q : Nat => s.heap.size ≤ q, s.heap, lw_Z below #[Value.ref b] s, ⟨⟨hx, hb, hml, hown, hts'⟩, hK, fun q h => h, hnm, rfl, hZ, rfl⟩, st_ao hts⟩ hL
    (fun u q lv h1 h2 H locs ls hP hD hS hl => va_forget hS.2.2 (W.widen h1 h2 (W.base (lw_ret (Drawn.sameBut.refl s.drawn lw_cs) hx hb hr hlocks dL_law_1244))))
  exact K s.heap [] ls hP hD va_S.rf hl
set_option maxHeartbeats 4000000 in
theorem lw_walk (l : Launch) (hflags : l.flags = flags0) (b : Addr) (xs : List Int32) : MetFree l x (headSpec (Jvm.Cond.code x code maxLocals ret :: tables_1) room_1) (lw_P b xs) (fun _ _ _ _ _ => True) lw_Q := by
  refine MetFree.of_bodyS (code := code) (maxLocals := maxLocals) (ret := ret) (by decide) ?_ ?_
  · intro args s m h hn
    obtain ⟨meth, c, h1, h2, h3, h4, h5, h6, -, -⟩ := Cond.code_spec hn (atoms_spec (ws := Jvm.Cond.code x code maxLocals ret :: tables_1) h _ List.mem_cons_self)
    exact ⟨meth, c, h1, h2, h3, h4, h5, h6⟩
  · intro p e s m args below meth c s₁ B hml0 hP _
    obtain ⟨rfl, hx, hbd, hgv⟩ := hP
    obtain ⟨scr, harrAt, hlist, hof, hsmall⟩ := hx
    obtain ⟨hcb, hkn, -, -⟩ := State.arrayAt?_spec harrAt
    have hown : s.vm.findClass R_law = some m.cls := findClass_of_methodNamed B.named
    have hts0 : ∀ c ∈ (Jvm.Cond.code x code maxLocals ret :: tables_1), c.before #[Value.ref b] s = true := atoms_spec (ws := Jvm.Cond.code x code maxLocals ret :: tables_1) B.pre
    have hts : ∀ w ∈ lw_tbl, w.before #[Value.ref b] s = true := lw_hts (fun w hw => hts0 w (List.mem_cons_of_mem _ hw))
    have hml : c.maxLocals = 11 := B.maxLocals_eq (hts0 _ List.mem_cons_self)
    have X₀ : Stand p l e room_1 s m #[Value.ref b] below meth c s₁ [] 0 0 := Stand.of_body B
    have hh0 : s₁.heap = s.heap := by rw [B.state]; rfl
    have hsz : scr.slots.size = xs.length := by rw [← Array.length_toList, hlist, List.length_map]
    have hval : ∀ j : Nat, j < xs.length → scr.slots[j]? = some (.int (xs.getD j 0)) := fun j hj => by
      rw [← Array.getElem?_toList, hlist]
      simp [hj]
    have hbl : b < s.heap.size := (Array.getElem?_eq_some_iff.mp hcb).1
    have hX : va_X b xs.length (fun j => xs.getD j 0) s s.heap := ⟨scr, hcb, hof, hkn, hsz, hval⟩
    have K : W p l e room_1 s m #[Value.ref b] below meth c s₁.heap [] 0 0 (lw_Z below #[Value.ref b] s) (entryFrame m ([Value.ref b] : List Value).toArray 11) := by
      rw [hh0]
      exact whole_start l hbd (name_of_methodNamed B.named B.method).1 ⟨B.exec, B.bytes, B.returns, hml, hown, hts, hX, hbl, B.notSynchronized, hgv⟩
    obtain ⟨t, a1, o, b1, b2, b3⟩ := K s₁ rfl X₀
    exact ⟨t, o, a1, b1, b2, b3⟩
theorem lw_pre_spec {args : Array Value} {s : State} (h : (Jvm.Cond.and given_1 narrow_1).before args s = true) (hr : rest_1_c.before args s = true) : ∃ (b : Addr) (xs : List Int32), lw_P b xs args s := by
  have hs := flat_of_before _ h
  have hq := flat_of_before _ hr
  have hc : (Cond.count 1).before args s = true := hs _ (by decide +kernel)
  have harr : (Cond.arrayOf (.arg 0) .int).before args s = true := hs _ (by decide +kernel)
  have hle : (Cond.le (.length (.arg 0)) (.int 260)).before args s = true := hs _ (by decide +kernel)
  have hlen : (Cond.isInt (.length (.arg 0))).before args s = true := hq _ (by decide +kernel)
  have hall : (Cond.all (.arg 0) (.isInt (.elem (.arg 0) (.index 0)))).before args s = true := hq _ (by decide +kernel)
  obtain ⟨b, xs, hb, hx⟩ := State.ints_of_pre rfl harr hlen hall
  have hsm : xs.length < 2 ^ 31 := hx.choose_spec.2.2.2
  have hev : (Term.length (.arg 0)).eval args s none [] s = some (.int xs.length.toInt32) := hx.length_eval hb
  have hv := Cond.le_ints hev (show (Term.int 260).eval args s none [] s = some (.int 260) from rfl)
  have hd : xs.length.toInt32 ≤ 260 := by
    simpa [Cond.before, Cond.holds, hv] using hle
  have hN : xs.length ≤ 260 := (Int32.ofNat_le_ofNat hsm (by decide)).mp (show Int32.ofNat xs.length ≤ Int32.ofNat 260 from hd)
  exact ⟨b, xs, Cond.one_arg hc (show args[0]? = some (.ref b) from hb), hx, hN, h⟩
theorem lw_comes (l : Launch) (hflags : l.flags = flags0) : Comes l x (Jvm.Cond.code x code maxLocals ret :: tables_1) room_1 (fun tb e args s => Calls_1 tb e args s ∧ rest_1 tb e args s ∧ Pre_1 tb e args s)
    (fun _ _ args s o t => lw_Q args s o t) := by
  intro p e ha hc hk s m args below hf hfit hheap happ hpre
  obtain ⟨b, xs, hP⟩ := lw_pre_spec hpre.2.2 hpre.2.1
  obtain ⟨k, o, h1, h2, h3, hQ⟩ := lw_walk l hflags b xs p e ha hc hk s m args below hf ((Spec.applies_iff_loose hf).mp happ).1 hP trivial
  exact ⟨k, o, h1, h2, h3, hQ⟩
theorem lw_frame {s t : State} {o : Outcome} {args : Array Value} (h : State.butDraws s t lw_cs (fun t1 => Framed s o t1 [] 659866 7122651)) :
    State.butDraws s t [Jvm.Choice.named "NaN.bits"] (fun t1 => Framed s o t1 (fieldLocs frame_1_writes args s ++ arrayLocs frame_1_arrays args s ++ staticLocs frame_1_statics s) 659866 7122651) := h
theorem lw_limb (L : Cond) (hL : ∀ (args : Array Value) (s t : State), L.after args s (.returned (some (.int 1))) t = true) :
    ArmFor flags0 classFile x code maxLocals ret World_1 tables_1 room_1 Calls_1 rest_1 Pre_1
      (fun tb e a s o t => postC L tb e a s o t ∧ State.butDraws s t [Jvm.Choice.named "NaN.bits"] (fun t1 => Framed s o t1 (fieldLocs frame_1_writes a s ++ arrayLocs frame_1_arrays a s ++ staticLocs frame_1_statics s) 659866 7122651)) := by
  intro l hflags _ _ p e ha hc hk s m args below hf hfit hheap happ hpre
  obtain ⟨k, o, h1, h2, h3, rfl, hF⟩ := lw_comes l hflags p e ha hc hk s m args below hf hfit hheap happ hpre
  exact ⟨k, _, h1, h2, h3, hL args s _, lw_frame hF⟩
theorem i_vc : Claimed_1_1 ∧ Claimed_1_2 := ⟨lw_limb limb_1_1 (fun args s t => by simp [limb_1_1, Cond.after, Cond.holds, Cond.value]), lw_limb limb_1_2 (fun args s t => Cond.after_iff.mpr (by
  first | (rw [show limb_1_2 = Cond.eq .result (.int 1) from rfl, Cond.eq_ints (x := 1) (y := 1) rfl rfl]; simp; done) | (simp [limb_1_2, Cond.value, Term.eval]; done)))⟩
