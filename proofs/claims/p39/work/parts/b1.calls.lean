/-! ===== the object's methods, as the law calls them ===== -/
theorem in_rinkOf {M : gM} {f : Nat → Int32} {X : Nat → Int32} {A : Nat → Nat → Int32} {p1 p2 : Int32} (h : GR M f) : f_X7_rinkOf M X A p1 p2 = f_X7_rinkOf M x0 a0 p1 p2 := (Q_rinkOf (X := x0) (A := fun _ => f) h p1 p2).symm.trans (Q_rinkOf h p1 p2)
theorem in_woodOf {M : gM} {f : Nat → Int32} {X : Nat → Int32} {A : Nat → Nat → Int32} {p1 p2 : Int32} (h : GR M f) : f_X7_woodOf M X A p1 p2 = f_X7_woodOf M x0 a0 p1 p2 := (Q_woodOf (X := x0) (A := fun _ => f) h p1 p2).symm.trans (Q_woodOf h p1 p2)
theorem in_clubOf {M : gM} {f : Nat → Int32} {X : Nat → Int32} {A : Nat → Nat → Int32} {p1 p2 : Int32} (h : GR M f) : f_X7_clubOf M X A p1 p2 = f_X7_clubOf M x0 a0 p1 p2 := (Q_clubOf (X := x0) (A := fun _ => f) h p1 p2).symm.trans (Q_clubOf h p1 p2)
theorem in_rinkAt {M : gM} {f : Nat → Int32} {X : Nat → Int32} {A : Nat → Nat → Int32} {p1 : Int32} (h : GR M f) : f_X7_rinkAt M X A p1 = f_X7_rinkAt M x0 a0 p1 := (Q_rinkAt (X := x0) (A := fun _ => f) h p1).symm.trans (Q_rinkAt h p1)
theorem in_nearest {M : gM} {f : Nat → Int32} {X : Nat → Int32} {A : Nat → Nat → Int32} {p1 p2 : Int32} (h : GR M f) : f_X7_nearest M X A p1 p2 = f_X7_nearest M x0 a0 p1 p2 := (Q_nearest (X := x0) (A := fun _ => f) h p1 p2).symm.trans (Q_nearest h p1 p2)
theorem in_shots {M : gM} {f : Nat → Int32} {X : Nat → Int32} {A : Nat → Nat → Int32} {p1 p2 : Int32} (h : GR M f) : f_X7_shots M X A p1 p2 = f_X7_shots M x0 a0 p1 p2 := (Q_shots (X := x0) (A := fun _ => f) h p1 p2).symm.trans (Q_shots h p1 p2)
theorem in_would {M : gM} {f : Nat → Int32} {X : Nat → Int32} {A : Nat → Nat → Int32} {p1 p2 p3 p4 p5 : Int32} (h : GR M f) : f_X7_would M X A p1 p2 p3 p4 p5 = f_X7_would M x0 a0 p1 p2 p3 p4 p5 := (Q_would (X := x0) (A := fun _ => f) h p1 p2 p3 p4 p5).symm.trans (Q_would h p1 p2 p3 p4 p5)
theorem in_bestStrength {M : gM} {f : Nat → Int32} {X : Nat → Int32} {A : Nat → Nat → Int32} {p1 p2 p3 p4 : Int32} (h : GR M f) : f_X7_bestStrength M X A p1 p2 p3 p4 = f_X7_bestStrength M x0 a0 p1 p2 p3 p4 := (Q_bestStrength (X := x0) (A := fun _ => f) h p1 p2 p3 p4).symm.trans (Q_bestStrength h p1 p2 p3 p4)
theorem in_wetIn {M : gM} {f : Nat → Int32} {X : Nat → Int32} {A : Nat → Nat → Int32} {p1 p2 : Int32} (h : GR M f) : f_X7_wetIn M X A p1 p2 = f_X7_wetIn M x0 a0 p1 p2 := (Q_wetIn (X := x0) (A := fun _ => f) h p1 p2).symm.trans (Q_wetIn h p1 p2)
theorem in_castsIn {M : gM} {f : Nat → Int32} {X : Nat → Int32} {A : Nat → Nat → Int32} {p1 p2 : Int32} (h : GR M f) : f_X7_castsIn M X A p1 p2 = f_X7_castsIn M x0 a0 p1 p2 := (Q_castsIn (X := x0) (A := fun _ => f) h p1 p2).symm.trans (Q_castsIn h p1 p2)
theorem in_dryIn {M : gM} {f : Nat → Int32} {X : Nat → Int32} {A : Nat → Nat → Int32} {p1 : Int32} (h : GR M f) : f_X7_dryIn M X A p1 = f_X7_dryIn M x0 a0 p1 := (Q_dryIn (X := x0) (A := fun _ => f) h p1).symm.trans (Q_dryIn h p1)
theorem in_leader {M : gM} {f : Nat → Int32} {X : Nat → Int32} {A : Nat → Nat → Int32} (h : GR M f) : f_X7_leader M X A  = f_X7_leader M x0 a0  := (Q_leader (X := x0) (A := fun _ => f) h ).symm.trans (Q_leader h )
theorem in_account {M : gM} {X : Nat → Int32} {A : Nat → Nat → Int32} {p : Int32} (h13 : ¬ p = 13) (h14 : ¬ p = 14) : f_X7_account M X A p = f_X7_account M x0 a0 p := by
  unfold f_X7_account
  simp only [if_neg h13, if_neg h14]
theorem in_meanWet {M : gM} {f : Nat → Int32} {X : Nat → Int32} {A : Nat → Nat → Int32} (h : GR M f) : f_X7_meanWet M X A = f_X7_meanWet M x0 a0 := (Q_meanWet (X := x0) (A := fun _ => f) h).symm.trans (Q_meanWet h)
theorem in_winShare {M : gM} {f : Nat → Int32} {X : Nat → Int32} {A : Nat → Nat → Int32} (h : GR M f) : f_X7_winShare M X A = f_X7_winShare M x0 a0 := (Q_winShare (X := x0) (A := fun _ => f) h).symm.trans (Q_winShare h)
section BC
variable {l : Launch} {D : gD} {cy : Nat → ClassId} {J : JT va_W} {cc : ByteArray} {nL : Nat} {y0 : MethodName} {R : Room} {q : Nat × Nat} {lv : List (Nat × Value)} {pc : Nat} {rest : List Value} {L : Nat → Nat → Nat} {wr : va_W} {G : Nat → gM} {M : gM} {X : Nat → Int32} {A : Nat → Nat → Int32} {b : cB} {hh : Nat → gM} {n : Nat} {sv : Option gM} {t : Nat → Nat} {k : Nat}
theorem g_rinkOf (h : OKJ l D cy wI J cc nL y0 R) (hy : y0.cls = RL) (hO : OBx G M X A b hh n sv t k) {p1 p2 : Int32} (hR : rm_X7_rinkOf.frames + 1 ≤ R.frames ∧ 8 + (4 + 11) + rm_X7_rinkOf.locals ≤ R.locals) (hroom : (rest.map fun v => v.category).sum ≤ 8) (hf : q.1 ≤ R.cells ∧ q.2 ≤ R.slots) (hdg : decode cc pc = .ok (.invokevirtual 87, 3)) (kk : J (wr ++ CW cy L ((va_up G 0 M, X, A), b)) q lv (pc + 3) (.int (f_X7_rinkOf M x0 a0 p1 p2) :: rest)) : J (wr ++ CW cy L ((va_up G 0 M, X, A), b)) q lv pc (.int p2 :: .int p1 :: .ref (L 11 0) :: rest) := by
  refine j_bI h (n := 2) (c_X7_rinkOf l D cy L G X A b M p1 p2 hO.gi) (wr := wr) rfl (by rw [hy]; exact xg_V (xr_32 22 rfl) (xr_32 23 rfl) (xr_33 0 rfl) (xr_1 2 rfl) (xr_33 1 rfl)) rfl rfl (by decide +kernel) hR (330 + 0) (ml_get 0) rfl rfl rfl rfl hroom hdg ⟨hf.1, hf.2⟩ (fun r v hq => ?_)
  obtain ⟨rfl, rfl⟩ := hq
  obtain ⟨f, hf⟩ := hO.ok
  rw [in_rinkOf hf]
  exact kk
theorem g_woodOf (h : OKJ l D cy wI J cc nL y0 R) (hy : y0.cls = RL) (hO : OBx G M X A b hh n sv t k) {p1 p2 : Int32} (hR : rm_X7_woodOf.frames + 1 ≤ R.frames ∧ 8 + (5 + 11) + rm_X7_woodOf.locals ≤ R.locals) (hroom : (rest.map fun v => v.category).sum ≤ 8) (hf : q.1 ≤ R.cells ∧ q.2 ≤ R.slots) (hdg : decode cc pc = .ok (.invokevirtual 113, 3)) (kk : J (wr ++ CW cy L ((va_up G 0 M, X, A), b)) q lv (pc + 3) (.int (f_X7_woodOf M x0 a0 p1 p2) :: rest)) : J (wr ++ CW cy L ((va_up G 0 M, X, A), b)) q lv pc (.int p2 :: .int p1 :: .ref (L 11 0) :: rest) := by
  refine j_bI h (n := 2) (c_X7_woodOf l D cy L G X A b M p1 p2 hO.gi) (wr := wr) rfl (by rw [hy]; exact xg_V (xr_40 20 rfl) (xr_40 21 rfl) (xr_40 22 rfl) (xr_1 2 rfl) (xr_40 23 rfl)) rfl rfl (by decide +kernel) hR (330 + 0) (ml_get 0) rfl rfl rfl rfl hroom hdg ⟨hf.1, hf.2⟩ (fun r v hq => ?_)
  obtain ⟨rfl, rfl⟩ := hq
  obtain ⟨f, hf⟩ := hO.ok
  rw [in_woodOf hf]
  exact kk
theorem g_clubOf (h : OKJ l D cy wI J cc nL y0 R) (hy : y0.cls = RL) (hO : OBx G M X A b hh n sv t k) {p1 p2 : Int32} (hR : rm_X7_clubOf.frames + 1 ≤ R.frames ∧ 8 + (4 + 11) + rm_X7_clubOf.locals ≤ R.locals) (hroom : (rest.map fun v => v.category).sum ≤ 8) (hf : q.1 ≤ R.cells ∧ q.2 ≤ R.slots) (hdg : decode cc pc = .ok (.invokevirtual 116, 3)) (kk : J (wr ++ CW cy L ((va_up G 0 M, X, A), b)) q lv (pc + 3) (.int (f_X7_clubOf M x0 a0 p1 p2) :: rest)) : J (wr ++ CW cy L ((va_up G 0 M, X, A), b)) q lv pc (.int p2 :: .int p1 :: .ref (L 11 0) :: rest) := by
  refine j_bI h (n := 2) (c_X7_clubOf l D cy L G X A b M p1 p2 hO.gi) (wr := wr) rfl (by rw [hy]; exact xg_V (xr_30 16 rfl) (xr_30 17 rfl) (xr_30 18 rfl) (xr_1 2 rfl) (xr_30 19 rfl)) rfl rfl (by decide +kernel) hR (330 + 0) (ml_get 0) rfl rfl rfl rfl hroom hdg ⟨hf.1, hf.2⟩ (fun r v hq => ?_)
  obtain ⟨rfl, rfl⟩ := hq
  obtain ⟨f, hf⟩ := hO.ok
  rw [in_clubOf hf]
  exact kk
theorem g_rinkAt (h : OKJ l D cy wI J cc nL y0 R) (hy : y0.cls = RL) (hO : OBx G M X A b hh n sv t k) {p1 : Int32} (hR : rm_X7_rinkAt.frames + 1 ≤ R.frames ∧ 8 + (2 + 11) + rm_X7_rinkAt.locals ≤ R.locals) (hroom : (rest.map fun v => v.category).sum ≤ 8) (hf : q.1 ≤ R.cells ∧ q.2 ≤ R.slots) (hdg : decode cc pc = .ok (.invokevirtual 119, 3)) (kk : J (wr ++ CW cy L ((va_up G 0 M, X, A), b)) q lv (pc + 3) (.int (f_X7_rinkAt M x0 a0 p1) :: rest)) : J (wr ++ CW cy L ((va_up G 0 M, X, A), b)) q lv pc (.int p1 :: .ref (L 11 0) :: rest) := by
  refine j_bI h (n := 1) (c_X7_rinkAt l D cy L G X A b M p1 hO.gi) (wr := wr) rfl (by rw [hy]; exact xg_V (xr_41 1 rfl) (xr_41 2 rfl) (xr_41 3 rfl) (xr_1 2 rfl) (xr_41 4 rfl)) rfl rfl (by decide +kernel) hR (330 + 0) (ml_get 0) rfl rfl rfl rfl hroom hdg ⟨hf.1, hf.2⟩ (fun r v hq => ?_)
  obtain ⟨rfl, rfl⟩ := hq
  obtain ⟨f, hf⟩ := hO.ok
  rw [in_rinkAt hf]
  exact kk
theorem g_nearest (h : OKJ l D cy wI J cc nL y0 R) (hy : y0.cls = RL) (hO : OBx G M X A b hh n sv t k) {p1 p2 : Int32} (hR : rm_X7_nearest.frames + 1 ≤ R.frames ∧ 8 + (3 + 11) + rm_X7_nearest.locals ≤ R.locals) (hroom : (rest.map fun v => v.category).sum ≤ 8) (hf : q.1 ≤ R.cells ∧ q.2 ≤ R.slots) (hdg : decode cc pc = .ok (.invokevirtual 90, 3)) (kk : J (wr ++ CW cy L ((va_up G 0 M, X, A), b)) q lv (pc + 3) (.int (f_X7_nearest M x0 a0 p1 p2) :: rest)) : J (wr ++ CW cy L ((va_up G 0 M, X, A), b)) q lv pc (.int p2 :: .int p1 :: .ref (L 11 0) :: rest) := by
  refine j_bI h (n := 2) (c_X7_nearest l D cy L G X A b M p1 p2 hO.gi) (wr := wr) rfl (by rw [hy]; exact xg_V (xr_39 21 rfl) (xr_39 22 rfl) (xr_39 23 rfl) (xr_1 2 rfl) (xr_40 0 rfl)) rfl rfl (by decide +kernel) hR (330 + 0) (ml_get 0) rfl rfl rfl rfl hroom hdg ⟨hf.1, hf.2⟩ (fun r v hq => ?_)
  obtain ⟨rfl, rfl⟩ := hq
  obtain ⟨f, hf⟩ := hO.ok
  rw [in_nearest hf]
  exact kk
theorem g_shots (h : OKJ l D cy wI J cc nL y0 R) (hy : y0.cls = RL) (hO : OBx G M X A b hh n sv t k) {p1 p2 : Int32} (hR : rm_X7_shots.frames + 1 ≤ R.frames ∧ 8 + (3 + 11) + rm_X7_shots.locals ≤ R.locals) (hroom : (rest.map fun v => v.category).sum ≤ 8) (hf : q.1 ≤ R.cells ∧ q.2 ≤ R.slots) (hdg : decode cc pc = .ok (.invokevirtual 101, 3)) (kk : J (wr ++ CW cy L ((va_up G 0 M, X, A), b)) q lv (pc + 3) (.int (f_X7_shots M x0 a0 p1 p2) :: rest)) : J (wr ++ CW cy L ((va_up G 0 M, X, A), b)) q lv pc (.int p2 :: .int p1 :: .ref (L 11 0) :: rest) := by
  refine j_bI h (n := 2) (c_X7_shots l D cy L G X A b M p1 p2 hO.gi) (wr := wr) rfl (by rw [hy]; exact xg_V (xr_40 6 rfl) (xr_40 7 rfl) (xr_40 8 rfl) (xr_1 2 rfl) (xr_40 9 rfl)) rfl rfl (by decide +kernel) hR (330 + 0) (ml_get 0) rfl rfl rfl rfl hroom hdg ⟨hf.1, hf.2⟩ (fun r v hq => ?_)
  obtain ⟨rfl, rfl⟩ := hq
  obtain ⟨f, hf⟩ := hO.ok
  rw [in_shots hf]
  exact kk
theorem g_would (h : OKJ l D cy wI J cc nL y0 R) (hy : y0.cls = RL) (hO : OBx G M X A b hh n sv t k) {p1 p2 p3 p4 p5 : Int32} (hR : rm_X7_would.frames + 1 ≤ R.frames ∧ 8 + (6 + 11) + rm_X7_would.locals ≤ R.locals) (hroom : (rest.map fun v => v.category).sum ≤ 8) (hf : q.1 ≤ R.cells ∧ q.2 ≤ R.slots) (hdg : decode cc pc = .ok (.invokevirtual 93, 3)) (kk : J (wr ++ CW cy L ((va_up G 0 M, X, A), b)) q lv (pc + 3) (.int (f_X7_would M x0 a0 p1 p2 p3 p4 p5) :: rest)) : J (wr ++ CW cy L ((va_up G 0 M, X, A), b)) q lv pc (.int p5 :: .int p4 :: .int p3 :: .int p2 :: .int p1 :: .ref (L 11 0) :: rest) := by
  refine j_bI h (n := 5) (c_X7_would l D cy L G X A b M p1 p2 p3 p4 p5 hO.gi) (wr := wr) rfl (by rw [hy]; exact xg_V (xr_33 17 rfl) (xr_33 18 rfl) (xr_33 19 rfl) (xr_1 2 rfl) (xr_33 20 rfl)) rfl rfl (by decide +kernel) hR (330 + 0) (ml_get 0) rfl rfl rfl rfl hroom hdg ⟨hf.1, hf.2⟩ (fun r v hq => ?_)
  obtain ⟨rfl, rfl⟩ := hq
  obtain ⟨f, hf⟩ := hO.ok
  rw [in_would hf]
  exact kk
theorem g_bestStrength (h : OKJ l D cy wI J cc nL y0 R) (hy : y0.cls = RL) (hO : OBx G M X A b hh n sv t k) {p1 p2 p3 p4 : Int32} (hR : rm_X7_bestStrength.frames + 1 ≤ R.frames ∧ 8 + (11 + 11) + rm_X7_bestStrength.locals ≤ R.locals) (hroom : (rest.map fun v => v.category).sum ≤ 8) (hf : q.1 ≤ R.cells ∧ q.2 ≤ R.slots) (hdg : decode cc pc = .ok (.invokevirtual 97, 3)) (kk : J (wr ++ CW cy L ((va_up G 0 M, X, A), b)) q lv (pc + 3) (.int (f_X7_bestStrength M x0 a0 p1 p2 p3 p4) :: rest)) : J (wr ++ CW cy L ((va_up G 0 M, X, A), b)) q lv pc (.int p4 :: .int p3 :: .int p2 :: .int p1 :: .ref (L 11 0) :: rest) := by
  refine j_bI h (n := 4) (c_X7_bestStrength l D cy L G X A b M p1 p2 p3 p4 hO.gi) (wr := wr) rfl (by rw [hy]; exact xg_V (xr_40 1 rfl) (xr_40 2 rfl) (xr_40 3 rfl) (xr_1 2 rfl) (xr_40 4 rfl)) rfl rfl (by decide +kernel) hR (330 + 0) (ml_get 0) rfl rfl rfl rfl hroom hdg ⟨hf.1, hf.2⟩ (fun r v hq => ?_)
  obtain ⟨rfl, rfl⟩ := hq
  obtain ⟨f, hf⟩ := hO.ok
  rw [in_bestStrength hf]
  exact kk
theorem g_wetIn (h : OKJ l D cy wI J cc nL y0 R) (hy : y0.cls = RL) (hO : OBx G M X A b hh n sv t k) {p1 p2 : Int32} (hR : rm_X7_wetIn.frames + 1 ≤ R.frames ∧ 8 + (3 + 11) + rm_X7_wetIn.locals ≤ R.locals) (hroom : (rest.map fun v => v.category).sum ≤ 8) (hf : q.1 ≤ R.cells ∧ q.2 ≤ R.slots) (hdg : decode cc pc = .ok (.invokevirtual 104, 3)) (kk : J (wr ++ CW cy L ((va_up G 0 M, X, A), b)) q lv (pc + 3) (.int (f_X7_wetIn M x0 a0 p1 p2) :: rest)) : J (wr ++ CW cy L ((va_up G 0 M, X, A), b)) q lv pc (.int p2 :: .int p1 :: .ref (L 11 0) :: rest) := by
  refine j_bI h (n := 2) (c_X7_wetIn l D cy L G X A b M p1 p2 hO.gi) (wr := wr) rfl (by rw [hy]; exact xg_V (xr_32 2 rfl) (xr_32 3 rfl) (xr_32 4 rfl) (xr_1 2 rfl) (xr_32 5 rfl)) rfl rfl (by decide +kernel) hR (330 + 0) (ml_get 0) rfl rfl rfl rfl hroom hdg ⟨hf.1, hf.2⟩ (fun r v hq => ?_)
  obtain ⟨rfl, rfl⟩ := hq
  obtain ⟨f, hf⟩ := hO.ok
  rw [in_wetIn hf]
  exact kk
theorem g_castsIn (h : OKJ l D cy wI J cc nL y0 R) (hy : y0.cls = RL) (hO : OBx G M X A b hh n sv t k) {p1 p2 : Int32} (hR : rm_X7_castsIn.frames + 1 ≤ R.frames ∧ 8 + (3 + 11) + rm_X7_castsIn.locals ≤ R.locals) (hroom : (rest.map fun v => v.category).sum ≤ 8) (hf : q.1 ≤ R.cells ∧ q.2 ≤ R.slots) (hdg : decode cc pc = .ok (.invokevirtual 107, 3)) (kk : J (wr ++ CW cy L ((va_up G 0 M, X, A), b)) q lv (pc + 3) (.int (f_X7_castsIn M x0 a0 p1 p2) :: rest)) : J (wr ++ CW cy L ((va_up G 0 M, X, A), b)) q lv pc (.int p2 :: .int p1 :: .ref (L 11 0) :: rest) := by
  refine j_bI h (n := 2) (c_X7_castsIn l D cy L G X A b M p1 p2 hO.gi) (wr := wr) rfl (by rw [hy]; exact xg_V (xr_32 10 rfl) (xr_32 11 rfl) (xr_32 12 rfl) (xr_1 2 rfl) (xr_32 13 rfl)) rfl rfl (by decide +kernel) hR (330 + 0) (ml_get 0) rfl rfl rfl rfl hroom hdg ⟨hf.1, hf.2⟩ (fun r v hq => ?_)
  obtain ⟨rfl, rfl⟩ := hq
  obtain ⟨f, hf⟩ := hO.ok
  rw [in_castsIn hf]
  exact kk
theorem g_dryIn (h : OKJ l D cy wI J cc nL y0 R) (hy : y0.cls = RL) (hO : OBx G M X A b hh n sv t k) {p1 : Int32} (hR : rm_X7_dryIn.frames + 1 ≤ R.frames ∧ 8 + (3 + 11) + rm_X7_dryIn.locals ≤ R.locals) (hroom : (rest.map fun v => v.category).sum ≤ 8) (hf : q.1 ≤ R.cells ∧ q.2 ≤ R.slots) (hdg : decode cc pc = .ok (.invokevirtual 110, 3)) (kk : J (wr ++ CW cy L ((va_up G 0 M, X, A), b)) q lv (pc + 3) (.int (f_X7_dryIn M x0 a0 p1) :: rest)) : J (wr ++ CW cy L ((va_up G 0 M, X, A), b)) q lv pc (.int p1 :: .ref (L 11 0) :: rest) := by
  refine j_bI h (n := 1) (c_X7_dryIn l D cy L G X A b M p1 hO.gi) (wr := wr) rfl (by rw [hy]; exact xg_V (xr_32 18 rfl) (xr_32 19 rfl) (xr_32 20 rfl) (xr_1 2 rfl) (xr_32 21 rfl)) rfl rfl (by decide +kernel) hR (330 + 0) (ml_get 0) rfl rfl rfl rfl hroom hdg ⟨hf.1, hf.2⟩ (fun r v hq => ?_)
  obtain ⟨rfl, rfl⟩ := hq
  obtain ⟨f, hf⟩ := hO.ok
  rw [in_dryIn hf]
  exact kk
theorem g_leader (h : OKJ l D cy wI J cc nL y0 R) (hy : y0.cls = RL) (hO : OBx G M X A b hh n sv t k) (hR : rm_X7_leader.frames + 1 ≤ R.frames ∧ 8 + (3 + 11) + rm_X7_leader.locals ≤ R.locals) (hroom : (rest.map fun v => v.category).sum ≤ 8) (hf : q.1 ≤ R.cells ∧ q.2 ≤ R.slots) (hdg : decode cc pc = .ok (.invokevirtual 122, 3)) (kk : J (wr ++ CW cy L ((va_up G 0 M, X, A), b)) q lv (pc + 3) (.int (f_X7_leader M x0 a0 ) :: rest)) : J (wr ++ CW cy L ((va_up G 0 M, X, A), b)) q lv pc (.ref (L 11 0) :: rest) := by
  refine j_bI h (n := 0) (c_X7_leader l D cy L G X A b M ) (wr := wr) rfl (by rw [hy]; exact xg_V (xr_41 9 rfl) (xr_41 10 rfl) (xr_41 11 rfl) (xr_1 2 rfl) (xr_41 12 rfl)) rfl rfl (by decide +kernel) hR (330 + 0) (ml_get 0) rfl rfl rfl rfl hroom hdg ⟨hf.1, hf.2⟩ (fun r v hq => ?_)
  obtain ⟨rfl, rfl⟩ := hq
  obtain ⟨f, hf⟩ := hO.ok
  rw [in_leader hf]
  exact kk
theorem g_account (h : OKJ l D cy wI J cc nL y0 R) (hy : y0.cls = RL) (hO : OBx G M X A b hh n sv t k) {p1 : Int32} (hR : rm_X7_account.frames + 1 ≤ R.frames ∧ 8 + (2 + 11) + rm_X7_account.locals ≤ R.locals) (hroom : (rest.map fun v => v.category).sum ≤ 8) (hf : q.1 ≤ R.cells ∧ q.2 ≤ R.slots) (hdg : decode cc pc = .ok (.invokevirtual 84, 3)) (kk : J (wr ++ CW cy L ((va_up G 0 M, X, A), b)) q lv (pc + 3) (.int (f_X7_account M X A p1) :: rest)) : J (wr ++ CW cy L ((va_up G 0 M, X, A), b)) q lv pc (.int p1 :: .ref (L 11 0) :: rest) := by
  refine j_bI h (n := 1) (c_X7_account l D cy L G X A b M p1 hO.gi) (wr := wr) rfl (by rw [hy]; exact xg_V (xr_10 18 rfl) (xr_10 19 rfl) (xr_10 20 rfl) (xr_1 2 rfl) (xr_10 21 rfl)) rfl rfl (by decide +kernel) hR (330 + 0) (ml_get 0) rfl rfl rfl rfl hroom hdg ⟨hf.1, hf.2⟩ (fun r v hq => ?_)
  obtain ⟨rfl, rfl⟩ := hq
  exact kk
theorem g_reason (h : OKJ l D cy wI J cc nL y0 R) (hy : y0.cls = RL) (hO : OBx G M X A b hh n sv t k) {p1 p2 : Int32} (hR : rm_X7_reason.frames + 1 ≤ R.frames ∧ 8 + (3 + 11) + rm_X7_reason.locals ≤ R.locals) (hroom : (rest.map fun v => v.category).sum ≤ 8) (hf : q.1 ≤ R.cells ∧ q.2 ≤ R.slots) (hdg : decode cc pc = .ok (.invokevirtual 26, 3)) (kk : J (wr ++ CW cy L ((va_up G 0 M, X, A), b)) q lv (pc + 3) (.int (f_X7_reason M X A p1 p2) :: rest)) : J (wr ++ CW cy L ((va_up G 0 M, X, A), b)) q lv pc (.int p2 :: .int p1 :: .ref (L 11 0) :: rest) := by
  refine j_bI h (n := 2) (c_X7_reason l D cy L G X A b M p1 p2 hO.k6) (wr := wr) rfl (by rw [hy]; exact xg_V (xr_30 4 rfl) (xr_30 5 rfl) (xr_30 6 rfl) (xr_1 2 rfl) (xr_30 7 rfl)) rfl rfl (by decide +kernel) hR (330 + 0) (ml_get 0) rfl rfl rfl rfl hroom hdg ⟨hf.1, hf.2⟩ (fun r v hq => ?_)
  obtain ⟨rfl, rfl⟩ := hq
  exact kk
theorem g_fault (h : OKJ l D cy wI J cc nL y0 R) (hy : y0.cls = RL) (hO : OBx G M X A b hh n sv t k) (hR : rm_X7_fault.frames + 1 ≤ R.frames ∧ 8 + (1 + 11) + rm_X7_fault.locals ≤ R.locals) (hroom : (rest.map fun v => v.category).sum ≤ 8) (hf : q.1 ≤ R.cells ∧ q.2 ≤ R.slots) (hdg : decode cc pc = .ok (.invokevirtual 176, 3)) (kk : J (wr ++ CW cy L ((va_up G 0 M, X, A), b)) q lv (pc + 3) (.int (X 1) :: rest)) : J (wr ++ CW cy L ((va_up G 0 M, X, A), b)) q lv pc (.ref (L 11 0) :: rest) := by
  refine j_bI h (n := 0) (c_X7_fault l D cy L G X A b M ) (wr := wr) rfl (by rw [hy]; exact xg_V (xr_28 14 rfl) (xr_28 15 rfl) (xr_28 16 rfl) (xr_1 2 rfl) (xr_28 17 rfl)) rfl rfl (by decide +kernel) hR (330 + 0) (ml_get 0) rfl rfl rfl rfl hroom hdg ⟨hf.1, hf.2⟩ (fun r v hq => ?_)
  obtain ⟨rfl, rfl⟩ := hq
  exact kk
theorem g_meanWet (h : OKJ l D cy wI J cc nL y0 R) (hy : y0.cls = RL) (hO : OBx G M X A b hh n sv t k) (hR : rm_X7_meanWet.frames + 1 ≤ R.frames ∧ 8 + (1 + 11) + rm_X7_meanWet.locals ≤ R.locals) (hroom : (rest.map fun v => v.category).sum ≤ 8) (hf : q.1 ≤ R.cells ∧ q.2 ≤ R.slots) (hdg : decode cc pc = .ok (.invokevirtual 74, 3)) (kk : J (wr ++ CW cy L ((va_up G 0 M, X, A), b)) q lv (pc + 3) (.float (f_X7_meanWet M x0 a0) :: rest)) : J (wr ++ CW cy L ((va_up G 0 M, X, A), b)) q lv pc (.ref (L 11 0) :: rest) := by
  refine j_bF h (n := 0) (c_X7_meanWet l D cy L G X A b M hO.gi) (wr := wr) rfl (by rw [hy]; exact xg_V (xr_31 18 rfl) (xr_31 19 rfl) (xr_31 20 rfl) (xr_1 2 rfl) (xr_31 21 rfl)) rfl rfl (by decide +kernel) hR (330 + 0) (ml_get 0) rfl rfl rfl rfl hroom hdg ⟨hf.1, hf.2⟩ (fun r v hq => ?_)
  obtain ⟨rfl, rfl⟩ := hq
  obtain ⟨f, hf⟩ := hO.ok
  rw [in_meanWet hf]
  exact kk
theorem g_winShare (h : OKJ l D cy wI J cc nL y0 R) (hy : y0.cls = RL) (hO : OBx G M X A b hh n sv t k) (hR : rm_X7_winShare.frames + 1 ≤ R.frames ∧ 8 + (2 + 11) + rm_X7_winShare.locals ≤ R.locals) (hroom : (rest.map fun v => v.category).sum ≤ 8) (hf : q.1 ≤ R.cells ∧ q.2 ≤ R.slots) (hdg : decode cc pc = .ok (.invokevirtual 64, 3)) (kk : J (wr ++ CW cy L ((va_up G 0 M, X, A), b)) q lv (pc + 3) (.double (f_X7_winShare M x0 a0) :: rest)) : J (wr ++ CW cy L ((va_up G 0 M, X, A), b)) q lv pc (.ref (L 11 0) :: rest) := by
  refine j_bD h (n := 0) (c_X7_winShare l D cy L G X A b M hO.gi) (wr := wr) rfl (by rw [hy]; exact xg_V (xr_38 17 rfl) (xr_38 18 rfl) (xr_38 19 rfl) (xr_1 2 rfl) (xr_38 20 rfl)) rfl rfl (by decide +kernel) hR (330 + 0) (ml_get 0) rfl rfl rfl rfl hroom hdg ⟨hf.1, hf.2⟩ (fun r v hq => ?_)
  obtain ⟨rfl, rfl⟩ := hq
  obtain ⟨f, hf⟩ := hO.ok
  rw [in_winShare hf]
  exact kk
theorem g_written (h : OKJ l D cy wI J cc nL y0 R) (hy : y0.cls = RL) (hO : OBx G M X A b hh n sv t k) {p1 : Int32} (hR : rm_X7_written.frames + 1 ≤ R.frames ∧ 8 + (2 + 11) + rm_X7_written.locals ≤ R.locals) (hroom : (rest.map fun v => v.category).sum ≤ 8) (hf : q.1 ≤ R.cells ∧ q.2 ≤ R.slots) {nl : Nat} (hn8 : X 8 = nI nl) (hT8 : TX nl b.2.2.2 (A 5)) (hdg : decode cc pc = .ok (.invokevirtual 34, 3)) (kk : J (wr ++ CW cy L ((va_up G 0 M, X, A), b)) q lv (pc + 3) (.int (f_X7_written X A p1) :: rest)) : J (wr ++ CW cy L ((va_up G 0 M, X, A), b)) q lv pc (.int p1 :: .ref (L 11 0) :: rest) := by
  refine j_bI h (n := 1) (c_X7_written l D cy L G X A b M p1 hn8 hT8) (wr := wr) rfl (by rw [hy]; exact xg_V (xr_37 13 rfl) (xr_37 14 rfl) (xr_37 15 rfl) (xr_1 2 rfl) (xr_37 16 rfl)) rfl rfl (by decide +kernel) hR (330 + 0) (ml_get 0) rfl rfl rfl rfl hroom hdg ⟨hf.1, hf.2⟩ (fun r v hq => ?_)
  obtain ⟨rfl, rfl⟩ := hq
  exact kk
theorem g_shots10 (h : OKJ l D cy wI J cc nL y0 R) (hy : y0.cls = RL) (hO : OBx G M X A b hh n sv t k) {p1 p2 : Int32} (hR : rm_X7_shots.frames + 1 ≤ R.frames ∧ 8 + (3 + 11) + rm_X7_shots.locals ≤ R.locals) (hk8 : 10 + (3 + 11) + rm_X7_shots.locals ≤ R.locals) (hroom : (rest.map fun v => v.category).sum ≤ 10) (hf : q.1 ≤ R.cells ∧ q.2 ≤ R.slots) (hdg : decode cc pc = .ok (.invokevirtual 101, 3)) (kk : J (wr ++ CW cy L ((va_up G 0 M, X, A), b)) q lv (pc + 3) (.int (f_X7_shots M x0 a0 p1 p2) :: rest)) : J (wr ++ CW cy L ((va_up G 0 M, X, A), b)) q lv pc (.int p2 :: .int p1 :: .ref (L 11 0) :: rest) := by
  refine j_bIk 10 h (n := 2) (c_X7_shots l D cy L G X A b M p1 p2 hO.gi) (wr := wr) rfl (by rw [hy]; exact xg_V (xr_40 6 rfl) (xr_40 7 rfl) (xr_40 8 rfl) (xr_1 2 rfl) (xr_40 9 rfl)) rfl rfl (by decide +kernel) hR hk8 (330 + 0) (ml_get 0) rfl rfl rfl rfl hroom hdg ⟨hf.1, hf.2⟩ (fun r v hq => ?_)
  obtain ⟨rfl, rfl⟩ := hq
  obtain ⟨f, hf⟩ := hO.ok
  rw [in_shots hf]
  exact kk
theorem o_rink (h : OKJ l D cy wI J cc nL y0 R) (hy : y0.cls = RL) (hO : OBx G M X A b hh n sv t k) {p1 p2 : Int32} (hR : rm_X7_rink.frames + 1 ≤ R.frames ∧ 8 + (3 + 11) + rm_X7_rink.locals ≤ R.locals) (hroom : (rest.map fun v => v.category).sum ≤ 8) (hf : q.1 ≤ R.cells ∧ q.2 ≤ R.slots) (hdg : decode cc pc = .ok (.invokevirtual 47, 3)) (kk : ∀ z, z = f_X7_rink G M X A p1 p2 → RES G M X A b hh n sv t k z (fun a => vp_in a 4) → J (wr ++ CW cy L ((va_up z.2.1 0 z.2.2.1, z.2.2.2.1, z.2.2.2.2), b)) q lv (pc + 3) (.int z.1 :: rest)) : J (wr ++ CW cy L ((va_up G 0 M, X, A), b)) q lv pc (.int p2 :: .int p1 :: .ref (L 11 0) :: rest) := by
  refine j_bI h (n := 2) (c_X7_rink l D cy L G X A b M p1 p2 hO.gi hO.k6 hO.f2) (wr := wr) rfl (by rw [hy]; exact xg_V (xr_28 18 rfl) (xr_28 19 rfl) (xr_28 20 rfl) (xr_1 2 rfl) (xr_28 21 rfl)) rfl rfl (by decide +kernel) hR (330 + 0) (ml_get 0) rfl rfl rfl rfl hroom hdg ⟨hf.1, hf.2⟩ (fun r v hq => ?_)
  obtain ⟨z, hz, rfl, rfl, hg⟩ := hq
  exact kk z hz (hz ▸ P_rink hO p1 p2 (hz ▸ hg))
theorem o_wood (h : OKJ l D cy wI J cc nL y0 R) (hy : y0.cls = RL) (hO : OBx G M X A b hh n sv t k) {p1 p2 : Int32} (hR : rm_X7_wood.frames + 1 ≤ R.frames ∧ 8 + (3 + 11) + rm_X7_wood.locals ≤ R.locals) (hroom : (rest.map fun v => v.category).sum ≤ 8) (hf : q.1 ≤ R.cells ∧ q.2 ≤ R.slots) (hdg : decode cc pc = .ok (.invokevirtual 50, 3)) (kk : ∀ z, z = f_X7_wood G M X A p1 p2 → RES G M X A b hh n sv t k z (fun a => vp_in a 16) → J (wr ++ CW cy L ((va_up z.2.1 0 z.2.2.1, z.2.2.2.1, z.2.2.2.2), b)) q lv (pc + 3) (.int z.1 :: rest)) : J (wr ++ CW cy L ((va_up G 0 M, X, A), b)) q lv pc (.int p2 :: .int p1 :: .ref (L 11 0) :: rest) := by
  refine j_bI h (n := 2) (c_X7_wood l D cy L G X A b M p1 p2 hO.gi hO.k6 hO.f2) (wr := wr) rfl (by rw [hy]; exact xg_V (xr_29 12 rfl) (xr_29 13 rfl) (xr_29 14 rfl) (xr_1 2 rfl) (xr_29 15 rfl)) rfl rfl (by decide +kernel) hR (330 + 0) (ml_get 0) rfl rfl rfl rfl hroom hdg ⟨hf.1, hf.2⟩ (fun r v hq => ?_)
  obtain ⟨z, hz, rfl, rfl, hg⟩ := hq
  exact kk z hz (hz ▸ P_wood hO p1 p2 (hz ▸ hg))
theorem o_begin (h : OKJ l D cy wI J cc nL y0 R) (hy : y0.cls = RL) (hO : OBx G M X A b hh n sv t k) {p1 p2 : Int32} (hR : rm_X7_begin.frames + 1 ≤ R.frames ∧ 8 + (3 + 11) + rm_X7_begin.locals ≤ R.locals) (hroom : (rest.map fun v => v.category).sum ≤ 8) (hf : q.1 ≤ R.cells ∧ q.2 ≤ R.slots) (hdg : decode cc pc = .ok (.invokevirtual 125, 3)) (kk : ∀ z, z = f_X7_begin G M X A p1 p2 → RES G M X A b hh n sv t k z (fun a => vp_in a 2) → J (wr ++ CW cy L ((va_up z.2.1 0 z.2.2.1, z.2.2.2.1, z.2.2.2.2), b)) q lv (pc + 3) (.int z.1 :: rest)) : J (wr ++ CW cy L ((va_up G 0 M, X, A), b)) q lv pc (.int p2 :: .int p1 :: .ref (L 11 0) :: rest) := by
  refine j_bI h (n := 2) (c_X7_begin l D cy L G X A b M p1 p2 hO.gi hO.k6 hO.f2) (wr := wr) rfl (by rw [hy]; exact xg_V (xr_33 9 rfl) (xr_33 10 rfl) (xr_33 11 rfl) (xr_1 2 rfl) (xr_33 12 rfl)) rfl rfl (by decide +kernel) hR (330 + 0) (ml_get 0) rfl rfl rfl rfl hroom hdg ⟨hf.1, hf.2⟩ (fun r v hq => ?_)
  obtain ⟨z, hz, rfl, rfl, hg⟩ := hq
  exact kk z hz (hz ▸ P_begin hO p1 p2 (hz ▸ hg))
theorem o_bowl (h : OKJ l D cy wI J cc nL y0 R) (hy : y0.cls = RL) (hO : OBx G M X A b hh n sv t k) {p1 p2 p3 p4 p5 : Int32} (hR : rm_X7_bowl.frames + 1 ≤ R.frames ∧ 8 + (6 + 11) + rm_X7_bowl.locals ≤ R.locals) (hroom : (rest.map fun v => v.category).sum ≤ 8) (hf : q.1 ≤ R.cells ∧ q.2 ≤ R.slots) (hdg : decode cc pc = .ok (.invokevirtual 128, 3)) (kk : ∀ z, z = f_X7_bowl G M X A p1 p2 p3 p4 p5 → RES G M X A b hh n sv t k z (fun a => a = -4 ∨ vp_in a 10000) → J (wr ++ CW cy L ((va_up z.2.1 0 z.2.2.1, z.2.2.2.1, z.2.2.2.2), b)) q lv (pc + 3) (.int z.1 :: rest)) : J (wr ++ CW cy L ((va_up G 0 M, X, A), b)) q lv pc (.int p5 :: .int p4 :: .int p3 :: .int p2 :: .int p1 :: .ref (L 11 0) :: rest) := by
  refine j_bI h (n := 5) (c_X7_bowl l D cy L G X A b M p1 p2 p3 p4 p5 hO.gi hO.k6 hO.f2) (wr := wr) rfl (by rw [hy]; exact xg_V (xr_38 9 rfl) (xr_38 10 rfl) (xr_38 11 rfl) (xr_1 2 rfl) (xr_38 12 rfl)) rfl rfl (by decide +kernel) hR (330 + 0) (ml_get 0) rfl rfl rfl rfl hroom hdg ⟨hf.1, hf.2⟩ (fun r v hq => ?_)
  obtain ⟨z, hz, rfl, rfl, hg⟩ := hq
  exact kk z hz (hz ▸ P_bowl hO p1 p2 p3 p4 p5 (hz ▸ hg))
theorem o_close (h : OKJ l D cy wI J cc nL y0 R) (hy : y0.cls = RL) (hO : OBx G M X A b hh n sv t k) {p1 : Int32} (hR : rm_X7_close.frames + 1 ≤ R.frames ∧ 8 + (2 + 11) + rm_X7_close.locals ≤ R.locals) (hroom : (rest.map fun v => v.category).sum ≤ 8) (hf : q.1 ≤ R.cells ∧ q.2 ≤ R.slots) (hdg : decode cc pc = .ok (.invokevirtual 131, 3)) (kk : ∀ z, z = f_X7_close G M X A p1 → RES G M X A b hh n sv t k z (fun a => vp_in a 20) → J (wr ++ CW cy L ((va_up z.2.1 0 z.2.2.1, z.2.2.2.1, z.2.2.2.2), b)) q lv (pc + 3) (.int z.1 :: rest)) : J (wr ++ CW cy L ((va_up G 0 M, X, A), b)) q lv pc (.int p1 :: .ref (L 11 0) :: rest) := by
  refine j_bI h (n := 1) (c_X7_close l D cy L G X A b M p1 hO.gi hO.k6 hO.f2) (wr := wr) rfl (by rw [hy]; exact xg_V (xr_41 16 rfl) (xr_41 17 rfl) (xr_41 18 rfl) (xr_1 2 rfl) (xr_41 19 rfl)) rfl rfl (by decide +kernel) hR (330 + 0) (ml_get 0) rfl rfl rfl rfl hroom hdg ⟨hf.1, hf.2⟩ (fun r v hq => ?_)
  obtain ⟨z, hz, rfl, rfl, hg⟩ := hq
  exact kk z hz (hz ▸ P_close hO p1 (hz ▸ hg))
theorem o_sweep (h : OKJ l D cy wI J cc nL y0 R) (hy : y0.cls = RL) (hO : OBx G M X A b hh n sv t k) {p1 : Int32} (hR : rm_X7_sweep.frames + 1 ≤ R.frames ∧ 8 + (2 + 11) + rm_X7_sweep.locals ≤ R.locals) (hroom : (rest.map fun v => v.category).sum ≤ 8) (hf : q.1 ≤ R.cells ∧ q.2 ≤ R.slots) (hdg : decode cc pc = .ok (.invokevirtual 134, 3)) (kk : ∀ z, z = f_X7_sweep G M X A p1 → RES G M X A b hh n sv t k z (fun a => vp_in a 10) → J (wr ++ CW cy L ((va_up z.2.1 0 z.2.2.1, z.2.2.2.1, z.2.2.2.2), b)) q lv (pc + 3) (.int z.1 :: rest)) : J (wr ++ CW cy L ((va_up G 0 M, X, A), b)) q lv pc (.int p1 :: .ref (L 11 0) :: rest) := by
  refine j_bI h (n := 1) (c_X7_sweep l D cy L G X A b M p1 hO.gi hO.k6 hO.f2) (wr := wr) rfl (by rw [hy]; exact xg_V (xr_33 13 rfl) (xr_33 14 rfl) (xr_33 15 rfl) (xr_1 2 rfl) (xr_33 16 rfl)) rfl rfl (by decide +kernel) hR (330 + 0) (ml_get 0) rfl rfl rfl rfl hroom hdg ⟨hf.1, hf.2⟩ (fun r v hq => ?_)
  obtain ⟨z, hz, rfl, rfl, hg⟩ := hq
  exact kk z hz (hz ▸ P_sweep hO p1 (hz ▸ hg))
theorem o_rain (h : OKJ l D cy wI J cc nL y0 R) (hy : y0.cls = RL) (hO : OBx G M X A b hh n sv t k) {p1 : Int32} (hR : rm_X7_rain.frames + 1 ≤ R.frames ∧ 8 + (2 + 11) + rm_X7_rain.locals ≤ R.locals) (hroom : (rest.map fun v => v.category).sum ≤ 8) (hf : q.1 ≤ R.cells ∧ q.2 ≤ R.slots) (hdg : decode cc pc = .ok (.invokevirtual 53, 3)) (kk : ∀ z, z = f_X7_rain G M X A p1 → RES G M X A b hh n sv t k z (fun a => vp_in a 10) → J (wr ++ CW cy L ((va_up z.2.1 0 z.2.2.1, z.2.2.2.1, z.2.2.2.2), b)) q lv (pc + 3) (.int z.1 :: rest)) : J (wr ++ CW cy L ((va_up G 0 M, X, A), b)) q lv pc (.int p1 :: .ref (L 11 0) :: rest) := by
  refine j_bI h (n := 1) (c_X7_rain l D cy L G X A b M p1 hO.gi hO.k6 hO.f2) (wr := wr) rfl (by rw [hy]; exact xg_V (xr_31 10 rfl) (xr_31 11 rfl) (xr_31 12 rfl) (xr_1 2 rfl) (xr_31 13 rfl)) rfl rfl (by decide +kernel) hR (330 + 0) (ml_get 0) rfl rfl rfl rfl hroom hdg ⟨hf.1, hf.2⟩ (fun r v hq => ?_)
  obtain ⟨z, hz, rfl, rfl, hg⟩ := hq
  exact kk z hz (hz ▸ P_rain hO p1 (hz ▸ hg))
theorem o_sun (h : OKJ l D cy wI J cc nL y0 R) (hy : y0.cls = RL) (hO : OBx G M X A b hh n sv t k) {p1 : Int32} (hR : rm_X7_sun.frames + 1 ≤ R.frames ∧ 8 + (2 + 11) + rm_X7_sun.locals ≤ R.locals) (hroom : (rest.map fun v => v.category).sum ≤ 8) (hf : q.1 ≤ R.cells ∧ q.2 ≤ R.slots) (hdg : decode cc pc = .ok (.invokevirtual 56, 3)) (kk : ∀ z, z = f_X7_sun G M X A p1 → RES G M X A b hh n sv t k z (fun a => vp_in a 10) → J (wr ++ CW cy L ((va_up z.2.1 0 z.2.2.1, z.2.2.2.1, z.2.2.2.2), b)) q lv (pc + 3) (.int z.1 :: rest)) : J (wr ++ CW cy L ((va_up G 0 M, X, A), b)) q lv pc (.int p1 :: .ref (L 11 0) :: rest) := by
  refine j_bI h (n := 1) (c_X7_sun l D cy L G X A b M p1 hO.gi hO.k6 hO.f2) (wr := wr) rfl (by rw [hy]; exact xg_V (xr_31 14 rfl) (xr_31 15 rfl) (xr_31 16 rfl) (xr_1 2 rfl) (xr_31 17 rfl)) rfl rfl (by decide +kernel) hR (330 + 0) (ml_get 0) rfl rfl rfl rfl hroom hdg ⟨hf.1, hf.2⟩ (fun r v hq => ?_)
  obtain ⟨z, hz, rfl, rfl, hg⟩ := hq
  exact kk z hz (hz ▸ P_sun hO p1 (hz ▸ hg))
theorem o_brew (h : OKJ l D cy wI J cc nL y0 R) (hy : y0.cls = RL) (hO : OBx G M X A b hh n sv t k) {p1 : Int32} (hR : rm_X7_brew.frames + 1 ≤ R.frames ∧ 8 + (2 + 11) + rm_X7_brew.locals ≤ R.locals) (hroom : (rest.map fun v => v.category).sum ≤ 8) (hf : q.1 ≤ R.cells ∧ q.2 ≤ R.slots) (hdg : decode cc pc = .ok (.invokevirtual 137, 3)) (kk : ∀ z, z = f_X7_brew G M X A p1 → RES G M X A b hh n sv t k z (fun a => vp_in a 41) → J (wr ++ CW cy L ((va_up z.2.1 0 z.2.2.1, z.2.2.2.1, z.2.2.2.2), b)) q lv (pc + 3) (.int z.1 :: rest)) : J (wr ++ CW cy L ((va_up G 0 M, X, A), b)) q lv pc (.int p1 :: .ref (L 11 0) :: rest) := by
  refine j_bI h (n := 1) (c_X7_brew l D cy L G X A b M p1 hO.gi hO.k6 hO.f2) (wr := wr) rfl (by rw [hy]; exact xg_V (xr_31 1 rfl) (xr_31 2 rfl) (xr_31 3 rfl) (xr_1 2 rfl) (xr_31 4 rfl)) rfl rfl (by decide +kernel) hR (330 + 0) (ml_get 0) rfl rfl rfl rfl hroom hdg ⟨hf.1, hf.2⟩ (fun r v hq => ?_)
  obtain ⟨z, hz, rfl, rfl, hg⟩ := hq
  exact kk z hz (hz ▸ P_brew hO p1 (hz ▸ hg))
theorem o_tea (h : OKJ l D cy wI J cc nL y0 R) (hy : y0.cls = RL) (hO : OBx G M X A b hh n sv t k) {p1 : Int32} (hR : rm_X7_tea.frames + 1 ≤ R.frames ∧ 8 + (2 + 11) + rm_X7_tea.locals ≤ R.locals) (hroom : (rest.map fun v => v.category).sum ≤ 8) (hf : q.1 ≤ R.cells ∧ q.2 ≤ R.slots) (hdg : decode cc pc = .ok (.invokevirtual 140, 3)) (kk : ∀ z, z = f_X7_tea G M X A p1 → RES G M X A b hh n sv t k z (fun a => vp_in a 11) → J (wr ++ CW cy L ((va_up z.2.1 0 z.2.2.1, z.2.2.2.1, z.2.2.2.2), b)) q lv (pc + 3) (.int z.1 :: rest)) : J (wr ++ CW cy L ((va_up G 0 M, X, A), b)) q lv pc (.int p1 :: .ref (L 11 0) :: rest) := by
  refine j_bI h (n := 1) (c_X7_tea l D cy L G X A b M p1 hO.gi hO.k6 hO.f2) (wr := wr) rfl (by rw [hy]; exact xg_V (xr_30 12 rfl) (xr_30 13 rfl) (xr_30 14 rfl) (xr_1 2 rfl) (xr_30 15 rfl)) rfl rfl (by decide +kernel) hR (330 + 0) (ml_get 0) rfl rfl rfl rfl hroom hdg ⟨hf.1, hf.2⟩ (fun r v hq => ?_)
  obtain ⟨z, hz, rfl, rfl, hg⟩ := hq
  exact kk z hz (hz ▸ P_tea hO p1 (hz ▸ hg))
theorem o_hour (h : OKJ l D cy wI J cc nL y0 R) (hy : y0.cls = RL) (hO : OBx G M X A b hh n sv t k) {p1 : Int32} (hR : rm_X7_hour.frames + 1 ≤ R.frames ∧ 8 + (2 + 11) + rm_X7_hour.locals ≤ R.locals) (hroom : (rest.map fun v => v.category).sum ≤ 8) (hf : q.1 ≤ R.cells ∧ q.2 ≤ R.slots) (hdg : decode cc pc = .ok (.invokevirtual 59, 3)) (kk : ∀ z, z = f_X7_hour G M X A p1 → RES G M X A b hh n sv t k z (fun a => vp_in a 37) → J (wr ++ CW cy L ((va_up z.2.1 0 z.2.2.1, z.2.2.2.1, z.2.2.2.2), b)) q lv (pc + 3) (.int z.1 :: rest)) : J (wr ++ CW cy L ((va_up G 0 M, X, A), b)) q lv pc (.int p1 :: .ref (L 11 0) :: rest) := by
  refine j_bI h (n := 1) (c_X7_hour l D cy L G X A b M p1 hO.gi hO.k6 hO.f2) (wr := wr) rfl (by rw [hy]; exact xg_V (xr_8 15 rfl) (xr_8 16 rfl) (xr_8 17 rfl) (xr_1 2 rfl) (xr_8 18 rfl)) rfl rfl (by decide +kernel) hR (330 + 0) (ml_get 0) rfl rfl rfl rfl hroom hdg ⟨hf.1, hf.2⟩ (fun r v hq => ?_)
  obtain ⟨z, hz, rfl, rfl, hg⟩ := hq
  exact kk z hz (hz ▸ P_hour hO p1 (hz ▸ hg))
theorem o_undo (h : OKJ l D cy wI J cc nL y0 R) (hy : y0.cls = RL) (hO : OBx G M X A b hh n sv t k) (hR : rm_X7_undo.frames + 1 ≤ R.frames ∧ 8 + (1 + 11) + rm_X7_undo.locals ≤ R.locals) (hroom : (rest.map fun v => v.category).sum ≤ 8) (hf : q.1 ≤ R.cells ∧ q.2 ≤ R.slots) (hdg : decode cc pc = .ok (.invokevirtual 186, 3)) (kk : ∀ z, z = f_X7_undo G M X A → J (wr ++ CW cy L ((va_up G 0 z.2.1, z.2.2, A), b)) q lv (pc + 3) (.int z.1 :: rest)) : J (wr ++ CW cy L ((va_up G 0 M, X, A), b)) q lv pc (.ref (L 11 0) :: rest) := by
  refine j_bI h (n := 0) (c_X7_undo l D cy L G X A b M hO.f2 hO.gb) (wr := wr) rfl (by rw [hy]; exact xg_V (xr_6 6 rfl) (xr_6 7 rfl) (xr_6 8 rfl) (xr_1 2 rfl) (xr_6 9 rfl)) rfl rfl (by decide +kernel) hR (330 + 0) (ml_get 0) rfl rfl rfl rfl hroom hdg ⟨hf.1, hf.2⟩ (fun r v hq => ?_)
  obtain ⟨z, hz, rfl, rfl⟩ := hq
  exact kk z hz
theorem o_restore (h : OKJ l D cy wI J cc nL y0 R) (hy : y0.cls = RL) (hO : OBx G M X A b hh n sv t k) (hR : rm_X7_restore.frames + 1 ≤ R.frames ∧ 8 + (1 + 11) + rm_X7_restore.locals ≤ R.locals) (hroom : (rest.map fun v => v.category).sum ≤ 8) (hf : q.1 ≤ R.cells ∧ q.2 ≤ R.slots) (hdg : decode cc pc = .ok (.invokevirtual 189, 3)) (kk : ∀ z, z = f_X7_restore G M X A → J (wr ++ CW cy L ((va_up G 0 z.2.1, z.2.2, A), b)) q lv (pc + 3) (.int z.1 :: rest)) : J (wr ++ CW cy L ((va_up G 0 M, X, A), b)) q lv pc (.ref (L 11 0) :: rest) := by
  refine j_bI h (n := 0) (c_X7_restore l D cy L G X A b M hO.g1) (wr := wr) rfl (by rw [hy]; exact xg_V (xr_8 1 rfl) (xr_8 2 rfl) (xr_8 3 rfl) (xr_1 2 rfl) (xr_8 4 rfl)) rfl rfl (by decide +kernel) hR (330 + 0) (ml_get 0) rfl rfl rfl rfl hroom hdg ⟨hf.1, hf.2⟩ (fun r v hq => ?_)
  obtain ⟨z, hz, rfl, rfl⟩ := hq
  exact kk z hz
theorem o_save (h : OKJ l D cy wI J cc nL y0 R) (hy : y0.cls = RL) (hO : OBx G M X A b hh n sv t k) (hR : rm_X7_save.frames + 1 ≤ R.frames ∧ 8 + (1 + 11) + rm_X7_save.locals ≤ R.locals) (hroom : (rest.map fun v => v.category).sum ≤ 8) (hf : q.1 ≤ R.cells ∧ q.2 ≤ R.slots) (hdg : decode cc pc = .ok (.invokevirtual 192, 3)) (kk : ∀ z, z = f_X7_save G M X A → J (wr ++ CW cy L ((va_up z.2.1 0 M, z.2.2, A), b)) q lv (pc + 3) (.int z.1 :: rest)) : J (wr ++ CW cy L ((va_up G 0 M, X, A), b)) q lv pc (.ref (L 11 0) :: rest) := by
  refine j_bI h (n := 0) (c_X7_save l D cy L G X A b M hO.gi) (wr := wr) rfl (by rw [hy]; exact xg_V (xr_8 11 rfl) (xr_8 12 rfl) (xr_8 13 rfl) (xr_1 2 rfl) (xr_8 14 rfl)) rfl rfl (by decide +kernel) hR (330 + 0) (ml_get 0) rfl rfl rfl rfl hroom hdg ⟨hf.1, hf.2⟩ (fun r v hq => ?_)
  obtain ⟨z, hz, rfl, rfl⟩ := hq
  exact kk z hz
theorem o_clear (h : OKJ l D cy wI J cc nL y0 R) (hy : y0.cls = RL) (hO : OBx G M X A b hh n sv t k) (hR : rm_X7_clear.frames + 1 ≤ R.frames ∧ 8 + (2 + 11) + rm_X7_clear.locals ≤ R.locals) (hroom : (rest.map fun v => v.category).sum ≤ 8) (hf : q.1 ≤ R.cells ∧ q.2 ≤ R.slots) (hdg : decode cc pc = .ok (.invokevirtual 202, 3)) (kk : ∀ z, z = f_X7_clear M X A → J (wr ++ CW cy L ((va_up G 0 z.2.1, z.2.2, A), b)) q lv (pc + 3) (.int z.1 :: rest)) : J (wr ++ CW cy L ((va_up G 0 M, X, A), b)) q lv pc (.ref (L 11 0) :: rest) := by
  refine j_bI h (n := 0) (c_X7_clear l D cy L G X A b M hO.gi) (wr := wr) rfl (by rw [hy]; exact xg_V (xr_37 19 rfl) (xr_37 20 rfl) (xr_37 21 rfl) (xr_1 2 rfl) (xr_37 22 rfl)) rfl rfl (by decide +kernel) hR (330 + 0) (ml_get 0) rfl rfl rfl rfl hroom hdg ⟨hf.1, hf.2⟩ (fun r v hq => ?_)
  obtain ⟨z, hz, rfl, rfl, -⟩ := hq
  exact kk z hz
theorem o_script (h : OKJ l D cy wI J cc nL y0 R) (hy : y0.cls = RL) (hO : OBx G M X A b hh n sv t k) (hR : rm_X7_script.frames + 1 ≤ R.frames ∧ 8 + (2 + 11) + rm_X7_script.locals ≤ R.locals) (hroom : (rest.map fun v => v.category).sum ≤ 8) (hf : q.1 ≤ R.cells ∧ q.2 ≤ R.slots) (hdg : decode cc pc = .ok (.invokevirtual 23, 3)) (kk : ∀ (a1 : Nat) (f1 : Nat → Int32) z, z = f_X7_script G M X A f1 → sb_Fit f1 → GI z.2.2.1 → J (wr ++ CW cy L ((va_up z.2.1 0 z.2.2.1, z.2.2.2.1, z.2.2.2.2), (a1, b.2.1, b.2.2))) q lv (pc + 3) (.int z.1 :: rest)) : J (wr ++ CW cy L ((va_up G 0 M, X, A), b)) q lv pc (.ref (L 11 0) :: rest) := by
  refine j_bI h (n := 0) (c_X7_script l D cy L G X A b M hO.gi hO.k6 hO.f2 hO.gf hO.inp) (wr := wr) rfl (by rw [hy]; exact xg_V (xr_16 20 rfl) (xr_16 21 rfl) (xr_16 22 rfl) (xr_1 2 rfl) (xr_16 23 rfl)) rfl rfl (by decide +kernel) hR (330 + 0) (ml_get 0) rfl rfl rfl rfl hroom hdg ⟨hf.1, hf.2⟩ (fun r v hq => ?_)
  obtain ⟨a1, f1, z, hz, rfl, rfl, h1, h2⟩ := hq
  exact kk a1 f1 z hz h1 h2
theorem o_appendBad (h : OKJ l D cy wI J cc nL y0 R) (hy : y0.cls = RL) (hO : OBx G M X A b hh n sv t k) {p1 : Int32} (hp : p1 < 32 ∨ 126 < p1 ∨ 60 ≤ k) (hR : 6 + 1 ≤ R.frames ∧ 8 + (2 + 11) + 150 ≤ R.locals) (hroom : (rest.map fun v => v.category).sum ≤ 8) (hf : q.1 + 1 ≤ R.cells ∧ q.2 + 222 ≤ R.slots) (hdg : decode cc pc = .ok (.invokevirtual 17, 3)) (kk : J (wr ++ CW cy L ((va_up G 0 M, X, A), b)) (q.1 + 1, q.2 + 222) lv (pc + 3) (.int (-2) :: rest)) : J (wr ++ CW cy L ((va_up G 0 M, X, A), b)) q lv pc (.int p1 :: .ref (L 11 0) :: rest) := by
  have hke := kE_le (k + 1) b.2.1
  have hse := sE_le (q := k + 1) (m := b.2.1) (by have := hO.k60; omega)
  refine j_bI h (n := 1) (c_X7_append l D cy L G X A b M p1 hO.x7 hO.tx) (wr := wr) rfl (by rw [hy]; exact xg_V (xr_12 16 rfl) (xr_12 17 rfl) (xr_12 18 rfl) (xr_1 2 rfl) (xr_12 19 rfl)) rfl rfl (by decide +kernel) hR (330 + 0) (ml_get 0) rfl rfl rfl rfl hroom hdg ⟨by omega, by omega⟩ (fun r v hq => ?_)
  refine j_widen h (k := q.1 + 1) (n := q.2 + 222) (by show q.1 + kE (k + 1) b.2.1 ≤ _; omega) (by show q.2 + sE (k + 1) b.2.1 ≤ _; omega) ?_
  rcases hq with ⟨rfl, -, rfl⟩ | ⟨ch, rfl, h1, h2, h3, -⟩
  · exact kk
  · exfalso
    rcases hp with e | e | e
    · exact absurd ((nI_ltI (a := ch) (b := 32) (by omega) (by decide)).mp e) (by omega)
    · exact absurd ((nI_ltI (a := 126) (b := ch) (by decide) (by omega)).mp e) (by omega)
    · omega
theorem o_append (h : OKJ l D cy wI J cc nL y0 R) (hy : y0.cls = RL) (hO : OBx G M X A b hh n sv t k) {p1 : Int32} {ch : Nat} (hp : p1 = nI ch) (h32 : 32 ≤ ch) (h126 : ch ≤ 126) (hk60 : k < 60) (hR : 6 + 1 ≤ R.frames ∧ 8 + (2 + 11) + 150 ≤ R.locals) (hroom : (rest.map fun v => v.category).sum ≤ 8) (hf : q.1 + 1 ≤ R.cells ∧ q.2 + 222 ≤ R.slots) (hdg : decode cc pc = .ok (.invokevirtual 17, 3)) (kk : ∀ (X' : Nat → Int32) (A' : Nat → Nat → Int32) (b' : cB), OBx G M X' A' b' hh n sv (fun j => if j = k then ch else t j) (k + 1) → (∀ i, i ≠ 7 → X' i = X i) → (∀ i, i ≠ 4 → A' i = A i) → J (wr ++ CW cy L ((va_up G 0 M, X', A'), b')) (q.1 + 1, q.2 + 222) lv (pc + 3) (.int (nI (k + 1)) :: rest)) : J (wr ++ CW cy L ((va_up G 0 M, X, A), b)) q lv pc (.int p1 :: .ref (L 11 0) :: rest) := by
  have hke := kE_le (k + 1) b.2.1
  have hse := sE_le (q := k + 1) (m := b.2.1) (by have := hO.k60; omega)
  refine j_bI h (n := 1) (c_X7_append l D cy L G X A b M p1 hO.x7 hO.tx) (wr := wr) rfl (by rw [hy]; exact xg_V (xr_12 16 rfl) (xr_12 17 rfl) (xr_12 18 rfl) (xr_1 2 rfl) (xr_12 19 rfl)) rfl rfl (by decide +kernel) hR (330 + 0) (ml_get 0) rfl rfl rfl rfl hroom hdg ⟨by omega, by omega⟩ (fun r v hq => ?_)
  refine j_widen h (k := q.1 + 1) (n := q.2 + 222) (by show q.1 + kE (k + 1) b.2.1 ≤ _; omega) (by show q.2 + sE (k + 1) b.2.1 ≤ _; omega) ?_
  subst hp
  rcases hq with ⟨-, e, -⟩ | ⟨ch1, e0, h1, h2, h3, rfl, a1, f1, rfl, g1, g2, g3⟩
  · exfalso
    rcases e with e | e | e
    · exact absurd ((nI_ltI (a := ch) (b := 32) (by omega) (by decide)).mp e) (by omega)
    · exact absurd ((nI_ltI (a := 126) (b := ch) (by decide) (by omega)).mp e) (by omega)
    · omega
  · have ec : ch = ch1 := by
      have e1 := congrArg Int32.toNatClampNeg e0
      rw [nI_clamp (by omega), nI_clamp (by omega)] at e1
      exact e1
    subst ec
    refine kk _ _ _ (hO.app (a1 := a1) h1 h2 hk60 g1 g2 g3) (fun i hi => ?_) (fun i hi => if_neg hi)
    show upd (upd X 9 (X 9)) 7 (nI (k + 1)) i = X i
    rw [upd_ne _ _ hi]
    by_cases e : i = 9
    · rw [e, upd_eq]
    · rw [upd_ne _ _ e]
theorem g_describe (h : OKJ l D cy wI J cc nL y0 R) (hy : y0.cls = RL) (hO : OBx G M X A b hh n sv t k) {p1 : Int32} (hR : rm_X7_describe.frames + 1 ≤ R.frames ∧ 8 + (5 + 11) + rm_X7_describe.locals ≤ R.locals) (hroom : (rest.map fun v => v.category).sum ≤ 8) (hf : q.1 + 40 ≤ R.cells ∧ q.2 + 8880 ≤ R.slots) (hdg : decode cc pc = .ok (.invokevirtual 30, 3))
    (kk : ∀ (X' : Nat → Int32) (A' : Nat → Nat → Int32) (b' : cB), OBx G M X' A' b' hh n sv t k → (∀ i, i ≠ 8 → i ≠ 10 → X' i = X i) → (∀ i, i ≠ 5 → A' i = A i) → (¬ f_X1_isRink M p1 = 0 → LK X A b (f_X7_describe M p1).2 X' A' b') → J (wr ++ CW cy L ((va_up G 0 M, X', A'), b')) (q.1 + 40, q.2 + 8880) lv (pc + 3) (.int (f_X7_describe M p1).1 :: rest)) : J (wr ++ CW cy L ((va_up G 0 M, X, A), b)) q lv pc (.int p1 :: .ref (L 11 0) :: rest) := by
  obtain ⟨f, hGR⟩ := hO.ok
  have hO' := hO
  obtain ⟨-, -, -, -, -, -, nl, hnl, e8, hln⟩ := hO'
  refine j_bI h (n := 1) (c_X7_describe2 l D cy L G X A b M p1 nl e8 hln hO.gi (dsc_r hGR) (dsc_w hGR) (lying_8 hGR)) (wr := wr) rfl (by rw [hy]; exact xg_V (xr_34 0 rfl) (xr_34 1 rfl) (xr_34 2 rfl) (xr_1 2 rfl) (xr_34 3 rfl)) rfl rfl (by decide +kernel) hR (330 + 0) (ml_get 0) rfl rfl rfl rfl hroom hdg hf (fun r v hq => ?_)
  obtain ⟨z, rfl, rfl, ⟨-, hr, rfl⟩ | ⟨hr, X9, A9, b9, rfl, hL⟩⟩ := hq
  · exact kk X A b hO (fun _ _ _ => rfl) (fun _ _ => rfl) (fun c => absurd hr c)
  · exact kk X9 A9 b9 (hO.line hL (desc_len hGR p1)) hL.1 hL.2.1 (fun _ => hL)
end BC
