section
-- ===== PART A: goes FIRST, ahead of the names: the tables' words, and 'selects' of the private methods out of them =====
/-- a private method of a class that the tables say can be made, by its rows of tables_1 -/
def lw_okq (q : MethodName × Nat) : Prop := (q.1.cls ≠ "java/lang/invoke/MethodHandle" ∧ q.1.cls ≠ "java/lang/invoke/VarHandle") ∧ Cond.instantiable q.1.cls q.2 ∈ tables_1 ∧ Cond.privateMethod q.1 ∈ tables_1 ∧ Cond.instanceMethod q.1 ∈ tables_1
theorem lw_p0 : lw_okq (⟨"BowlsGreen", "layRink", "(II)I"⟩, 9) := ⟨⟨by decide +kernel, by decide +kernel⟩, List.mem_of_getElem? (i := 23) (by decide +kernel), List.mem_of_getElem? (i := 470) (by decide +kernel), List.mem_of_getElem? (i := 471) (by decide +kernel)⟩
theorem lw_p1 : lw_okq (⟨"BowlsGreen", "refuse", "(II)I"⟩, 9) := ⟨⟨by decide +kernel, by decide +kernel⟩, List.mem_of_getElem? (i := 23) (by decide +kernel), List.mem_of_getElem? (i := 474) (by decide +kernel), List.mem_of_getElem? (i := 475) (by decide +kernel)⟩
theorem lw_p2 : lw_okq (⟨"BowlsGreen", "settle", "(I)I"⟩, 9) := ⟨⟨by decide +kernel, by decide +kernel⟩, List.mem_of_getElem? (i := 23) (by decide +kernel), List.mem_of_getElem? (i := 494) (by decide +kernel), List.mem_of_getElem? (i := 495) (by decide +kernel)⟩
theorem lw_p3 : lw_okq (⟨"BowlsGreen", "addWood", "(II)I"⟩, 9) := ⟨⟨by decide +kernel, by decide +kernel⟩, List.mem_of_getElem? (i := 23) (by decide +kernel), List.mem_of_getElem? (i := 510) (by decide +kernel), List.mem_of_getElem? (i := 511) (by decide +kernel)⟩
theorem lw_p4 : lw_okq (⟨"BowlsGreen", "beginEnd", "(II)I"⟩, 9) := ⟨⟨by decide +kernel, by decide +kernel⟩, List.mem_of_getElem? (i := 23) (by decide +kernel), List.mem_of_getElem? (i := 525) (by decide +kernel), List.mem_of_getElem? (i := 526) (by decide +kernel)⟩
theorem lw_p5 : lw_okq (⟨"BowlsGreen$Green", "wetAfter", "(I)I"⟩, 11) := ⟨⟨by decide +kernel, by decide +kernel⟩, List.mem_of_getElem? (i := 31) (by decide +kernel), List.mem_of_getElem? (i := 541) (by decide +kernel), List.mem_of_getElem? (i := 542) (by decide +kernel)⟩
theorem lw_p6 : lw_okq (⟨"BowlsGreen", "refuseWetRink", "(II)I"⟩, 9) := ⟨⟨by decide +kernel, by decide +kernel⟩, List.mem_of_getElem? (i := 23) (by decide +kernel), List.mem_of_getElem? (i := 547) (by decide +kernel), List.mem_of_getElem? (i := 548) (by decide +kernel)⟩
theorem lw_p7 : lw_okq (⟨"BowlsGreen", "bowlWood", "(IIIIZ)I"⟩, 9) := ⟨⟨by decide +kernel, by decide +kernel⟩, List.mem_of_getElem? (i := 23) (by decide +kernel), List.mem_of_getElem? (i := 559) (by decide +kernel), List.mem_of_getElem? (i := 560) (by decide +kernel)⟩
theorem lw_p8 : lw_okq (⟨"BowlsGreen", "isBowlRefused", "(II)Z"⟩, 9) := ⟨⟨by decide +kernel, by decide +kernel⟩, List.mem_of_getElem? (i := 23) (by decide +kernel), List.mem_of_getElem? (i := 574) (by decide +kernel), List.mem_of_getElem? (i := 575) (by decide +kernel)⟩
theorem lw_p9 : lw_okq (⟨"BowlsGreen$Green", "isTaken", "(IIII)Z"⟩, 11) := ⟨⟨by decide +kernel, by decide +kernel⟩, List.mem_of_getElem? (i := 31) (by decide +kernel), List.mem_of_getElem? (i := 583) (by decide +kernel), List.mem_of_getElem? (i := 584) (by decide +kernel)⟩
theorem lw_p10 : lw_okq (⟨"BowlsGreen", "sweepRink", "(I)I"⟩, 9) := ⟨⟨by decide +kernel, by decide +kernel⟩, List.mem_of_getElem? (i := 23) (by decide +kernel), List.mem_of_getElem? (i := 602) (by decide +kernel), List.mem_of_getElem? (i := 603) (by decide +kernel)⟩
theorem lw_p11 : lw_okq (⟨"BowlsGreen", "setRain", "(I)I"⟩, 9) := ⟨⟨by decide +kernel, by decide +kernel⟩, List.mem_of_getElem? (i := 23) (by decide +kernel), List.mem_of_getElem? (i := 614) (by decide +kernel), List.mem_of_getElem? (i := 615) (by decide +kernel)⟩
theorem lw_p12 : lw_okq (⟨"BowlsGreen", "setSun", "(I)I"⟩, 9) := ⟨⟨by decide +kernel, by decide +kernel⟩, List.mem_of_getElem? (i := 23) (by decide +kernel), List.mem_of_getElem? (i := 625) (by decide +kernel), List.mem_of_getElem? (i := 626) (by decide +kernel)⟩
theorem lw_p13 : lw_okq (⟨"BowlsGreen", "brewCups", "(I)I"⟩, 9) := ⟨⟨by decide +kernel, by decide +kernel⟩, List.mem_of_getElem? (i := 23) (by decide +kernel), List.mem_of_getElem? (i := 633) (by decide +kernel), List.mem_of_getElem? (i := 634) (by decide +kernel)⟩
theorem lw_p14 : lw_okq (⟨"BowlsGreen", "giveTea", "(I)I"⟩, 9) := ⟨⟨by decide +kernel, by decide +kernel⟩, List.mem_of_getElem? (i := 23) (by decide +kernel), List.mem_of_getElem? (i := 642) (by decide +kernel), List.mem_of_getElem? (i := 643) (by decide +kernel)⟩
theorem lw_p15 : lw_okq (⟨"BowlsGreen", "passHours", "(I)I"⟩, 9) := ⟨⟨by decide +kernel, by decide +kernel⟩, List.mem_of_getElem? (i := 23) (by decide +kernel), List.mem_of_getElem? (i := 650) (by decide +kernel), List.mem_of_getElem? (i := 651) (by decide +kernel)⟩
def lw_privs_1 : List (MethodName × Nat) := [(⟨"BowlsGreen", "layRink", "(II)I"⟩, 9), (⟨"BowlsGreen", "refuse", "(II)I"⟩, 9), (⟨"BowlsGreen", "settle", "(I)I"⟩, 9), (⟨"BowlsGreen", "addWood", "(II)I"⟩, 9), (⟨"BowlsGreen", "beginEnd", "(II)I"⟩, 9), (⟨"BowlsGreen$Green", "wetAfter", "(I)I"⟩, 11), (⟨"BowlsGreen", "refuseWetRink", "(II)I"⟩, 9), (⟨"BowlsGreen", "bowlWood", "(IIIIZ)I"⟩, 9), (⟨"BowlsGreen", "isBowlRefused", "(II)Z"⟩, 9), (⟨"BowlsGreen$Green", "isTaken", "(IIII)Z"⟩, 11), (⟨"BowlsGreen", "sweepRink", "(I)I"⟩, 9), (⟨"BowlsGreen", "setRain", "(I)I"⟩, 9), (⟨"BowlsGreen", "setSun", "(I)I"⟩, 9), (⟨"BowlsGreen", "brewCups", "(I)I"⟩, 9), (⟨"BowlsGreen", "giveTea", "(I)I"⟩, 9), (⟨"BowlsGreen", "passHours", "(I)I"⟩, 9)]
theorem lw_r1 : ∀ q ∈ lw_privs_1, lw_okq q := List.forall_mem_cons.mpr ⟨lw_p0, List.forall_mem_cons.mpr ⟨lw_p1, List.forall_mem_cons.mpr ⟨lw_p2, List.forall_mem_cons.mpr ⟨lw_p3, List.forall_mem_cons.mpr ⟨lw_p4, List.forall_mem_cons.mpr ⟨lw_p5, List.forall_mem_cons.mpr ⟨lw_p6, List.forall_mem_cons.mpr ⟨lw_p7, List.forall_mem_cons.mpr ⟨lw_p8, List.forall_mem_cons.mpr ⟨lw_p9, List.forall_mem_cons.mpr ⟨lw_p10, List.forall_mem_cons.mpr ⟨lw_p11, List.forall_mem_cons.mpr ⟨lw_p12, List.forall_mem_cons.mpr ⟨lw_p13, List.forall_mem_cons.mpr ⟨lw_p14, List.forall_mem_cons.mpr ⟨lw_p15, fun _ h => absurd h List.not_mem_nil⟩⟩⟩⟩⟩⟩⟩⟩⟩⟩⟩⟩⟩⟩⟩⟩
theorem lw_p16 : lw_okq (⟨"BowlsGreen$Orders", "readOrder", "(Ljava/lang/StringBuilder;I)Z"⟩, 4) := ⟨⟨by decide +kernel, by decide +kernel⟩, List.mem_of_getElem? (i := 265) (by decide +kernel), List.mem_of_getElem? (i := 676) (by decide +kernel), List.mem_of_getElem? (i := 677) (by decide +kernel)⟩
theorem lw_p17 : lw_okq (⟨"BowlsGreen$Orders", "readPart", "(Ljava/lang/StringBuilder;II)Z"⟩, 4) := ⟨⟨by decide +kernel, by decide +kernel⟩, List.mem_of_getElem? (i := 265) (by decide +kernel), List.mem_of_getElem? (i := 730) (by decide +kernel), List.mem_of_getElem? (i := 731) (by decide +kernel)⟩
theorem lw_p18 : lw_okq (⟨"BowlsGreen$Orders", "readDigits", "(Ljava/lang/StringBuilder;II)Z"⟩, 4) := ⟨⟨by decide +kernel, by decide +kernel⟩, List.mem_of_getElem? (i := 265) (by decide +kernel), List.mem_of_getElem? (i := 734) (by decide +kernel), List.mem_of_getElem? (i := 735) (by decide +kernel)⟩
theorem lw_p19 : lw_okq (⟨"BowlsGreen$Orders", "readSide", "(Ljava/lang/StringBuilder;I)Z"⟩, 4) := ⟨⟨by decide +kernel, by decide +kernel⟩, List.mem_of_getElem? (i := 265) (by decide +kernel), List.mem_of_getElem? (i := 741) (by decide +kernel), List.mem_of_getElem? (i := 742) (by decide +kernel)⟩
theorem lw_p20 : lw_okq (⟨"BowlsGreen$Orders", "readSign", "(Ljava/lang/StringBuilder;I)Z"⟩, 4) := ⟨⟨by decide +kernel, by decide +kernel⟩, List.mem_of_getElem? (i := 265) (by decide +kernel), List.mem_of_getElem? (i := 745) (by decide +kernel), List.mem_of_getElem? (i := 746) (by decide +kernel)⟩
theorem lw_p21 : lw_okq (⟨"BowlsGreen", "carryOutOrders", "()I"⟩, 9) := ⟨⟨by decide +kernel, by decide +kernel⟩, List.mem_of_getElem? (i := 23) (by decide +kernel), List.mem_of_getElem? (i := 752) (by decide +kernel), List.mem_of_getElem? (i := 753) (by decide +kernel)⟩
theorem lw_p22 : lw_okq (⟨"BowlsGreen", "carryOut", "(I)I"⟩, 9) := ⟨⟨by decide +kernel, by decide +kernel⟩, List.mem_of_getElem? (i := 23) (by decide +kernel), List.mem_of_getElem? (i := 756) (by decide +kernel), List.mem_of_getElem? (i := 757) (by decide +kernel)⟩
theorem lw_p23 : lw_okq (⟨"BowlsGreen", "closeEnd", "(I)I"⟩, 9) := ⟨⟨by decide +kernel, by decide +kernel⟩, List.mem_of_getElem? (i := 23) (by decide +kernel), List.mem_of_getElem? (i := 764) (by decide +kernel), List.mem_of_getElem? (i := 765) (by decide +kernel)⟩
theorem lw_p24 : lw_okq (⟨"BowlsGreen$Green", "leastDistance", "(II)I"⟩, 11) := ⟨⟨by decide +kernel, by decide +kernel⟩, List.mem_of_getElem? (i := 31) (by decide +kernel), List.mem_of_getElem? (i := 772) (by decide +kernel), List.mem_of_getElem? (i := 773) (by decide +kernel)⟩
theorem lw_p25 : lw_okq (⟨"BowlsGreen$Green", "woodsNearerThan", "(III)I"⟩, 11) := ⟨⟨by decide +kernel, by decide +kernel⟩, List.mem_of_getElem? (i := 31) (by decide +kernel), List.mem_of_getElem? (i := 777) (by decide +kernel), List.mem_of_getElem? (i := 778) (by decide +kernel)⟩
theorem lw_p26 : lw_okq (⟨"BowlsGreen", "refuseScript", "(II)I"⟩, 9) := ⟨⟨by decide +kernel, by decide +kernel⟩, List.mem_of_getElem? (i := 23) (by decide +kernel), List.mem_of_getElem? (i := 793) (by decide +kernel), List.mem_of_getElem? (i := 794) (by decide +kernel)⟩
theorem lw_p27 : lw_okq (⟨"BowlsGreen", "keepFault", "()I"⟩, 9) := ⟨⟨by decide +kernel, by decide +kernel⟩, List.mem_of_getElem? (i := 23) (by decide +kernel), List.mem_of_getElem? (i := 797) (by decide +kernel), List.mem_of_getElem? (i := 798) (by decide +kernel)⟩
theorem lw_p28 : lw_okq (⟨"BowlsGreen$Green", "woodsBefore", "(II)I"⟩, 11) := ⟨⟨by decide +kernel, by decide +kernel⟩, List.mem_of_getElem? (i := 31) (by decide +kernel), List.mem_of_getElem? (i := 1012) (by decide +kernel), List.mem_of_getElem? (i := 1013) (by decide +kernel)⟩
theorem lw_p29 : lw_okq (⟨"BowlsGreen", "writeWood", "(I)V"⟩, 9) := ⟨⟨by decide +kernel, by decide +kernel⟩, List.mem_of_getElem? (i := 23) (by decide +kernel), List.mem_of_getElem? (i := 1016) (by decide +kernel), List.mem_of_getElem? (i := 1017) (by decide +kernel)⟩
theorem lw_p30 : lw_okq (⟨"BowlsGreen$Green", "isMatched", "(ILBowlsGreen$Wood;)Z"⟩, 11) := ⟨⟨by decide +kernel, by decide +kernel⟩, List.mem_of_getElem? (i := 31) (by decide +kernel), List.mem_of_getElem? (i := 1077) (by decide +kernel), List.mem_of_getElem? (i := 1078) (by decide +kernel)⟩
def lw_privs_2 : List (MethodName × Nat) := [(⟨"BowlsGreen$Orders", "readOrder", "(Ljava/lang/StringBuilder;I)Z"⟩, 4), (⟨"BowlsGreen$Orders", "readPart", "(Ljava/lang/StringBuilder;II)Z"⟩, 4), (⟨"BowlsGreen$Orders", "readDigits", "(Ljava/lang/StringBuilder;II)Z"⟩, 4), (⟨"BowlsGreen$Orders", "readSide", "(Ljava/lang/StringBuilder;I)Z"⟩, 4), (⟨"BowlsGreen$Orders", "readSign", "(Ljava/lang/StringBuilder;I)Z"⟩, 4), (⟨"BowlsGreen", "carryOutOrders", "()I"⟩, 9), (⟨"BowlsGreen", "carryOut", "(I)I"⟩, 9), (⟨"BowlsGreen", "closeEnd", "(I)I"⟩, 9), (⟨"BowlsGreen$Green", "leastDistance", "(II)I"⟩, 11), (⟨"BowlsGreen$Green", "woodsNearerThan", "(III)I"⟩, 11), (⟨"BowlsGreen", "refuseScript", "(II)I"⟩, 9), (⟨"BowlsGreen", "keepFault", "()I"⟩, 9), (⟨"BowlsGreen$Green", "woodsBefore", "(II)I"⟩, 11), (⟨"BowlsGreen", "writeWood", "(I)V"⟩, 9), (⟨"BowlsGreen$Green", "isMatched", "(ILBowlsGreen$Wood;)Z"⟩, 11)]
theorem lw_r2 : ∀ q ∈ lw_privs_2, lw_okq q := List.forall_mem_cons.mpr ⟨lw_p16, List.forall_mem_cons.mpr ⟨lw_p17, List.forall_mem_cons.mpr ⟨lw_p18, List.forall_mem_cons.mpr ⟨lw_p19, List.forall_mem_cons.mpr ⟨lw_p20, List.forall_mem_cons.mpr ⟨lw_p21, List.forall_mem_cons.mpr ⟨lw_p22, List.forall_mem_cons.mpr ⟨lw_p23, List.forall_mem_cons.mpr ⟨lw_p24, List.forall_mem_cons.mpr ⟨lw_p25, List.forall_mem_cons.mpr ⟨lw_p26, List.forall_mem_cons.mpr ⟨lw_p27, List.forall_mem_cons.mpr ⟨lw_p28, List.forall_mem_cons.mpr ⟨lw_p29, List.forall_mem_cons.mpr ⟨lw_p30, fun _ h => absurd h List.not_mem_nil⟩⟩⟩⟩⟩⟩⟩⟩⟩⟩⟩⟩⟩⟩⟩
def lw_privs : List (MethodName × Nat) := lw_privs_1 ++ (lw_privs_2)
def lw_tbl0 : List Cond := k2_sels lw_privs ++ tables_1
theorem lw_privs_ok : ∀ q ∈ lw_privs, lw_okq q := by
  show ∀ q ∈ lw_privs_1 ++ (lw_privs_2), lw_okq q
  exact List.forall_mem_append.mpr ⟨lw_r1, lw_r2⟩
/-- the streams that the claim lets the run draw from -/
abbrev lw_cs : List Choice := [Jvm.Choice.named "NaN.bits"]
theorem lw_bits : nanBits ∈ lw_cs := by first | decide | exact List.mem_cons_self | simp [lw_cs, nanBits]
/-- a private method of a class above C: what invokevirtual selects for an object of C is that method itself (z: another method of that class, of which the tables say so) -/
theorem xx_selPriv {C : String} {y z : MethodName} {s : State} {args : Array Value} (hy : y.cls ≠ "java/lang/invoke/MethodHandle" ∧ y.cls ≠ "java/lang/invoke/VarHandle") (hzc : z.cls = y.cls)
    (hz : (Cond.selects C z z).before args s = true) (hpriv : (Cond.privateMethod y).before args s = true) (hinst : (Cond.instanceMethod y).before args s = true) :
    (Cond.selects C y y).before args s = true := by
  obtain ⟨c, r, mz, hc, -, hmz, -, kk, hkk, hni⟩ := Cond.selects_spec hz
  obtain ⟨mk, methM, hnamed, hmethM, -, -⟩ := Cond.instanceMethod_spec hinst
  have hfound : s.methodFound? y.cls y.name y.desc = some mk := State.methodFound?_of_named hnamed hy
  have hcls : mk.cls = mz.cls := Option.some.inj ((findClass_of_methodNamed hnamed).symm.trans (hzc ▸ findClass_of_methodNamed hmz))
  have hsel : selectMethod {} s.vm c mk = .method mk := selectMethod_private hmethM (Cond.privateMethod_at hpriv mk methM hnamed hmethM)
  simp only [Cond.before, Cond.holds, Cond.value, hc, hfound, hnamed, hsel, hcls, hkk]
  simp; exact hni
def xx_asb : String := "java/lang/AbstractStringBuilder"
def xx_lat : MethodName := ⟨xx_asb, "isLatin1", "()Z"⟩
def xx_privs : List MethodName := [⟨xx_asb, "ensureCapacityInternal", "(I)V"⟩, ⟨xx_asb, "newCapacity", "(I)I"⟩, ⟨xx_asb, "inflate", "()V"⟩, ⟨xx_asb, "appendNull", "()Ljava/lang/AbstractStringBuilder;"⟩, ⟨xx_asb, "putStringAt", "(ILjava/lang/String;)V"⟩, ⟨xx_asb, "inflateIfNeededFor", "(Ljava/lang/String;)V"⟩]
def xx_sels : List Cond := xx_privs.map fun y => Cond.selects "java/lang/StringBuilder" y y
def lw_tbl : List Cond := lw_tbl0 ++ xx_sels
theorem xx_okp : (xx_privs.all fun y => decide (y.cls = xx_asb) && decide (Cond.privateMethod y ∈ tables_1) && decide (Cond.instanceMethod y ∈ tables_1)) = true := by decide +kernel
theorem xx_lat_in : Cond.selects "java/lang/StringBuilder" xx_lat xx_lat ∈ tables_1 := by decide +kernel
theorem lw_hts {args : Array Value} {s : State} (h : ∀ w ∈ tables_1, w.before args s = true) : ∀ w ∈ lw_tbl, w.before args s = true := by
  intro w hw
  rcases List.mem_append.mp hw with hw | hw
  · exact k2_hts_sels lw_privs h lw_privs_ok w hw
  · obtain ⟨y, hy, rfl⟩ := List.mem_map.mp hw
    have h1 := List.all_eq_true.mp xx_okp y hy
    simp only [Bool.and_eq_true, decide_eq_true_eq] at h1
    obtain ⟨⟨h1, h2⟩, h3⟩ := h1
    exact xx_selPriv (z := xx_lat) (by rw [h1]; decide) (by rw [h1]; rfl) (h _ xx_lat_in) (h _ h2) (h _ h3)
end
section
/-! ===== BEGIN words of one list among another's, by their places ===== -/
theorem goodIn_r {big : List Cond} (ws : List Cond) (ps : List Nat) (hp : ws = ps.filterMap (fun i => big[i]?)) (h : ws.all goodWord = true) : GoodIn big ws := by
  intro w hw
  have h1 := List.all_eq_true.mp h w hw
  rw [hp] at hw
  obtain ⟨i, -, hi⟩ := List.mem_filterMap.mp hw
  have hm : w ∈ big := by first | exact List.mem_of_getElem? hi | exact List.getElem?_mem hi
  exact ⟨hm, good_of_word h1⟩
theorem goodIn_app {big a b : List Cond} (ha : GoodIn big a) (hb : GoodIn big b) : GoodIn big (a ++ b) := fun w h => (List.mem_append.mp h).elim (ha w) (hb w)
theorem goodIn_ca {big a b : List Cond} {c : Cond} (ha : GoodIn big (c :: a)) (hb : GoodIn big b) : GoodIn big (c :: (a ++ b)) := fun w h => (List.mem_cons.mp h).elim (fun e => ha w (List.mem_cons.mpr (Or.inl e))) (fun h => (List.mem_append.mp h).elim (fun h => ha w (List.mem_cons.mpr (Or.inr h))) (hb w))
theorem goodIn_sub {big ws : List Cond} (hm : ∀ w ∈ ws, w ∈ big) (h : ws.all goodWord = true) : GoodIn big ws := fun w hw => ⟨hm w hw, good_of_word (List.all_eq_true.mp h w hw)⟩
/-! ===== END ===== -/
/-! ===== BEGIN printed: names, fields, word lists, decode rows ===== -/
def RX0 : String := "BowlsGreen$Club"
def TX0 : u_T := fun k => match k with
  | 0 => ("BowlsGreen$Club", "shots", "I", false)
  | 1 => ("BowlsGreen$Club", "ends", "I", false)
  | 2 => ("BowlsGreen$Club", "coins", "I", false)
  | _ => ("BowlsGreen$Club", "teas", "I", false)
def tyX0 : Nat → FieldType := fun k => match k with
  | 0 => .int
  | 1 => .int
  | 2 => .int
  | _ => .int
abbrev wsX00 : List Cond := u_ws RX0 TX0 4
theorem nmX0 : ∀ a, a < 4 → ∀ b, b < 4 → a ≠ b → (TX0 a).2.1 ≠ (TX0 b).2.1 := by decide +kernel
theorem tyX0_ok : ∀ k, k < 4 → parseFieldDescriptor (TX0 k).2.2.1 = some (tyX0 k) := by decide +kernel
abbrev cX0_init : ByteArray := prog_2_method_1_code
def yX0_init : MethodName := ⟨RX0, "<init>", "()V"⟩
abbrev cX0_reset : ByteArray := prog_2_method_2_code
def yX0_reset : MethodName := ⟨RX0, "reset", "()V"⟩
abbrev cX0_become : ByteArray := prog_2_method_3_code
def yX0_become : MethodName := ⟨RX0, "become", "(LBowlsGreen$Club;)V"⟩
def RX1 : String := "BowlsGreen$Green"
def TX1 : u_T := fun k => match k with
  | 0 => ("BowlsGreen$Green", "rinks", "[LBowlsGreen$Rink;", true)
  | 1 => ("BowlsGreen$Green", "woods", "[LBowlsGreen$Wood;", true)
  | 2 => ("BowlsGreen$Green", "clubs", "[LBowlsGreen$Club;", true)
  | 3 => ("BowlsGreen$Green", "rinkCount", "I", false)
  | 4 => ("BowlsGreen$Green", "woodCount", "I", false)
  | 5 => ("BowlsGreen$Green", "hour", "I", false)
  | 6 => ("BowlsGreen$Green", "rain", "I", false)
  | 7 => ("BowlsGreen$Green", "sun", "I", false)
  | 8 => ("BowlsGreen$Green", "cups", "I", false)
  | 9 => ("BowlsGreen$Green", "drunk", "I", false)
  | _ => ("BowlsGreen$Green", "swept", "I", false)
def tyX1 : Nat → FieldType := fun k => match k with
  | 0 => .array (.object "BowlsGreen$Rink")
  | 1 => .array (.object "BowlsGreen$Wood")
  | 2 => .array (.object "BowlsGreen$Club")
  | 3 => .int
  | 4 => .int
  | 5 => .int
  | 6 => .int
  | 7 => .int
  | 8 => .int
  | 9 => .int
  | _ => .int
abbrev wsX10 : List Cond := u_ws RX1 TX1 11
theorem nmX1 : ∀ a, a < 11 → ∀ b, b < 11 → a ≠ b → (TX1 a).2.1 ≠ (TX1 b).2.1 := by decide +kernel
theorem tyX1_ok : ∀ k, k < 11 → parseFieldDescriptor (TX1 k).2.2.1 = some (tyX1 k) := by decide +kernel
abbrev cX1_init : ByteArray := prog_3_method_1_code
def yX1_init : MethodName := ⟨RX1, "<init>", "()V"⟩
abbrev cX1_reset : ByteArray := prog_3_method_2_code
def yX1_reset : MethodName := ⟨RX1, "reset", "()V"⟩
abbrev cX1_become : ByteArray := prog_3_method_3_code
def yX1_become : MethodName := ⟨RX1, "become", "(LBowlsGreen$Green;)V"⟩
abbrev cX1_isRink : ByteArray := prog_3_method_4_code
def yX1_isRink : MethodName := ⟨RX1, "isRink", "(I)Z"⟩
abbrev cX1_isWood : ByteArray := prog_3_method_5_code
def yX1_isWood : MethodName := ⟨RX1, "isWood", "(I)Z"⟩
abbrev cX1_lowestRinkWithin : ByteArray := prog_3_method_6_code
def yX1_lowestRinkWithin : MethodName := ⟨RX1, "lowestRinkWithin", "(II)I"⟩
abbrev cX1_rinkInOrder : ByteArray := prog_3_method_7_code
def yX1_rinkInOrder : MethodName := ⟨RX1, "rinkInOrder", "(I)I"⟩
abbrev cX1_landing : ByteArray := prog_3_method_8_code
def yX1_landing : MethodName := ⟨RX1, "landing", "(IIIIZ)I"⟩
abbrev cX1_isTaken : ByteArray := prog_3_method_9_code
def yX1_isTaken : MethodName := ⟨RX1, "isTaken", "(IIII)Z"⟩
abbrev cX1_woodInOrder : ByteArray := prog_3_method_10_code
def yX1_woodInOrder : MethodName := ⟨RX1, "woodInOrder", "(II)I"⟩
abbrev cX1_woodsBefore : ByteArray := prog_3_method_11_code
def yX1_woodsBefore : MethodName := ⟨RX1, "woodsBefore", "(II)I"⟩
abbrev cX1_countShots : ByteArray := prog_3_method_12_code
def yX1_countShots : MethodName := ⟨RX1, "countShots", "(I)I"⟩
abbrev cX1_leastDistance : ByteArray := prog_3_method_13_code
def yX1_leastDistance : MethodName := ⟨RX1, "leastDistance", "(II)I"⟩
abbrev cX1_woodsNearerThan : ByteArray := prog_3_method_14_code
def yX1_woodsNearerThan : MethodName := ⟨RX1, "woodsNearerThan", "(III)I"⟩
abbrev cX1_countShotsInOrder : ByteArray := prog_3_method_15_code
def yX1_countShotsInOrder : MethodName := ⟨RX1, "countShotsInOrder", "(I)I"⟩
abbrev cX1_isMatched : ByteArray := prog_3_method_16_code
def yX1_isMatched : MethodName := ⟨RX1, "isMatched", "(ILBowlsGreen$Wood;)Z"⟩
abbrev cX1_bringWoodsToShed : ByteArray := prog_3_method_17_code
def yX1_bringWoodsToShed : MethodName := ⟨RX1, "bringWoodsToShed", "(I)V"⟩
abbrev cX1_woodsOn : ByteArray := prog_3_method_18_code
def yX1_woodsOn : MethodName := ⟨RX1, "woodsOn", "(II)I"⟩
abbrev cX1_woodsOfClub : ByteArray := prog_3_method_19_code
def yX1_woodsOfClub : MethodName := ⟨RX1, "woodsOfClub", "(I)I"⟩
abbrev cX1_woodsOfClubInShed : ByteArray := prog_3_method_20_code
def yX1_woodsOfClubInShed : MethodName := ⟨RX1, "woodsOfClubInShed", "(I)I"⟩
abbrev cX1_woodsInShed : ByteArray := prog_3_method_21_code
def yX1_woodsInShed : MethodName := ⟨RX1, "woodsInShed", "()I"⟩
abbrev cX1_woodsBowled : ByteArray := prog_3_method_22_code
def yX1_woodsBowled : MethodName := ⟨RX1, "woodsBowled", "()I"⟩
abbrev cX1_endsPlayed : ByteArray := prog_3_method_23_code
def yX1_endsPlayed : MethodName := ⟨RX1, "endsPlayed", "()I"⟩
abbrev cX1_endsClosed : ByteArray := prog_3_method_24_code
def yX1_endsClosed : MethodName := ⟨RX1, "endsClosed", "()I"⟩
abbrev cX1_allWet : ByteArray := prog_3_method_25_code
def yX1_allWet : MethodName := ⟨RX1, "allWet", "()I"⟩
abbrev cX1_allCasts : ByteArray := prog_3_method_26_code
def yX1_allCasts : MethodName := ⟨RX1, "allCasts", "()I"⟩
abbrev cX1_drink : ByteArray := prog_3_method_27_code
def yX1_drink : MethodName := ⟨RX1, "drink", "(I)V"⟩
abbrev cX1_passHour : ByteArray := prog_3_method_28_code
def yX1_passHour : MethodName := ⟨RX1, "passHour", "()V"⟩
abbrev cX1_wetAfter : ByteArray := prog_3_method_29_code
def yX1_wetAfter : MethodName := ⟨RX1, "wetAfter", "(I)I"⟩
abbrev cX1_wetAhead : ByteArray := prog_3_method_30_code
def yX1_wetAhead : MethodName := ⟨RX1, "wetAhead", "(II)I"⟩
abbrev cX1_castsAhead : ByteArray := prog_3_method_31_code
def yX1_castsAhead : MethodName := ⟨RX1, "castsAhead", "(II)I"⟩
abbrev cX1_hoursUntilDry : ByteArray := prog_3_method_32_code
def yX1_hoursUntilDry : MethodName := ⟨RX1, "hoursUntilDry", "(I)I"⟩
def RX2 : String := "BowlsGreen$Orders"
def TX2 : u_T := fun k => match k with
  | 0 => ("BowlsGreen$Orders", "signs", "[I", true)
  | 1 => ("BowlsGreen$Orders", "numbers", "[I", true)
  | 2 => ("BowlsGreen$Orders", "count", "I", false)
  | _ => ("BowlsGreen$Orders", "position", "I", false)
def tyX2 : Nat → FieldType := fun k => match k with
  | 0 => .array .int
  | 1 => .array .int
  | 2 => .int
  | _ => .int
abbrev wsX20 : List Cond := u_ws RX2 TX2 4
theorem nmX2 : ∀ a, a < 4 → ∀ b, b < 4 → a ≠ b → (TX2 a).2.1 ≠ (TX2 b).2.1 := by decide +kernel
theorem tyX2_ok : ∀ k, k < 4 → parseFieldDescriptor (TX2 k).2.2.1 = some (tyX2 k) := by decide +kernel
abbrev cX2_init : ByteArray := prog_4_method_1_code
def yX2_init : MethodName := ⟨RX2, "<init>", "()V"⟩
abbrev cX2_number : ByteArray := prog_4_method_2_code
def yX2_number : MethodName := ⟨RX2, "number", "(II)I"⟩
abbrev cX2_read : ByteArray := prog_4_method_3_code
def yX2_read : MethodName := ⟨RX2, "read", "(Ljava/lang/StringBuilder;)Z"⟩
abbrev cX2_readOrder : ByteArray := prog_4_method_4_code
def yX2_readOrder : MethodName := ⟨RX2, "readOrder", "(Ljava/lang/StringBuilder;I)Z"⟩
abbrev cX2_formOf : ByteArray := prog_4_method_5_code
def yX2_formOf : MethodName := ⟨RX2, "formOf", "(I)Ljava/lang/String;"⟩
abbrev cX2_isKept : ByteArray := prog_4_method_6_code
def yX2_isKept : MethodName := ⟨RX2, "isKept", "(I)Z"⟩
abbrev cX2_readPart : ByteArray := prog_4_method_7_code
def yX2_readPart : MethodName := ⟨RX2, "readPart", "(Ljava/lang/StringBuilder;II)Z"⟩
abbrev cX2_readDigits : ByteArray := prog_4_method_8_code
def yX2_readDigits : MethodName := ⟨RX2, "readDigits", "(Ljava/lang/StringBuilder;II)Z"⟩
abbrev cX2_isDigit : ByteArray := prog_4_method_9_code
def yX2_isDigit : MethodName := ⟨RX2, "isDigit", "(C)Z"⟩
abbrev cX2_readSide : ByteArray := prog_4_method_10_code
def yX2_readSide : MethodName := ⟨RX2, "readSide", "(Ljava/lang/StringBuilder;I)Z"⟩
abbrev cX2_readSign : ByteArray := prog_4_method_11_code
def yX2_readSign : MethodName := ⟨RX2, "readSign", "(Ljava/lang/StringBuilder;I)Z"⟩
def RX3 : String := "BowlsGreen$Past"
def TX3 : u_T := fun k => match k with
  | 0 => ("BowlsGreen$Past", "greens", "[LBowlsGreen$Green;", true)
  | 1 => ("BowlsGreen$Past", "free", "I", false)
  | _ => ("BowlsGreen$Past", "count", "I", false)
def tyX3 : Nat → FieldType := fun k => match k with
  | 0 => .array (.object "BowlsGreen$Green")
  | 1 => .int
  | _ => .int
abbrev wsX30 : List Cond := u_ws RX3 TX3 3
theorem nmX3 : ∀ a, a < 3 → ∀ b, b < 3 → a ≠ b → (TX3 a).2.1 ≠ (TX3 b).2.1 := by decide +kernel
theorem tyX3_ok : ∀ k, k < 3 → parseFieldDescriptor (TX3 k).2.2.1 = some (tyX3 k) := by decide +kernel
abbrev cX3_init : ByteArray := prog_5_method_1_code
def yX3_init : MethodName := ⟨RX3, "<init>", "()V"⟩
abbrev cX3_forget : ByteArray := prog_5_method_2_code
def yX3_forget : MethodName := ⟨RX3, "forget", "()V"⟩
abbrev cX3_note : ByteArray := prog_5_method_3_code
def yX3_note : MethodName := ⟨RX3, "note", "(LBowlsGreen$Green;)V"⟩
abbrev cX3_putBack : ByteArray := prog_5_method_4_code
def yX3_putBack : MethodName := ⟨RX3, "putBack", "(LBowlsGreen$Green;)V"⟩
abbrev cX3_keep : ByteArray := prog_5_method_5_code
def yX3_keep : MethodName := ⟨RX3, "keep", "()V"⟩
abbrev cX3_takeBack : ByteArray := prog_5_method_6_code
def yX3_takeBack : MethodName := ⟨RX3, "takeBack", "(LBowlsGreen$Green;)V"⟩
def RX4 : String := "BowlsGreen$Reasons"
def TX4 : u_T := fun k => match k with
  | 0 => ("BowlsGreen$Reasons", "numbers", "[I", true)
  | 1 => ("BowlsGreen$Reasons", "details", "[I", true)
  | _ => ("BowlsGreen$Reasons", "count", "I", false)
def tyX4 : Nat → FieldType := fun k => match k with
  | 0 => .array .int
  | 1 => .array .int
  | _ => .int
abbrev wsX40 : List Cond := u_ws RX4 TX4 3
theorem nmX4 : ∀ a, a < 3 → ∀ b, b < 3 → a ≠ b → (TX4 a).2.1 ≠ (TX4 b).2.1 := by decide +kernel
theorem tyX4_ok : ∀ k, k < 3 → parseFieldDescriptor (TX4 k).2.2.1 = some (tyX4 k) := by decide +kernel
abbrev cX4_init : ByteArray := prog_6_method_1_code
def yX4_init : MethodName := ⟨RX4, "<init>", "()V"⟩
abbrev cX4_empty : ByteArray := prog_6_method_2_code
def yX4_empty : MethodName := ⟨RX4, "empty", "()V"⟩
abbrev cX4_put : ByteArray := prog_6_method_3_code
def yX4_put : MethodName := ⟨RX4, "put", "(II)V"⟩
abbrev cX4_tell : ByteArray := prog_6_method_4_code
def yX4_tell : MethodName := ⟨RX4, "tell", "(IZ)I"⟩
def RX5 : String := "BowlsGreen$Rink"
def TX5 : u_T := fun k => match k with
  | 0 => ("BowlsGreen$Rink", "first", "I", false)
  | 1 => ("BowlsGreen$Rink", "last", "I", false)
  | 2 => ("BowlsGreen$Rink", "wet", "I", false)
  | 3 => ("BowlsGreen$Rink", "casts", "I", false)
  | 4 => ("BowlsGreen$Rink", "jack", "I", false)
  | 5 => ("BowlsGreen$Rink", "starter", "I", false)
  | 6 => ("BowlsGreen$Rink", "turn", "I", false)
  | 7 => ("BowlsGreen$Rink", "closed", "I", false)
  | _ => ("BowlsGreen$Rink", "bowled", "[I", true)
def tyX5 : Nat → FieldType := fun k => match k with
  | 0 => .int
  | 1 => .int
  | 2 => .int
  | 3 => .int
  | 4 => .int
  | 5 => .int
  | 6 => .int
  | 7 => .int
  | _ => .array .int
abbrev wsX50 : List Cond := u_ws RX5 TX5 9
theorem nmX5 : ∀ a, a < 9 → ∀ b, b < 9 → a ≠ b → (TX5 a).2.1 ≠ (TX5 b).2.1 := by decide +kernel
theorem tyX5_ok : ∀ k, k < 9 → parseFieldDescriptor (TX5 k).2.2.1 = some (tyX5 k) := by decide +kernel
abbrev cX5_init : ByteArray := prog_7_method_1_code
def yX5_init : MethodName := ⟨RX5, "<init>", "()V"⟩
abbrev cX5_lay : ByteArray := prog_7_method_2_code
def yX5_lay : MethodName := ⟨RX5, "lay", "(II)V"⟩
abbrev cX5_become : ByteArray := prog_7_method_3_code
def yX5_become : MethodName := ⟨RX5, "become", "(LBowlsGreen$Rink;)V"⟩
abbrev cX5_holds : ByteArray := prog_7_method_4_code
def yX5_holds : MethodName := ⟨RX5, "holds", "(I)Z"⟩
abbrev cX5_isPlayed : ByteArray := prog_7_method_5_code
def yX5_isPlayed : MethodName := ⟨RX5, "isPlayed", "()Z"⟩
abbrev cX5_startEnd : ByteArray := prog_7_method_6_code
def yX5_startEnd : MethodName := ⟨RX5, "startEnd", "(I)V"⟩
abbrev cX5_finishEnd : ByteArray := prog_7_method_7_code
def yX5_finishEnd : MethodName := ⟨RX5, "finishEnd", "()V"⟩
abbrev cX5_distance : ByteArray := prog_7_method_8_code
def yX5_distance : MethodName := ⟨RX5, "distance", "(II)I"⟩
abbrev cX5_castsAfter : ByteArray := prog_7_method_9_code
def yX5_castsAfter : MethodName := ⟨RX5, "castsAfter", "(II)I"⟩
def RX6 : String := "BowlsGreen$Wood"
def TX6 : u_T := fun k => match k with
  | 0 => ("BowlsGreen$Wood", "club", "I", false)
  | 1 => ("BowlsGreen$Wood", "bias", "I", false)
  | 2 => ("BowlsGreen$Wood", "state", "I", false)
  | 3 => ("BowlsGreen$Wood", "rink", "I", false)
  | 4 => ("BowlsGreen$Wood", "column", "I", false)
  | 5 => ("BowlsGreen$Wood", "length", "I", false)
  | 6 => ("BowlsGreen$Wood", "distance", "I", false)
  | _ => ("BowlsGreen$Wood", "bowled", "I", false)
def tyX6 : Nat → FieldType := fun k => match k with
  | 0 => .int
  | 1 => .int
  | 2 => .int
  | 3 => .int
  | 4 => .int
  | 5 => .int
  | 6 => .int
  | _ => .int
abbrev wsX60 : List Cond := u_ws RX6 TX6 8
theorem nmX6 : ∀ a, a < 8 → ∀ b, b < 8 → a ≠ b → (TX6 a).2.1 ≠ (TX6 b).2.1 := by decide +kernel
theorem tyX6_ok : ∀ k, k < 8 → parseFieldDescriptor (TX6 k).2.2.1 = some (tyX6 k) := by decide +kernel
abbrev cX6_init : ByteArray := prog_8_method_1_code
def yX6_init : MethodName := ⟨RX6, "<init>", "()V"⟩
abbrev cX6_make : ByteArray := prog_8_method_2_code
def yX6_make : MethodName := ⟨RX6, "make", "(II)V"⟩
abbrev cX6_become : ByteArray := prog_8_method_3_code
def yX6_become : MethodName := ⟨RX6, "become", "(LBowlsGreen$Wood;)V"⟩
abbrev cX6_liesOn : ByteArray := prog_8_method_4_code
def yX6_liesOn : MethodName := ⟨RX6, "liesOn", "(I)Z"⟩
def RX7 : String := "BowlsGreen"
def TX7 : u_T := fun k => match k with
  | 0 => ("BowlsGreen", "green", "LBowlsGreen$Green;", true)
  | 1 => ("BowlsGreen", "saved", "LBowlsGreen$Green;", true)
  | 2 => ("BowlsGreen", "isSaved", "Z", false)
  | 3 => ("BowlsGreen", "past", "LBowlsGreen$Past;", true)
  | 4 => ("BowlsGreen", "input", "Ljava/lang/StringBuilder;", true)
  | 5 => ("BowlsGreen", "orders", "LBowlsGreen$Orders;", true)
  | 6 => ("BowlsGreen", "faultPosition", "I", false)
  | 7 => ("BowlsGreen", "reasons", "LBowlsGreen$Reasons;", true)
  | _ => ("BowlsGreen", "line", "Ljava/lang/StringBuilder;", true)
def tyX7 : Nat → FieldType := fun k => match k with
  | 0 => .object "BowlsGreen$Green"
  | 1 => .object "BowlsGreen$Green"
  | 2 => .boolean
  | 3 => .object "BowlsGreen$Past"
  | 4 => .object "java/lang/StringBuilder"
  | 5 => .object "BowlsGreen$Orders"
  | 6 => .int
  | 7 => .object "BowlsGreen$Reasons"
  | _ => .object "java/lang/StringBuilder"
abbrev wsX70 : List Cond := u_ws RX7 TX7 9
theorem nmX7 : ∀ a, a < 9 → ∀ b, b < 9 → a ≠ b → (TX7 a).2.1 ≠ (TX7 b).2.1 := by decide +kernel
theorem tyX7_ok : ∀ k, k < 9 → parseFieldDescriptor (TX7 k).2.2.1 = some (tyX7 k) := by decide +kernel
abbrev cX7_init : ByteArray := prog_1_method_1_code
def yX7_init : MethodName := ⟨RX7, "<init>", "()V"⟩
abbrev cX7_clear : ByteArray := prog_1_method_2_code
def yX7_clear : MethodName := ⟨RX7, "clear", "()I"⟩
abbrev cX7_append : ByteArray := prog_1_method_3_code
def yX7_append : MethodName := ⟨RX7, "append", "(C)I"⟩
abbrev cX7_rink : ByteArray := prog_1_method_4_code
def yX7_rink : MethodName := ⟨RX7, "rink", "(II)I"⟩
abbrev cX7_wood : ByteArray := prog_1_method_5_code
def yX7_wood : MethodName := ⟨RX7, "wood", "(II)I"⟩
abbrev cX7_begin : ByteArray := prog_1_method_6_code
def yX7_begin : MethodName := ⟨RX7, "begin", "(II)I"⟩
abbrev cX7_bowl : ByteArray := prog_1_method_7_code
def yX7_bowl : MethodName := ⟨RX7, "bowl", "(IIIIZ)I"⟩
abbrev cX7_close : ByteArray := prog_1_method_8_code
def yX7_close : MethodName := ⟨RX7, "close", "(I)I"⟩
abbrev cX7_sweep : ByteArray := prog_1_method_9_code
def yX7_sweep : MethodName := ⟨RX7, "sweep", "(I)I"⟩
abbrev cX7_rain : ByteArray := prog_1_method_10_code
def yX7_rain : MethodName := ⟨RX7, "rain", "(I)I"⟩
abbrev cX7_sun : ByteArray := prog_1_method_11_code
def yX7_sun : MethodName := ⟨RX7, "sun", "(I)I"⟩
abbrev cX7_brew : ByteArray := prog_1_method_12_code
def yX7_brew : MethodName := ⟨RX7, "brew", "(I)I"⟩
abbrev cX7_tea : ByteArray := prog_1_method_13_code
def yX7_tea : MethodName := ⟨RX7, "tea", "(I)I"⟩
abbrev cX7_hour : ByteArray := prog_1_method_14_code
def yX7_hour : MethodName := ⟨RX7, "hour", "(I)I"⟩
abbrev cX7_script : ByteArray := prog_1_method_15_code
def yX7_script : MethodName := ⟨RX7, "script", "()I"⟩
abbrev cX7_settle : ByteArray := prog_1_method_16_code
def yX7_settle : MethodName := ⟨RX7, "settle", "(I)I"⟩
abbrev cX7_isCode : ByteArray := prog_1_method_17_code
def yX7_isCode : MethodName := ⟨RX7, "isCode", "(I)Z"⟩
abbrev cX7_refuse : ByteArray := prog_1_method_18_code
def yX7_refuse : MethodName := ⟨RX7, "refuse", "(II)I"⟩
abbrev cX7_layRink : ByteArray := prog_1_method_19_code
def yX7_layRink : MethodName := ⟨RX7, "layRink", "(II)I"⟩
abbrev cX7_addWood : ByteArray := prog_1_method_20_code
def yX7_addWood : MethodName := ⟨RX7, "addWood", "(II)I"⟩
abbrev cX7_beginEnd : ByteArray := prog_1_method_21_code
def yX7_beginEnd : MethodName := ⟨RX7, "beginEnd", "(II)I"⟩
abbrev cX7_refuseWetRink : ByteArray := prog_1_method_22_code
def yX7_refuseWetRink : MethodName := ⟨RX7, "refuseWetRink", "(II)I"⟩
abbrev cX7_bowlWood : ByteArray := prog_1_method_23_code
def yX7_bowlWood : MethodName := ⟨RX7, "bowlWood", "(IIIIZ)I"⟩
abbrev cX7_isBowlRefused : ByteArray := prog_1_method_24_code
def yX7_isBowlRefused : MethodName := ⟨RX7, "isBowlRefused", "(II)Z"⟩
abbrev cX7_closeEnd : ByteArray := prog_1_method_25_code
def yX7_closeEnd : MethodName := ⟨RX7, "closeEnd", "(I)I"⟩
abbrev cX7_sweepRink : ByteArray := prog_1_method_26_code
def yX7_sweepRink : MethodName := ⟨RX7, "sweepRink", "(I)I"⟩
abbrev cX7_setRain : ByteArray := prog_1_method_27_code
def yX7_setRain : MethodName := ⟨RX7, "setRain", "(I)I"⟩
abbrev cX7_setSun : ByteArray := prog_1_method_28_code
def yX7_setSun : MethodName := ⟨RX7, "setSun", "(I)I"⟩
abbrev cX7_brewCups : ByteArray := prog_1_method_29_code
def yX7_brewCups : MethodName := ⟨RX7, "brewCups", "(I)I"⟩
abbrev cX7_giveTea : ByteArray := prog_1_method_30_code
def yX7_giveTea : MethodName := ⟨RX7, "giveTea", "(I)I"⟩
abbrev cX7_passHours : ByteArray := prog_1_method_31_code
def yX7_passHours : MethodName := ⟨RX7, "passHours", "(I)I"⟩
abbrev cX7_keepFault : ByteArray := prog_1_method_32_code
def yX7_keepFault : MethodName := ⟨RX7, "keepFault", "()I"⟩
abbrev cX7_carryOutOrders : ByteArray := prog_1_method_33_code
def yX7_carryOutOrders : MethodName := ⟨RX7, "carryOutOrders", "()I"⟩
abbrev cX7_carryOut : ByteArray := prog_1_method_34_code
def yX7_carryOut : MethodName := ⟨RX7, "carryOut", "(I)I"⟩
abbrev cX7_refuseScript : ByteArray := prog_1_method_35_code
def yX7_refuseScript : MethodName := ⟨RX7, "refuseScript", "(II)I"⟩
abbrev cX7_fault : ByteArray := prog_1_method_36_code
def yX7_fault : MethodName := ⟨RX7, "fault", "()I"⟩
abbrev cX7_reason : ByteArray := prog_1_method_37_code
def yX7_reason : MethodName := ⟨RX7, "reason", "(IZ)I"⟩
abbrev cX7_rinkOf : ByteArray := prog_1_method_38_code
def yX7_rinkOf : MethodName := ⟨RX7, "rinkOf", "(II)I"⟩
abbrev cX7_woodOf : ByteArray := prog_1_method_39_code
def yX7_woodOf : MethodName := ⟨RX7, "woodOf", "(II)I"⟩
abbrev cX7_clubOf : ByteArray := prog_1_method_40_code
def yX7_clubOf : MethodName := ⟨RX7, "clubOf", "(II)I"⟩
abbrev cX7_rinkAt : ByteArray := prog_1_method_41_code
def yX7_rinkAt : MethodName := ⟨RX7, "rinkAt", "(I)I"⟩
abbrev cX7_nearest : ByteArray := prog_1_method_42_code
def yX7_nearest : MethodName := ⟨RX7, "nearest", "(II)I"⟩
abbrev cX7_shots : ByteArray := prog_1_method_43_code
def yX7_shots : MethodName := ⟨RX7, "shots", "(IZ)I"⟩
abbrev cX7_would : ByteArray := prog_1_method_44_code
def yX7_would : MethodName := ⟨RX7, "would", "(IIIIZ)I"⟩
abbrev cX7_bestStrength : ByteArray := prog_1_method_45_code
def yX7_bestStrength : MethodName := ⟨RX7, "bestStrength", "(IIIZ)I"⟩
abbrev cX7_wetIn : ByteArray := prog_1_method_46_code
def yX7_wetIn : MethodName := ⟨RX7, "wetIn", "(II)I"⟩
abbrev cX7_castsIn : ByteArray := prog_1_method_47_code
def yX7_castsIn : MethodName := ⟨RX7, "castsIn", "(II)I"⟩
abbrev cX7_dryIn : ByteArray := prog_1_method_48_code
def yX7_dryIn : MethodName := ⟨RX7, "dryIn", "(I)I"⟩
abbrev cX7_leader : ByteArray := prog_1_method_49_code
def yX7_leader : MethodName := ⟨RX7, "leader", "()I"⟩
abbrev cX7_describe : ByteArray := prog_1_method_50_code
def yX7_describe : MethodName := ⟨RX7, "describe", "(I)I"⟩
abbrev cX7_writeWood : ByteArray := prog_1_method_51_code
def yX7_writeWood : MethodName := ⟨RX7, "writeWood", "(I)V"⟩
abbrev cX7_written : ByteArray := prog_1_method_52_code
def yX7_written : MethodName := ⟨RX7, "written", "(I)I"⟩
abbrev cX7_meanWet : ByteArray := prog_1_method_53_code
def yX7_meanWet : MethodName := ⟨RX7, "meanWet", "()F"⟩
abbrev cX7_winShare : ByteArray := prog_1_method_54_code
def yX7_winShare : MethodName := ⟨RX7, "winShare", "()D"⟩
abbrev cX7_account : ByteArray := prog_1_method_55_code
def yX7_account : MethodName := ⟨RX7, "account", "(I)I"⟩
abbrev cX7_undo : ByteArray := prog_1_method_56_code
def yX7_undo : MethodName := ⟨RX7, "undo", "()I"⟩
abbrev cX7_save : ByteArray := prog_1_method_57_code
def yX7_save : MethodName := ⟨RX7, "save", "()I"⟩
abbrev cX7_restore : ByteArray := prog_1_method_58_code
def yX7_restore : MethodName := ⟨RX7, "restore", "()I"⟩
abbrev cX7_isClub : ByteArray := prog_1_method_59_code
def yX7_isClub : MethodName := ⟨RX7, "isClub", "(I)Z"⟩
abbrev cX7_otherClub : ByteArray := prog_1_method_60_code
def yX7_otherClub : MethodName := ⟨RX7, "otherClub", "(I)I"⟩
abbrev cX7_isStrength : ByteArray := prog_1_method_61_code
def yX7_isStrength : MethodName := ⟨RX7, "isStrength", "(I)Z"⟩
abbrev cX7_isWeather : ByteArray := prog_1_method_62_code
def yX7_isWeather : MethodName := ⟨RX7, "isWeather", "(I)Z"⟩
def RX8 : String := "BowlsGreenModel"
def TX8 : u_T := fun k => match k with
  | _ => ("", "", "", false)
def tyX8 : Nat → FieldType := fun k => match k with
  | _ => .int
abbrev wsX80 : List Cond := u_ws RX8 TX8 0
theorem nmX8 : ∀ a, a < 0 → ∀ b, b < 0 → a ≠ b → (TX8 a).2.1 ≠ (TX8 b).2.1 := by decide +kernel
theorem tyX8_ok : ∀ k, k < 0 → parseFieldDescriptor (TX8 k).2.2.1 = some (tyX8 k) := by decide +kernel
def RJ5 : String := "java/lang/AbstractStringBuilder"
def TJ5 : u_T := fun k => match k with
  | _ => ("", "", "", false)
def tyJ5 : Nat → FieldType := fun k => match k with
  | _ => .int
abbrev wsJ50 : List Cond := u_ws RJ5 TJ5 0
theorem nmJ5 : ∀ a, a < 0 → ∀ b, b < 0 → a ≠ b → (TJ5 a).2.1 ≠ (TJ5 b).2.1 := by decide +kernel
theorem tyJ5_ok : ∀ k, k < 0 → parseFieldDescriptor (TJ5 k).2.2.1 = some (tyJ5 k) := by decide +kernel
abbrev cJ5_init_d00df : ByteArray := prog_11_method_2_code
def yJ5_init_d00df : MethodName := ⟨RJ5, "<init>", "(I)V"⟩
abbrev cJ5_length_8abf5 : ByteArray := prog_11_method_6_code
def yJ5_length_8abf5 : MethodName := ⟨RJ5, "length", "()I"⟩
abbrev cJ5_ensureCapacityInternal_d00df : ByteArray := prog_11_method_9_code
def yJ5_ensureCapacityInternal_d00df : MethodName := ⟨RJ5, "ensureCapacityInternal", "(I)V"⟩
abbrev cJ5_newCapacity_0f7a4 : ByteArray := prog_11_method_10_code
def yJ5_newCapacity_0f7a4 : MethodName := ⟨RJ5, "newCapacity", "(I)I"⟩
abbrev cJ5_inflate_da8c8 : ByteArray := prog_11_method_11_code
def yJ5_inflate_da8c8 : MethodName := ⟨RJ5, "inflate", "()V"⟩
abbrev cJ5_setLength_d00df : ByteArray := prog_11_method_13_code
def yJ5_setLength_d00df : MethodName := ⟨RJ5, "setLength", "(I)V"⟩
abbrev cJ5_charAt_5068e : ByteArray := prog_11_method_14_code
def yJ5_charAt_5068e : MethodName := ⟨RJ5, "charAt", "(I)C"⟩
abbrev cJ5_append_cf1ce : ByteArray := prog_11_method_22_code
def yJ5_append_cf1ce : MethodName := ⟨RJ5, "append", "(Ljava/lang/String;)Ljava/lang/AbstractStringBuilder;"⟩
abbrev cJ5_appendNull_278bc : ByteArray := prog_11_method_26_code
def yJ5_appendNull_278bc : MethodName := ⟨RJ5, "appendNull", "()Ljava/lang/AbstractStringBuilder;"⟩
abbrev cJ5_append_3fe6f : ByteArray := prog_11_method_31_code
def yJ5_append_3fe6f : MethodName := ⟨RJ5, "append", "(C)Ljava/lang/AbstractStringBuilder;"⟩
abbrev cJ5_append_c97b9 : ByteArray := prog_11_method_32_code
def yJ5_append_c97b9 : MethodName := ⟨RJ5, "append", "(I)Ljava/lang/AbstractStringBuilder;"⟩
abbrev cJ5_getValue_6d5f1 : ByteArray := prog_11_method_64_code
def yJ5_getValue_6d5f1 : MethodName := ⟨RJ5, "getValue", "()[B"⟩
abbrev cJ5_isLatin1_aae02 : ByteArray := prog_11_method_68_code
def yJ5_isLatin1_aae02 : MethodName := ⟨RJ5, "isLatin1", "()Z"⟩
abbrev cJ5_inflateIfNeededFor_a7421 : ByteArray := prog_11_method_71_code
def yJ5_inflateIfNeededFor_a7421 : MethodName := ⟨RJ5, "inflateIfNeededFor", "(Ljava/lang/String;)V"⟩
abbrev cJ5_putStringAt_47b60 : ByteArray := prog_11_method_73_code
def yJ5_putStringAt_47b60 : MethodName := ⟨RJ5, "putStringAt", "(ILjava/lang/String;)V"⟩
def RJx8e188 : String := "java/lang/Cloneable"
def TJx8e188 : u_T := fun k => match k with
  | _ => ("", "", "", false)
def tyJx8e188 : Nat → FieldType := fun k => match k with
  | _ => .int
abbrev wsJx8e1880 : List Cond := u_ws RJx8e188 TJx8e188 0
theorem nmJx8e188 : ∀ a, a < 0 → ∀ b, b < 0 → a ≠ b → (TJx8e188 a).2.1 ≠ (TJx8e188 b).2.1 := by decide +kernel
theorem tyJx8e188_ok : ∀ k, k < 0 → parseFieldDescriptor (TJx8e188 k).2.2.1 = some (tyJx8e188 k) := by decide +kernel
def RJxe99ae : String := "java/lang/Double"
def TJxe99ae : u_T := fun k => match k with
  | _ => ("", "", "", false)
def tyJxe99ae : Nat → FieldType := fun k => match k with
  | _ => .int
abbrev wsJxe99ae0 : List Cond := u_ws RJxe99ae TJxe99ae 0
theorem nmJxe99ae : ∀ a, a < 0 → ∀ b, b < 0 → a ≠ b → (TJxe99ae a).2.1 ≠ (TJxe99ae b).2.1 := by decide +kernel
theorem tyJxe99ae_ok : ∀ k, k < 0 → parseFieldDescriptor (TJxe99ae k).2.2.1 = some (tyJxe99ae k) := by decide +kernel
abbrev cJxe99ae_isNaN_b9ae7 : ByteArray := prog_13_method_6_code
def yJxe99ae_isNaN_b9ae7 : MethodName := ⟨RJxe99ae, "isNaN", "(D)Z"⟩
abbrev cJxe99ae_doubleToLongBits_ccdee : ByteArray := prog_13_method_23_code
def yJxe99ae_doubleToLongBits_ccdee : MethodName := ⟨RJxe99ae, "doubleToLongBits", "(D)J"⟩
def RJxf58ca : String := "java/lang/Float"
def TJxf58ca : u_T := fun k => match k with
  | _ => ("", "", "", false)
def tyJxf58ca : Nat → FieldType := fun k => match k with
  | _ => .int
abbrev wsJxf58ca0 : List Cond := u_ws RJxf58ca TJxf58ca 0
theorem nmJxf58ca : ∀ a, a < 0 → ∀ b, b < 0 → a ≠ b → (TJxf58ca a).2.1 ≠ (TJxf58ca b).2.1 := by decide +kernel
theorem tyJxf58ca_ok : ∀ k, k < 0 → parseFieldDescriptor (TJxf58ca k).2.2.1 = some (tyJxf58ca k) := by decide +kernel
abbrev cJxf58ca_isNaN_12338 : ByteArray := prog_14_method_6_code
def yJxf58ca_isNaN_12338 : MethodName := ⟨RJxf58ca, "isNaN", "(F)Z"⟩
abbrev cJxf58ca_floatToIntBits_5c35a : ByteArray := prog_14_method_24_code
def yJxf58ca_floatToIntBits_5c35a : MethodName := ⟨RJxf58ca, "floatToIntBits", "(F)I"⟩
def RJ6 : String := "java/lang/Integer"
def TJ6 : u_T := fun k => match k with
  | _ => ("", "", "", false)
def tyJ6 : Nat → FieldType := fun k => match k with
  | _ => .int
abbrev wsJ60 : List Cond := u_ws RJ6 TJ6 0
theorem nmJ6 : ∀ a, a < 0 → ∀ b, b < 0 → a ≠ b → (TJ6 a).2.1 ≠ (TJ6 b).2.1 := by decide +kernel
theorem tyJ6_ok : ∀ k, k < 0 → parseFieldDescriptor (TJ6 k).2.2.1 = some (tyJ6 k) := by decide +kernel
abbrev cJ6_getChars_ba4f3 : ByteArray := prog_15_method_12_code
def yJ6_getChars_ba4f3 : MethodName := ⟨RJ6, "getChars", "(II[B)I"⟩
abbrev cJ6_stringSize_0f7a4 : ByteArray := prog_15_method_13_code
def yJ6_stringSize_0f7a4 : MethodName := ⟨RJ6, "stringSize", "(I)I"⟩
def RJ9 : String := "java/lang/Math"
def TJ9 : u_T := fun k => match k with
  | _ => ("", "", "", false)
def tyJ9 : Nat → FieldType := fun k => match k with
  | _ => .int
abbrev wsJ90 : List Cond := u_ws RJ9 TJ9 0
theorem nmJ9 : ∀ a, a < 0 → ∀ b, b < 0 → a ≠ b → (TJ9 a).2.1 ≠ (TJ9 b).2.1 := by decide +kernel
theorem tyJ9_ok : ∀ k, k < 0 → parseFieldDescriptor (TJ9 k).2.2.1 = some (tyJ9 k) := by decide +kernel
abbrev cJ9_max_7cf53 : ByteArray := prog_16_method_65_code
def yJ9_max_7cf53 : MethodName := ⟨RJ9, "max", "(II)I"⟩
abbrev cJ9_min_7cf53 : ByteArray := prog_16_method_69_code
def yJ9_min_7cf53 : MethodName := ⟨RJ9, "min", "(II)I"⟩
def RJ0 : String := "java/lang/String"
def TJ0 : u_T := fun k => match k with
  | 0 => ("java/lang/String", "value", "[B", true)
  | 1 => ("java/lang/String", "coder", "B", true)
  | 2 => ("java/lang/String", "hash", "I", false)
  | _ => ("java/lang/String", "hashIsZero", "Z", false)
def tyJ0 : Nat → FieldType := fun k => match k with
  | 0 => .array .byte
  | 1 => .byte
  | 2 => .int
  | _ => .boolean
abbrev wsJ00 : List Cond := u_ws RJ0 TJ0 4
theorem nmJ0 : ∀ a, a < 4 → ∀ b, b < 4 → a ≠ b → (TJ0 a).2.1 ≠ (TJ0 b).2.1 := by decide +kernel
theorem tyJ0_ok : ∀ k, k < 4 → parseFieldDescriptor (TJ0 k).2.2.1 = some (tyJ0 k) := by decide +kernel
abbrev cJ0_init_81219 : ByteArray := prog_17_method_53_code
def yJ0_init_81219 : MethodName := ⟨RJ0, "<init>", "(Ljava/lang/StringBuilder;)V"⟩
abbrev cJ0_length_8abf5 : ByteArray := prog_17_method_54_code
def yJ0_length_8abf5 : MethodName := ⟨RJ0, "length", "()I"⟩
abbrev cJ0_isEmpty_aae02 : ByteArray := prog_17_method_55_code
def yJ0_isEmpty_aae02 : MethodName := ⟨RJ0, "isEmpty", "()Z"⟩
abbrev cJ0_charAt_5068e : ByteArray := prog_17_method_56_code
def yJ0_charAt_5068e : MethodName := ⟨RJ0, "charAt", "(I)C"⟩
abbrev cJ0_getBytes_840e7 : ByteArray := prog_17_method_147_code
def yJ0_getBytes_840e7 : MethodName := ⟨RJ0, "getBytes", "([BIB)V"⟩
abbrev cJ0_init_db425 : ByteArray := prog_17_method_150_code
def yJ0_init_db425 : MethodName := ⟨RJ0, "<init>", "(Ljava/lang/AbstractStringBuilder;Ljava/lang/Void;)V"⟩
abbrev cJ0_coder_7d493 : ByteArray := prog_17_method_152_code
def yJ0_coder_7d493 : MethodName := ⟨RJ0, "coder", "()B"⟩
abbrev cJ0_isLatin1_aae02 : ByteArray := prog_17_method_154_code
def yJ0_isLatin1_aae02 : MethodName := ⟨RJ0, "isLatin1", "()Z"⟩
abbrev cJ0_checkIndex_df160 : ByteArray := prog_17_method_155_code
def yJ0_checkIndex_df160 : MethodName := ⟨RJ0, "checkIndex", "(II)V"⟩
abbrev cJ0_checkBoundsOffCount_cabcc : ByteArray := prog_17_method_157_code
def yJ0_checkBoundsOffCount_cabcc : MethodName := ⟨RJ0, "checkBoundsOffCount", "(III)I"⟩
abbrev cJ0_checkBoundsBeginEnd_23922 : ByteArray := prog_17_method_158_code
def yJ0_checkBoundsBeginEnd_23922 : MethodName := ⟨RJ0, "checkBoundsBeginEnd", "(III)V"⟩
def RJ4 : String := "java/lang/StringBuilder"
def TJ4 : u_T := fun k => match k with
  | 0 => ("java/lang/AbstractStringBuilder", "value", "[B", false)
  | 1 => ("java/lang/AbstractStringBuilder", "coder", "B", false)
  | 2 => ("java/lang/AbstractStringBuilder", "maybeLatin1", "Z", false)
  | _ => ("java/lang/AbstractStringBuilder", "count", "I", false)
def tyJ4 : Nat → FieldType := fun k => match k with
  | 0 => .array .byte
  | 1 => .byte
  | 2 => .boolean
  | _ => .int
abbrev wsJ40 : List Cond := u_ws RJ4 TJ4 4
theorem nmJ4 : ∀ a, a < 4 → ∀ b, b < 4 → a ≠ b → (TJ4 a).2.1 ≠ (TJ4 b).2.1 := by decide +kernel
theorem tyJ4_ok : ∀ k, k < 4 → parseFieldDescriptor (TJ4 k).2.2.1 = some (tyJ4 k) := by decide +kernel
abbrev cJ4_init_da8c8 : ByteArray := prog_18_method_1_code
def yJ4_init_da8c8 : MethodName := ⟨RJ4, "<init>", "()V"⟩
abbrev cJ4_append_15ec4 : ByteArray := prog_18_method_7_code
def yJ4_append_15ec4 : MethodName := ⟨RJ4, "append", "(Ljava/lang/String;)Ljava/lang/StringBuilder;"⟩
abbrev cJ4_append_cf468 : ByteArray := prog_18_method_14_code
def yJ4_append_cf468 : MethodName := ⟨RJ4, "append", "(C)Ljava/lang/StringBuilder;"⟩
abbrev cJ4_append_bf812 : ByteArray := prog_18_method_15_code
def yJ4_append_bf812 : MethodName := ⟨RJ4, "append", "(I)Ljava/lang/StringBuilder;"⟩
abbrev cJ4_toString_0e30d : ByteArray := prog_18_method_42_code
def yJ4_toString_0e30d : MethodName := ⟨RJ4, "toString", "()Ljava/lang/String;"⟩
abbrev cJ4_charAt_5068e : ByteArray := prog_18_method_88_code
def yJ4_charAt_5068e : MethodName := ⟨RJ4, "charAt", "(I)C"⟩
abbrev cJ4_setLength_d00df : ByteArray := prog_18_method_89_code
def yJ4_setLength_d00df : MethodName := ⟨RJ4, "setLength", "(I)V"⟩
abbrev cJ4_length_8abf5 : ByteArray := prog_18_method_93_code
def yJ4_length_8abf5 : MethodName := ⟨RJ4, "length", "()I"⟩
def RJ1 : String := "java/lang/StringLatin1"
def TJ1 : u_T := fun k => match k with
  | _ => ("", "", "", false)
def tyJ1 : Nat → FieldType := fun k => match k with
  | _ => .int
abbrev wsJ10 : List Cond := u_ws RJ1 TJ1 0
theorem nmJ1 : ∀ a, a < 0 → ∀ b, b < 0 → a ≠ b → (TJ1 a).2.1 ≠ (TJ1 b).2.1 := by decide +kernel
theorem tyJ1_ok : ∀ k, k < 0 → parseFieldDescriptor (TJ1 k).2.2.1 = some (tyJ1 k) := by decide +kernel
abbrev cJ1_charAt_3b067 : ByteArray := prog_19_method_2_code
def yJ1_charAt_3b067 : MethodName := ⟨RJ1, "charAt", "([BI)C"⟩
abbrev cJ1_canEncode_fc78d : ByteArray := prog_19_method_3_code
def yJ1_canEncode_fc78d : MethodName := ⟨RJ1, "canEncode", "(C)Z"⟩
abbrev cJ1_fillNull_b72d1 : ByteArray := prog_19_method_48_code
def yJ1_fillNull_b72d1 : MethodName := ⟨RJ1, "fillNull", "([BII)V"⟩
abbrev cJ1_inflate_0e8fd : ByteArray := prog_19_method_50_code
def yJ1_inflate_0e8fd : MethodName := ⟨RJ1, "inflate", "([BI[BII)V"⟩
def RJ2 : String := "java/lang/StringUTF16"
def TJ2 : u_T := fun k => match k with
  | _ => ("", "", "", false)
def tyJ2 : Nat → FieldType := fun k => match k with
  | _ => .int
abbrev wsJ20 : List Cond := u_ws RJ2 TJ2 0
theorem nmJ2 : ∀ a, a < 0 → ∀ b, b < 0 → a ≠ b → (TJ2 a).2.1 ≠ (TJ2 b).2.1 := by decide +kernel
theorem tyJ2_ok : ∀ k, k < 0 → parseFieldDescriptor (TJ2 k).2.2.1 = some (tyJ2 k) := by decide +kernel
abbrev cJ2_newBytesFor_77867 : ByteArray := prog_20_method_2_code
def yJ2_newBytesFor_77867 : MethodName := ⟨RJ2, "newBytesFor", "(I)[B"⟩
abbrev cJ2_newBytesLength_0f7a4 : ByteArray := prog_20_method_3_code
def yJ2_newBytesLength_0f7a4 : MethodName := ⟨RJ2, "newBytesLength", "(I)I"⟩
abbrev cJ2_putChar_b72d1 : ByteArray := prog_20_method_4_code
def yJ2_putChar_b72d1 : MethodName := ⟨RJ2, "putChar", "([BII)V"⟩
abbrev cJ2_getChar_3b067 : ByteArray := prog_20_method_5_code
def yJ2_getChar_3b067 : MethodName := ⟨RJ2, "getChar", "([BI)C"⟩
abbrev cJ2_length_9d52b : ByteArray := prog_20_method_6_code
def yJ2_length_9d52b : MethodName := ⟨RJ2, "length", "([B)I"⟩
abbrev cJ2_coderFromArrayLen_85cad : ByteArray := prog_20_method_15_code
def yJ2_coderFromArrayLen_85cad : MethodName := ⟨RJ2, "coderFromArrayLen", "([BI)B"⟩
abbrev cJ2_compress_39247 : ByteArray := prog_20_method_17_code
def yJ2_compress_39247 : MethodName := ⟨RJ2, "compress", "([BII)[B"⟩
abbrev cJ2_compress_5af95 : ByteArray := prog_20_method_22_code
def yJ2_compress_5af95 : MethodName := ⟨RJ2, "compress", "([BI[BII)I"⟩
abbrev cJ2_fillNull_b72d1 : ByteArray := prog_20_method_70_code
def yJ2_fillNull_b72d1 : MethodName := ⟨RJ2, "fillNull", "([BII)V"⟩
abbrev cJ2_putCharSB_b72d1 : ByteArray := prog_20_method_71_code
def yJ2_putCharSB_b72d1 : MethodName := ⟨RJ2, "putCharSB", "([BII)V"⟩
abbrev cJ2_getChars_46870 : ByteArray := prog_20_method_77_code
def yJ2_getChars_46870 : MethodName := ⟨RJ2, "getChars", "(III[B)I"⟩
abbrev cJ2_putCharsAt_cd4e5 : ByteArray := prog_20_method_81_code
def yJ2_putCharsAt_cd4e5 : MethodName := ⟨RJ2, "putCharsAt", "([BICCCC)I"⟩
abbrev cJ2_charAt_3b067 : ByteArray := prog_20_method_83_code
def yJ2_charAt_3b067 : MethodName := ⟨RJ2, "charAt", "([BI)C"⟩
abbrev cJ2_inflate_0e8fd : ByteArray := prog_20_method_86_code
def yJ2_inflate_0e8fd : MethodName := ⟨RJ2, "inflate", "([BI[BII)V"⟩
abbrev cJ2_getChars_ba4f3 : ByteArray := prog_20_method_89_code
def yJ2_getChars_ba4f3 : MethodName := ⟨RJ2, "getChars", "(II[B)I"⟩
abbrev cJ2_checkIndex_2214a : ByteArray := prog_20_method_91_code
def yJ2_checkIndex_2214a : MethodName := ⟨RJ2, "checkIndex", "(I[B)V"⟩
abbrev cJ2_checkBoundsBeginEnd_d044e : ByteArray := prog_20_method_93_code
def yJ2_checkBoundsBeginEnd_d044e : MethodName := ⟨RJ2, "checkBoundsBeginEnd", "(II[B)V"⟩
abbrev cJ2_checkBoundsOffCount_d044e : ByteArray := prog_20_method_94_code
def yJ2_checkBoundsOffCount_d044e : MethodName := ⟨RJ2, "checkBoundsOffCount", "(II[B)V"⟩
def RJ10 : String := "java/lang/System"
def TJ10 : u_T := fun k => match k with
  | _ => ("", "", "", false)
def tyJ10 : Nat → FieldType := fun k => match k with
  | _ => .int
abbrev wsJ100 : List Cond := u_ws RJ10 TJ10 0
theorem nmJ10 : ∀ a, a < 0 → ∀ b, b < 0 → a ≠ b → (TJ10 a).2.1 ≠ (TJ10 b).2.1 := by decide +kernel
theorem tyJ10_ok : ∀ k, k < 0 → parseFieldDescriptor (TJ10 k).2.2.1 = some (tyJ10 k) := by decide +kernel
def RJ7 : String := "java/util/Arrays"
def TJ7 : u_T := fun k => match k with
  | _ => ("", "", "", false)
def tyJ7 : Nat → FieldType := fun k => match k with
  | _ => .int
abbrev wsJ70 : List Cond := u_ws RJ7 TJ7 0
theorem nmJ7 : ∀ a, a < 0 → ∀ b, b < 0 → a ≠ b → (TJ7 a).2.1 ≠ (TJ7 b).2.1 := by decide +kernel
theorem tyJ7_ok : ∀ k, k < 0 → parseFieldDescriptor (TJ7 k).2.2.1 = some (tyJ7 k) := by decide +kernel
abbrev cJ7_rangeCheck_23922 : ByteArray := prog_22_method_30_code
def yJ7_rangeCheck_23922 : MethodName := ⟨RJ7, "rangeCheck", "(III)V"⟩
abbrev cJ7_fill_eb02e : ByteArray := prog_22_method_110_code
def yJ7_fill_eb02e : MethodName := ⟨RJ7, "fill", "([BIIB)V"⟩
abbrev cJ7_copyOf_9075b : ByteArray := prog_22_method_121_code
def yJ7_copyOf_9075b : MethodName := ⟨RJ7, "copyOf", "([BI)[B"⟩
abbrev cJ7_checkLength_df160 : ByteArray := prog_22_method_131_code
def yJ7_checkLength_df160 : MethodName := ⟨RJ7, "checkLength", "(II)V"⟩
abbrev cJ7_copyOfRange_39247 : ByteArray := prog_22_method_132_code
def yJ7_copyOfRange_39247 : MethodName := ⟨RJ7, "copyOfRange", "([BII)[B"⟩
abbrev cJ7_copyOfRangeByte_39247 : ByteArray := prog_22_method_133_code
def yJ7_copyOfRangeByte_39247 : MethodName := ⟨RJ7, "copyOfRangeByte", "([BII)[B"⟩
def RJ8 : String := "jdk/internal/util/ArraysSupport"
def TJ8 : u_T := fun k => match k with
  | _ => ("", "", "", false)
def tyJ8 : Nat → FieldType := fun k => match k with
  | _ => .int
abbrev wsJ80 : List Cond := u_ws RJ8 TJ8 0
theorem nmJ8 : ∀ a, a < 0 → ∀ b, b < 0 → a ≠ b → (TJ8 a).2.1 ≠ (TJ8 b).2.1 := by decide +kernel
theorem tyJ8_ok : ∀ k, k < 0 → parseFieldDescriptor (TJ8 k).2.2.1 = some (tyJ8 k) := by decide +kernel
abbrev cJ8_newLength_cabcc : ByteArray := prog_23_method_27_code
def yJ8_newLength_cabcc : MethodName := ⟨RJ8, "newLength", "(III)I"⟩
abbrev cJ8_hugeLength_7cf53 : ByteArray := prog_23_method_28_code
def yJ8_hugeLength_7cf53 : MethodName := ⟨RJ8, "hugeLength", "(II)I"⟩
def RJ3 : String := "jdk/internal/util/Preconditions"
def TJ3 : u_T := fun k => match k with
  | _ => ("", "", "", false)
def tyJ3 : Nat → FieldType := fun k => match k with
  | _ => .int
abbrev wsJ30 : List Cond := u_ws RJ3 TJ3 0
theorem nmJ3 : ∀ a, a < 0 → ∀ b, b < 0 → a ≠ b → (TJ3 a).2.1 ≠ (TJ3 b).2.1 := by decide +kernel
theorem tyJ3_ok : ∀ k, k < 0 → parseFieldDescriptor (TJ3 k).2.2.1 = some (tyJ3 k) := by decide +kernel
abbrev cJ3_checkIndex_8e157 : ByteArray := prog_24_method_11_code
def yJ3_checkIndex_8e157 : MethodName := ⟨RJ3, "checkIndex", "(IILjava/util/function/BiFunction;)I"⟩
abbrev cJ3_checkFromToIndex_8c36e : ByteArray := prog_24_method_12_code
def yJ3_checkFromToIndex_8c36e : MethodName := ⟨RJ3, "checkFromToIndex", "(IIILjava/util/function/BiFunction;)I"⟩
abbrev cJ3_checkFromIndexSize_8c36e : ByteArray := prog_24_method_13_code
def yJ3_checkFromIndexSize_8c36e : MethodName := ⟨RJ3, "checkFromIndexSize", "(IIILjava/util/function/BiFunction;)I"⟩
def RL : String := "BowlsGreenLaw"
abbrev cL_at : ByteArray := method_2_code
def yL_at : MethodName := ⟨RL, "at", "([II)I"⟩
abbrev cL_some : ByteArray := method_3_code
def yL_some : MethodName := ⟨RL, "some", "(II)I"⟩
abbrev cL_reads : ByteArray := method_4_code
def yL_reads : MethodName := ⟨RL, "reads", "(LBowlsGreen;Ljava/lang/String;)I"⟩
abbrev cL_are : ByteArray := method_5_code
def yL_are : MethodName := ⟨RL, "are", "(LBowlsGreen;[I)Z"⟩
abbrev cL_isLine : ByteArray := method_6_code
def yL_isLine : MethodName := ⟨RL, "isLine", "(LBowlsGreen;ILjava/lang/String;)Z"⟩
abbrev cL_makes : ByteArray := method_7_code
def yL_makes : MethodName := ⟨RL, "makes", "(LBowlsGreen;[I)Z"⟩
abbrev cL_asks : ByteArray := method_8_code
def yL_asks : MethodName := ⟨RL, "asks", "(LBowlsGreen;)J"⟩
abbrev cL_changes : ByteArray := method_9_code
def yL_changes : MethodName := ⟨RL, "changes", "(LBowlsGreen;I)Z"⟩
abbrev cL_refused : ByteArray := method_10_code
def yL_refused : MethodName := ⟨RL, "refused", "(LBowlsGreen;)Z"⟩
abbrev cL_law : ByteArray := code
def yL_law : MethodName := ⟨RL, "law", "([I)Z"⟩
def wsL_law_r1 : List Cond := [Cond.classLink RL 18 RX7, Cond.instantiable RX7 9, Cond.initialized RX7, Cond.arrayClass .int, Cond.constantFloat RL 195 (1091567616), Cond.arrayClass .long, Cond.methodLink RL 216 Lib.Math.min.name, Cond.static Lib.Math.min.name, Cond.initialized "java/lang/Math", Cond.code Lib.Math.min.name Lib.Math.min.code 2 (some .int), Cond.methodLink RL 185 yX7_init, Cond.instanceMethod yX7_init, Cond.code yX7_init cX7_init 1 none, Cond.methodLink RX7 3 objectInit, Cond.instanceMethod objectInit, Cond.code objectInit ⟨#[0xb1]⟩ 1 none, Cond.classLink RX7 9 RX1, Cond.instantiable RX1 11, Cond.initialized RX1, Cond.fieldLink RX7 12 "BowlsGreen" "green" "LBowlsGreen$Green;", Cond.fieldLink RX7 16 "BowlsGreen" "saved" "LBowlsGreen$Green;", Cond.fieldLink RX7 19 "BowlsGreen" "isSaved" "Z", Cond.classLink RX7 23 RX3, Cond.instantiable RX3 3]
def wsL_law_r2 : List Cond := [Cond.initialized RX3, Cond.fieldLink RX7 26 "BowlsGreen" "past" "LBowlsGreen$Past;", Cond.classLink RX7 30 RJ4, Cond.instantiable RJ4 4, Cond.initialized RJ4, Cond.fieldLink RX7 33 "BowlsGreen" "input" "Ljava/lang/StringBuilder;", Cond.classLink RX7 37 RX2, Cond.instantiable RX2 4, Cond.initialized RX2, Cond.fieldLink RX7 40 "BowlsGreen" "orders" "LBowlsGreen$Orders;", Cond.fieldLink RX7 44 "BowlsGreen" "faultPosition" "I", Cond.classLink RX7 48 RX4, Cond.instantiable RX4 3, Cond.initialized RX4, Cond.fieldLink RX7 51 "BowlsGreen" "reasons" "LBowlsGreen$Reasons;", Cond.fieldLink RX7 55 "BowlsGreen" "line" "Ljava/lang/StringBuilder;", Cond.methodLink RX7 11 yX1_init, Cond.instanceMethod yX1_init, Cond.code yX1_init cX1_init 2 none, Cond.methodLink RX1 3 objectInit, Cond.classLink RX1 9 RX5, Cond.fieldLink RX1 11 "BowlsGreen$Green" "rinks" "[LBowlsGreen$Rink;", Cond.instantiable RX5 9, Cond.initialized RX5]
def wsL_law_r3 : List Cond := [Cond.classLink RX1 18 RX6, Cond.fieldLink RX1 20 "BowlsGreen$Green" "woods" "[LBowlsGreen$Wood;", Cond.instantiable RX6 8, Cond.initialized RX6, Cond.classLink RX1 25 RX0, Cond.fieldLink RX1 27 "BowlsGreen$Green" "clubs" "[LBowlsGreen$Club;", Cond.instantiable RX0 4, Cond.initialized RX0, Cond.methodLink RX1 17 yX5_init, Cond.instanceMethod yX5_init, Cond.code yX5_init cX5_init 1 none, Cond.methodLink RX5 3 objectInit, Cond.fieldLink RX5 9 "BowlsGreen$Rink" "bowled" "[I", Cond.instanceMethod yX6_init, Cond.code yX6_init cX6_init 1 none, Cond.methodLink RX6 3 objectInit, Cond.instanceMethod yX0_init, Cond.code yX0_init cX0_init 1 none, Cond.methodLink RX0 3 objectInit, Cond.methodLink RX1 32 yX1_reset, Cond.instanceMethod yX1_reset, Cond.selects RX1 yX1_reset yX1_reset, Cond.code yX1_reset cX1_reset 1 none, Cond.fieldLink RX1 35 "BowlsGreen$Green" "rinkCount" "I"]
def wsL_law_r4 : List Cond := [Cond.fieldLink RX1 39 "BowlsGreen$Green" "woodCount" "I", Cond.fieldLink RX1 43 "BowlsGreen$Green" "hour" "I", Cond.fieldLink RX1 46 "BowlsGreen$Green" "rain" "I", Cond.fieldLink RX1 49 "BowlsGreen$Green" "sun" "I", Cond.fieldLink RX1 52 "BowlsGreen$Green" "cups" "I", Cond.fieldLink RX1 55 "BowlsGreen$Green" "drunk" "I", Cond.fieldLink RX1 58 "BowlsGreen$Green" "swept" "I", Cond.methodLink RX1 42 yX0_reset, Cond.instanceMethod yX0_reset, Cond.selects RX0 yX0_reset yX0_reset, Cond.code yX0_reset cX0_reset 1 none, Cond.fieldLink RX0 9 "BowlsGreen$Club" "shots" "I", Cond.fieldLink RX0 15 "BowlsGreen$Club" "ends" "I", Cond.fieldLink RX0 18 "BowlsGreen$Club" "coins" "I", Cond.fieldLink RX0 21 "BowlsGreen$Club" "teas" "I", Cond.methodLink RX7 25 yX3_init, Cond.instanceMethod yX3_init, Cond.code yX3_init cX3_init 2 none, Cond.methodLink RX3 3 objectInit, Cond.classLink RX3 9 RX1, Cond.fieldLink RX3 11 "BowlsGreen$Past" "greens" "[LBowlsGreen$Green;", Cond.methodLink RX3 17 yX1_init, Cond.methodLink RX7 32 yJ4_init_da8c8, Cond.instanceMethod yJ4_init_da8c8]
def wsL_law_r5 : List Cond := [Cond.code yJ4_init_da8c8 cJ4_init_da8c8 1 none, Cond.methodLink RJ4 1 yJ5_init_d00df, Cond.instanceMethod yJ5_init_d00df, Cond.initialized RJ5, Cond.code yJ5_init_d00df cJ5_init_d00df 2 none, Cond.methodLink RJ5 3 objectInit, Cond.fieldLink RJ5 18 "java/lang/String" "COMPACT_STRINGS" "Z", Cond.arrayClass .byte, Cond.fieldLink RJ5 15 "java/lang/AbstractStringBuilder" "value" "[B", Cond.fieldLink RJ5 22 "java/lang/AbstractStringBuilder" "coder" "B", Cond.methodLink RJ5 26 yJ2_newBytesFor_77867, Cond.static yJ2_newBytesFor_77867, Cond.initialized RJ2, Cond.code yJ2_newBytesFor_77867 cJ2_newBytesFor_77867 1 (some (.array .byte)), Cond.methodLink RJ2 11 yJ2_newBytesLength_0f7a4, Cond.static yJ2_newBytesLength_0f7a4, Cond.code yJ2_newBytesLength_0f7a4 cJ2_newBytesLength_0f7a4 1 (some .int), Cond.constant RJ2 20 (1073741823), Cond.methodLink RX7 39 yX2_init, Cond.instanceMethod yX2_init, Cond.code yX2_init cX2_init 1 none, Cond.methodLink RX2 3 objectInit, Cond.fieldLink RX2 9 "BowlsGreen$Orders" "signs" "[I", Cond.fieldLink RX2 15 "BowlsGreen$Orders" "numbers" "[I"]
def wsL_law_r6 : List Cond := [Cond.methodLink RX7 50 yX4_init, Cond.instanceMethod yX4_init, Cond.code yX4_init cX4_init 1 none, Cond.methodLink RX4 3 objectInit, Cond.fieldLink RX4 9 "BowlsGreen$Reasons" "numbers" "[I", Cond.fieldLink RX4 15 "BowlsGreen$Reasons" "details" "[I", Cond.methodLink RL 186 yX7_undo, Cond.instanceMethod yX7_undo, Cond.selects RX7 yX7_undo yX7_undo, Cond.code yX7_undo cX7_undo 1 (some .int), Cond.fieldLink RX7 411 "BowlsGreen$Past" "count" "I", Cond.methodLink RX7 412 yX3_takeBack, Cond.instanceMethod yX3_takeBack, Cond.selects RX3 yX3_takeBack yX3_takeBack, Cond.code yX3_takeBack cX3_takeBack 2 none, Cond.fieldLink RX3 22 "BowlsGreen$Past" "free" "I", Cond.fieldLink RX3 18 "BowlsGreen$Past" "count" "I", Cond.methodLink RX3 25 yX1_become, Cond.instanceMethod yX1_become, Cond.selects RX1 yX1_become yX1_become, Cond.code yX1_become cX1_become 3 none, Cond.methodLink RX1 61 yX5_become, Cond.instanceMethod yX5_become, Cond.selects RX5 yX5_become yX5_become]
def wsL_law_r7 : List Cond := [Cond.code yX5_become cX5_become 2 none, Cond.fieldLink RX5 15 "BowlsGreen$Rink" "first" "I", Cond.fieldLink RX5 19 "BowlsGreen$Rink" "last" "I", Cond.fieldLink RX5 22 "BowlsGreen$Rink" "wet" "I", Cond.fieldLink RX5 25 "BowlsGreen$Rink" "casts" "I", Cond.fieldLink RX5 28 "BowlsGreen$Rink" "jack" "I", Cond.fieldLink RX5 31 "BowlsGreen$Rink" "starter" "I", Cond.fieldLink RX5 34 "BowlsGreen$Rink" "turn" "I", Cond.fieldLink RX5 37 "BowlsGreen$Rink" "closed" "I", Cond.methodLink RX1 65 yX6_become, Cond.instanceMethod yX6_become, Cond.selects RX6 yX6_become yX6_become, Cond.code yX6_become cX6_become 2 none, Cond.fieldLink RX6 9 "BowlsGreen$Wood" "club" "I", Cond.fieldLink RX6 15 "BowlsGreen$Wood" "bias" "I", Cond.fieldLink RX6 18 "BowlsGreen$Wood" "state" "I", Cond.fieldLink RX6 21 "BowlsGreen$Wood" "rink" "I", Cond.fieldLink RX6 24 "BowlsGreen$Wood" "column" "I", Cond.fieldLink RX6 27 "BowlsGreen$Wood" "length" "I", Cond.fieldLink RX6 30 "BowlsGreen$Wood" "distance" "I", Cond.fieldLink RX6 33 "BowlsGreen$Wood" "bowled" "I", Cond.methodLink RX1 68 yX0_become, Cond.instanceMethod yX0_become, Cond.selects RX0 yX0_become yX0_become]
def wsL_law_r8 : List Cond := [Cond.code yX0_become cX0_become 2 none, Cond.methodLink RL 189 yX7_restore, Cond.instanceMethod yX7_restore, Cond.selects RX7 yX7_restore yX7_restore, Cond.code yX7_restore cX7_restore 1 (some .int), Cond.fieldLink RX7 58 "BowlsGreen$Green" "hour" "I", Cond.methodLink RX7 415 yX1_become, Cond.methodLink RX7 64 yX3_forget, Cond.instanceMethod yX3_forget, Cond.selects RX3 yX3_forget yX3_forget, Cond.code yX3_forget cX3_forget 1 none, Cond.methodLink RL 192 yX7_save, Cond.instanceMethod yX7_save, Cond.selects RX7 yX7_save yX7_save, Cond.code yX7_save cX7_save 1 (some .int), Cond.methodLink RL 59 yX7_hour, Cond.instanceMethod yX7_hour, Cond.selects RX7 yX7_hour yX7_hour, Cond.code yX7_hour cX7_hour 2 (some .int), Cond.methodLink RX7 75 yX3_note, Cond.instanceMethod yX3_note, Cond.selects RX3 yX3_note yX3_note, Cond.code yX3_note cX3_note 2 none, Cond.methodLink RX7 115 yX7_passHours]
def wsL_law_r9 : List Cond := [Cond.instanceMethod yX7_passHours, Cond.selects RX7 yX7_passHours yX7_passHours, Cond.code yX7_passHours cX7_passHours 3 (some .int), Cond.methodLink RX7 304 yX1_passHour, Cond.instanceMethod yX1_passHour, Cond.selects RX1 yX1_passHour yX1_passHour, Cond.code yX1_passHour cX1_passHour 3 none, Cond.fieldLink RX1 80 "BowlsGreen$Rink" "wet" "I", Cond.fieldLink RX1 83 "BowlsGreen$Rink" "casts" "I", Cond.methodLink RX1 159 yX1_wetAfter, Cond.instanceMethod yX1_wetAfter, Cond.selects RX1 yX1_wetAfter yX1_wetAfter, Cond.code yX1_wetAfter cX1_wetAfter 2 (some .int), Cond.methodLink RX1 126 Lib.Math.min.name, Cond.methodLink RX1 86 Lib.Math.max.name, Cond.static Lib.Math.max.name, Cond.code Lib.Math.max.name Lib.Math.max.code 2 (some .int), Cond.methodLink RX1 162 yX5_castsAfter, Cond.instanceMethod yX5_castsAfter, Cond.selects RX5 yX5_castsAfter yX5_castsAfter, Cond.code yX5_castsAfter cX5_castsAfter 3 (some .int), Cond.methodLink RX5 44 Lib.Math.min.name, Cond.methodLink RX5 40 yX5_isPlayed, Cond.instanceMethod yX5_isPlayed]
def wsL_law_r10 : List Cond := [Cond.selects RX5 yX5_isPlayed yX5_isPlayed, Cond.code yX5_isPlayed cX5_isPlayed 1 (some .boolean), Cond.methodLink RX7 307 yX1_allCasts, Cond.instanceMethod yX1_allCasts, Cond.selects RX1 yX1_allCasts yX1_allCasts, Cond.code yX1_allCasts cX1_allCasts 3 (some .int), Cond.methodLink RX7 83 yX7_settle, Cond.instanceMethod yX7_settle, Cond.selects RX7 yX7_settle yX7_settle, Cond.code yX7_settle cX7_settle 2 (some .int), Cond.methodLink RX7 132 yX7_isCode, Cond.static yX7_isCode, Cond.code yX7_isCode cX7_isCode 1 (some .boolean), Cond.methodLink RX7 136 yX3_keep, Cond.instanceMethod yX3_keep, Cond.selects RX3 yX3_keep yX3_keep, Cond.code yX3_keep cX3_keep 1 none, Cond.methodLink RX3 29 Lib.Math.min.name, Cond.methodLink RL 84 yX7_account, Cond.instanceMethod yX7_account, Cond.selects RX7 yX7_account yX7_account, Cond.code yX7_account cX7_account 2 (some .int), Cond.fieldLink RX7 287 "BowlsGreen$Green" "rain" "I", Cond.fieldLink RX7 290 "BowlsGreen$Green" "sun" "I"]
def wsL_law_r11 : List Cond := [Cond.fieldLink RX7 146 "BowlsGreen$Green" "rinkCount" "I", Cond.fieldLink RX7 167 "BowlsGreen$Green" "woodCount" "I", Cond.fieldLink RX7 275 "BowlsGreen$Green" "cups" "I", Cond.fieldLink RX7 405 "BowlsGreen$Green" "drunk" "I", Cond.fieldLink RX7 281 "BowlsGreen$Green" "swept" "I", Cond.methodLink RX7 399 yX1_endsPlayed, Cond.instanceMethod yX1_endsPlayed, Cond.selects RX1 yX1_endsPlayed yX1_endsPlayed, Cond.code yX1_endsPlayed cX1_endsPlayed 3 (some .int), Cond.methodLink RX1 152 yX5_isPlayed, Cond.methodLink RX7 396 yX1_endsClosed, Cond.instanceMethod yX1_endsClosed, Cond.selects RX1 yX1_endsClosed yX1_endsClosed, Cond.code yX1_endsClosed cX1_endsClosed 3 (some .int), Cond.fieldLink RX1 156 "BowlsGreen$Rink" "closed" "I", Cond.methodLink RX7 402 yX1_woodsBowled, Cond.instanceMethod yX1_woodsBowled, Cond.selects RX1 yX1_woodsBowled yX1_woodsBowled, Cond.code yX1_woodsBowled cX1_woodsBowled 3 (some .int), Cond.fieldLink RX1 149 "BowlsGreen$Wood" "bowled" "I", Cond.methodLink RX7 408 yX1_woodsInShed, Cond.instanceMethod yX1_woodsInShed, Cond.selects RX1 yX1_woodsInShed yX1_woodsInShed, Cond.code yX1_woodsInShed cX1_woodsInShed 1 (some .int)]
def wsL_law_r12 : List Cond := [Cond.methodLink RX1 145 yX1_woodsOfClubInShed, Cond.instanceMethod yX1_woodsOfClubInShed, Cond.selects RX1 yX1_woodsOfClubInShed yX1_woodsOfClubInShed, Cond.code yX1_woodsOfClubInShed cX1_woodsOfClubInShed 4 (some .int), Cond.fieldLink RX1 123 "BowlsGreen$Wood" "club" "I", Cond.fieldLink RX1 142 "BowlsGreen$Wood" "state" "I", Cond.methodLink RX7 67 yJ4_length_8abf5, Cond.instanceMethod yJ4_length_8abf5, Cond.selects RJ4 yJ4_length_8abf5 yJ4_length_8abf5, Cond.code yJ4_length_8abf5 cJ4_length_8abf5 1 (some .int), Cond.methodLink RJ4 343 yJ5_length_8abf5, Cond.sameMethod "java/lang/AbstractStringBuilder" "java/lang/AbstractStringBuilder" "length" "()I", Cond.superclass RJ4 RJ5, Cond.instanceMethod yJ5_length_8abf5, Cond.code yJ5_length_8abf5 cJ5_length_8abf5 1 (some .int), Cond.fieldLink RJ5 79 "java/lang/AbstractStringBuilder" "count" "I", Cond.methodLink RL 17 yX7_append, Cond.instanceMethod yX7_append, Cond.selects RX7 yX7_append yX7_append, Cond.code yX7_append cX7_append 2 (some .int), Cond.methodLink RX7 71 yJ4_append_cf468, Cond.instanceMethod yJ4_append_cf468, Cond.selects RJ4 yJ4_append_cf468 yJ4_append_cf468, Cond.code yJ4_append_cf468 cJ4_append_cf468 2 (some (.object "java/lang/StringBuilder"))]
def wsL_law_r13 : List Cond := [Cond.methodLink RJ4 50 yJ5_append_3fe6f, Cond.sameMethod "java/lang/AbstractStringBuilder" "java/lang/AbstractStringBuilder" "append" "(C)Ljava/lang/AbstractStringBuilder;", Cond.instanceMethod yJ5_append_3fe6f, Cond.code yJ5_append_3fe6f cJ5_append_3fe6f 2 (some (.object "java/lang/AbstractStringBuilder")), Cond.methodLink RJ5 100 ⟨"java/lang/AbstractStringBuilder", "ensureCapacityInternal", "(I)V"⟩, Cond.sameMethod "java/lang/AbstractStringBuilder" "java/lang/AbstractStringBuilder" "ensureCapacityInternal" "(I)V", Cond.selects RJ4 ⟨"java/lang/AbstractStringBuilder", "ensureCapacityInternal", "(I)V"⟩ yJ5_ensureCapacityInternal_d00df, Cond.instanceMethod yJ5_ensureCapacityInternal_d00df, Cond.code yJ5_ensureCapacityInternal_d00df cJ5_ensureCapacityInternal_d00df 3 none, Cond.methodLink RJ5 104 ⟨"java/lang/AbstractStringBuilder", "newCapacity", "(I)I"⟩, Cond.sameMethod "java/lang/AbstractStringBuilder" "java/lang/AbstractStringBuilder" "newCapacity" "(I)I", Cond.selects RJ4 ⟨"java/lang/AbstractStringBuilder", "newCapacity", "(I)I"⟩ yJ5_newCapacity_0f7a4, Cond.instanceMethod yJ5_newCapacity_0f7a4, Cond.code yJ5_newCapacity_0f7a4 cJ5_newCapacity_0f7a4 6 (some .int), Cond.constant RJ5 39 (2147483647), Cond.methodLink RJ5 114 yJ8_newLength_cabcc, Cond.static yJ8_newLength_cabcc, Cond.initialized RJ8, Cond.code yJ8_newLength_cabcc cJ8_newLength_cabcc 4 (some .int), Cond.methodLink RJ8 194 Lib.Math.max.name, Cond.constant RJ8 200 (2147483639), Cond.methodLink RJ8 201 yJ8_hugeLength_7cf53, Cond.static yJ8_hugeLength_7cf53, Cond.code yJ8_hugeLength_7cf53 cJ8_hugeLength_7cf53 3 (some .int)]
def wsL_law_r14 : List Cond := [Cond.methodLink RJ5 108 yJ7_copyOf_9075b, Cond.static yJ7_copyOf_9075b, Cond.initialized RJ7, Cond.code yJ7_copyOf_9075b cJ7_copyOf_9075b 3 (some (.array .byte)), Cond.methodLink RJ7 310 ⟨"[B", "clone", "()Ljava/lang/Object;"⟩, Cond.sameMethod "[B" "java/lang/Object" "clone" "()Ljava/lang/Object;", Cond.native ⟨"java/lang/Object", "clone", "()Ljava/lang/Object;"⟩, Cond.instanceMethod ⟨"java/lang/Object", "clone", "()Ljava/lang/Object;"⟩, Cond.selects "[B" ⟨"[B", "clone", "()Ljava/lang/Object;"⟩ ⟨"java/lang/Object", "clone", "()Ljava/lang/Object;"⟩, Cond.classLink RJ7 311 "[B", Cond.methodLink RJ7 304 Lib.Math.min.name, Cond.methodLink RJ7 150 arraycopyName, Cond.native arraycopyName, Cond.static arraycopyName, Cond.initialized "java/lang/System", Cond.methodLink RJ5 83 ⟨"java/lang/AbstractStringBuilder", "isLatin1", "()Z"⟩, Cond.sameMethod "java/lang/AbstractStringBuilder" "java/lang/AbstractStringBuilder" "isLatin1" "()Z", Cond.selects RJ4 ⟨"java/lang/AbstractStringBuilder", "isLatin1", "()Z"⟩ yJ5_isLatin1_aae02, Cond.instanceMethod yJ5_isLatin1_aae02, Cond.code yJ5_isLatin1_aae02 cJ5_isLatin1_aae02 1 (some .boolean), Cond.methodLink RJ5 191 yJ1_canEncode_fc78d, Cond.static yJ1_canEncode_fc78d, Cond.initialized RJ1, Cond.code yJ1_canEncode_fc78d cJ1_canEncode_fc78d 1 (some .boolean)]
def wsL_law_r15 : List Cond := [Cond.methodLink RJ5 195 ⟨"java/lang/AbstractStringBuilder", "inflate", "()V"⟩, Cond.sameMethod "java/lang/AbstractStringBuilder" "java/lang/AbstractStringBuilder" "inflate" "()V", Cond.selects RJ4 ⟨"java/lang/AbstractStringBuilder", "inflate", "()V"⟩ yJ5_inflate_da8c8, Cond.instanceMethod yJ5_inflate_da8c8, Cond.code yJ5_inflate_da8c8 cJ5_inflate_da8c8 2 none, Cond.methodLink RJ5 125 yJ1_inflate_0e8fd, Cond.static yJ1_inflate_0e8fd, Cond.code yJ1_inflate_0e8fd cJ1_inflate_0e8fd 5 none, Cond.methodLink RJ1 240 yJ2_inflate_0e8fd, Cond.static yJ2_inflate_0e8fd, Cond.code yJ2_inflate_0e8fd cJ2_inflate_0e8fd 6 none, Cond.methodLink RJ2 173 yJ2_checkBoundsOffCount_d044e, Cond.static yJ2_checkBoundsOffCount_d044e, Cond.code yJ2_checkBoundsOffCount_d044e cJ2_checkBoundsOffCount_d044e 3 none, Cond.methodLink RJ2 48 yJ2_length_9d52b, Cond.static yJ2_length_9d52b, Cond.code yJ2_length_9d52b cJ2_length_9d52b 1 (some .int), Cond.methodLink RJ2 419 yJ0_checkBoundsOffCount_cabcc, Cond.static yJ0_checkBoundsOffCount_cabcc, Cond.initialized RJ0, Cond.code yJ0_checkBoundsOffCount_cabcc cJ0_checkBoundsOffCount_cabcc 3 (some .int), Cond.fieldLink RJ0 1053 "jdk/internal/util/Preconditions" "SIOOBE_FORMATTER" "Ljava/util/function/BiFunction;", Cond.methodLink RJ0 1065 yJ3_checkFromIndexSize_8c36e, Cond.static yJ3_checkFromIndexSize_8c36e]
def wsL_law_r16 : List Cond := [Cond.initialized RJ3, Cond.code yJ3_checkFromIndexSize_8c36e cJ3_checkFromIndexSize_8c36e 4 (some .int), Cond.methodLink RJ2 111 yJ2_putChar_b72d1, Cond.static yJ2_putChar_b72d1, Cond.code yJ2_putChar_b72d1 cJ2_putChar_b72d1 3 none, Cond.fieldLink RJ2 44 "java/lang/StringUTF16" "$assertionsDisabled" "Z", Cond.fieldLink RJ2 59 "java/lang/StringUTF16" "HI_BYTE_SHIFT" "I", Cond.fieldLink RJ2 63 "java/lang/StringUTF16" "LO_BYTE_SHIFT" "I", Cond.methodLink RJ5 197 yJ2_putCharSB_b72d1, Cond.static yJ2_putCharSB_b72d1, Cond.code yJ2_putCharSB_b72d1 cJ2_putCharSB_b72d1 3 none, Cond.methodLink RJ2 67 yJ2_checkIndex_2214a, Cond.static yJ2_checkIndex_2214a, Cond.code yJ2_checkIndex_2214a cJ2_checkIndex_2214a 2 none, Cond.methodLink RJ2 414 yJ0_checkIndex_df160, Cond.static yJ0_checkIndex_df160, Cond.code yJ0_checkIndex_df160 cJ0_checkIndex_df160 2 none, Cond.methodLink RJ0 1059 yJ3_checkIndex_8e157, Cond.static yJ3_checkIndex_8e157, Cond.code yJ3_checkIndex_8e157 cJ3_checkIndex_8e157 3 (some .int), Cond.methodLink RL 23 yX7_script, Cond.instanceMethod yX7_script, Cond.selects RX7 yX7_script yX7_script, Cond.code yX7_script cX7_script 2 (some .int)]
def wsL_law_r17 : List Cond := [Cond.methodLink RX7 118 yX2_read, Cond.instanceMethod yX2_read, Cond.selects RX2 yX2_read yX2_read, Cond.code yX2_read cX2_read 3 (some .boolean), Cond.fieldLink RX2 18 "BowlsGreen$Orders" "count" "I", Cond.fieldLink RX2 22 "BowlsGreen$Orders" "position" "I", Cond.methodLink RX2 25 yX2_readOrder, Cond.instanceMethod yX2_readOrder, Cond.selects RX2 yX2_readOrder yX2_readOrder, Cond.code yX2_readOrder cX2_readOrder 7 (some .boolean), Cond.methodLink RX2 29 yJ4_length_8abf5, Cond.methodLink RX2 38 yJ4_charAt_5068e, Cond.instanceMethod yJ4_charAt_5068e, Cond.selects RJ4 yJ4_charAt_5068e yJ4_charAt_5068e, Cond.code yJ4_charAt_5068e cJ4_charAt_5068e 2 (some .char), Cond.methodLink RJ4 329 yJ5_charAt_5068e, Cond.sameMethod "java/lang/AbstractStringBuilder" "java/lang/AbstractStringBuilder" "charAt" "(I)C", Cond.instanceMethod yJ5_charAt_5068e, Cond.code yJ5_charAt_5068e cJ5_charAt_5068e 5 (some .char), Cond.methodLink RJ5 138 Lib.Math.min.name, Cond.methodLink RJ5 144 yJ0_checkIndex_df160, Cond.methodLink RJ5 148 yJ2_getChar_3b067, Cond.static yJ2_getChar_3b067, Cond.code yJ2_getChar_3b067 cJ2_getChar_3b067 2 (some .char)]
def wsL_law_r18 : List Cond := [Cond.methodLink RX2 42 yX2_formOf, Cond.static yX2_formOf, Cond.code yX2_formOf cX2_formOf 1 (some (.object "java/lang/String")), Cond.methodLink RX2 46 yJ0_isEmpty_aae02, Cond.instanceMethod yJ0_isEmpty_aae02, Cond.selects RJ0 yJ0_isEmpty_aae02 yJ0_isEmpty_aae02, Cond.code yJ0_isEmpty_aae02 cJ0_isEmpty_aae02 1 (some .boolean), Cond.fieldLink RJ0 9 "java/lang/String" "value" "[B", Cond.methodLink RX2 52 yJ0_length_8abf5, Cond.instanceMethod yJ0_length_8abf5, Cond.selects RJ0 yJ0_length_8abf5 yJ0_length_8abf5, Cond.code yJ0_length_8abf5 cJ0_length_8abf5 1 (some .int), Cond.methodLink RJ0 335 yJ0_coder_7d493, Cond.instanceMethod yJ0_coder_7d493, Cond.selects RJ0 yJ0_coder_7d493 yJ0_coder_7d493, Cond.code yJ0_coder_7d493 cJ0_coder_7d493 1 (some .byte), Cond.fieldLink RJ0 38 "java/lang/String" "COMPACT_STRINGS" "Z", Cond.fieldLink RJ0 15 "java/lang/String" "coder" "B", Cond.methodLink RX2 53 yJ0_charAt_5068e, Cond.instanceMethod yJ0_charAt_5068e, Cond.selects RJ0 yJ0_charAt_5068e yJ0_charAt_5068e, Cond.code yJ0_charAt_5068e cJ0_charAt_5068e 2 (some .char), Cond.methodLink RJ0 492 yJ0_isLatin1_aae02, Cond.instanceMethod yJ0_isLatin1_aae02]
def wsL_law_r19 : List Cond := [Cond.selects RJ0 yJ0_isLatin1_aae02 yJ0_isLatin1_aae02, Cond.code yJ0_isLatin1_aae02 cJ0_isLatin1_aae02 1 (some .boolean), Cond.methodLink RJ0 495 yJ1_charAt_3b067, Cond.static yJ1_charAt_3b067, Cond.code yJ1_charAt_3b067 cJ1_charAt_3b067 2 (some .char), Cond.methodLink RJ1 9 yJ0_checkIndex_df160, Cond.methodLink RJ0 498 yJ2_charAt_3b067, Cond.static yJ2_charAt_3b067, Cond.code yJ2_charAt_3b067 cJ2_charAt_3b067 2 (some .char), Cond.methodLink RJ2 71 yJ2_getChar_3b067, Cond.methodLink RX2 54 yX2_readPart, Cond.instanceMethod yX2_readPart, Cond.selects RX2 yX2_readPart yX2_readPart, Cond.code yX2_readPart cX2_readPart 4 (some .boolean), Cond.methodLink RX2 72 yX2_readDigits, Cond.instanceMethod yX2_readDigits, Cond.selects RX2 yX2_readDigits yX2_readDigits, Cond.code yX2_readDigits cX2_readDigits 6 (some .boolean), Cond.methodLink RX2 78 yX2_isDigit, Cond.static yX2_isDigit, Cond.code yX2_isDigit cX2_isDigit 1 (some .boolean), Cond.methodLink RX2 75 yX2_readSide, Cond.instanceMethod yX2_readSide, Cond.selects RX2 yX2_readSide yX2_readSide]
def wsL_law_r20 : List Cond := [Cond.code yX2_readSide cX2_readSide 3 (some .boolean), Cond.methodLink RX2 35 yX2_readSign, Cond.instanceMethod yX2_readSign, Cond.selects RX2 yX2_readSign yX2_readSign, Cond.code yX2_readSign cX2_readSign 3 (some .boolean), Cond.methodLink RX2 58 yX2_isKept, Cond.static yX2_isKept, Cond.code yX2_isKept cX2_isKept 1 (some .boolean), Cond.methodLink RX7 122 yX7_carryOutOrders, Cond.instanceMethod yX7_carryOutOrders, Cond.selects RX7 yX7_carryOutOrders yX7_carryOutOrders, Cond.code yX7_carryOutOrders cX7_carryOutOrders 3 (some .int), Cond.fieldLink RX7 313 "BowlsGreen$Orders" "count" "I", Cond.methodLink RX7 316 yX7_carryOut, Cond.instanceMethod yX7_carryOut, Cond.selects RX7 yX7_carryOut yX7_carryOut, Cond.code yX7_carryOut cX7_carryOut 4 (some .int), Cond.fieldLink RX7 328 "BowlsGreen$Orders" "signs" "[I", Cond.methodLink RX7 325 yX2_number, Cond.instanceMethod yX2_number, Cond.selects RX2 yX2_number yX2_number, Cond.code yX2_number cX2_number 3 (some .int), Cond.methodLink RX7 90 yX7_beginEnd, Cond.instanceMethod yX7_beginEnd]
def wsL_law_r21 : List Cond := [Cond.selects RX7 yX7_beginEnd yX7_beginEnd, Cond.code yX7_beginEnd cX7_beginEnd 4 (some .int), Cond.fieldLink RX7 155 "BowlsGreen$Green" "rinks" "[LBowlsGreen$Rink;", Cond.fieldLink RX7 186 "BowlsGreen$Rink" "jack" "I", Cond.fieldLink RX7 189 "BowlsGreen$Rink" "wet" "I", Cond.fieldLink RX7 201 "BowlsGreen$Rink" "turn" "I", Cond.methodLink RX7 179 yX1_isRink, Cond.instanceMethod yX1_isRink, Cond.selects RX1 yX1_isRink yX1_isRink, Cond.code yX1_isRink cX1_isRink 2 (some .boolean), Cond.methodLink RX7 182 yX5_isPlayed, Cond.methodLink RX7 149 yX7_refuse, Cond.instanceMethod yX7_refuse, Cond.selects RX7 yX7_refuse yX7_refuse, Cond.code yX7_refuse cX7_refuse 3 (some .int), Cond.methodLink RX7 139 yX4_empty, Cond.instanceMethod yX4_empty, Cond.selects RX4 yX4_empty yX4_empty, Cond.code yX4_empty cX4_empty 1 none, Cond.fieldLink RX4 18 "BowlsGreen$Reasons" "count" "I", Cond.methodLink RX7 142 yX4_put, Cond.instanceMethod yX4_put, Cond.selects RX4 yX4_put yX4_put, Cond.code yX4_put cX4_put 3 none]
def wsL_law_r22 : List Cond := [Cond.methodLink RX7 192 yX1_hoursUntilDry, Cond.instanceMethod yX1_hoursUntilDry, Cond.selects RX1 yX1_hoursUntilDry yX1_hoursUntilDry, Cond.code yX1_hoursUntilDry cX1_hoursUntilDry 4 (some .int), Cond.methodLink RX7 195 yX7_refuseWetRink, Cond.instanceMethod yX7_refuseWetRink, Cond.selects RX7 yX7_refuseWetRink yX7_refuseWetRink, Cond.code yX7_refuseWetRink cX7_refuseWetRink 3 (some .int), Cond.methodLink RX7 198 yX5_startEnd, Cond.instanceMethod yX5_startEnd, Cond.selects RX5 yX5_startEnd yX5_startEnd, Cond.code yX5_startEnd cX5_startEnd 2 none, Cond.methodLink RX7 93 yX7_bowlWood, Cond.instanceMethod yX7_bowlWood, Cond.selects RX7 yX7_bowlWood yX7_bowlWood, Cond.code yX7_bowlWood cX7_bowlWood 9 (some .int), Cond.fieldLink RX7 170 "BowlsGreen$Green" "woods" "[LBowlsGreen$Wood;", Cond.fieldLink RX7 220 "BowlsGreen$Rink" "bowled" "[I", Cond.fieldLink RX7 224 "BowlsGreen$Wood" "club" "I", Cond.fieldLink RX7 230 "BowlsGreen$Wood" "bowled" "I", Cond.fieldLink RX7 232 "BowlsGreen$Wood" "rink" "I", Cond.fieldLink RX7 235 "BowlsGreen$Wood" "state" "I", Cond.fieldLink RX7 238 "BowlsGreen$Wood" "column" "I", Cond.fieldLink RX7 241 "BowlsGreen$Wood" "length" "I"]
def wsL_law_r23 : List Cond := [Cond.fieldLink RX7 246 "BowlsGreen$Wood" "distance" "I", Cond.methodLink RX7 204 yX1_isWood, Cond.instanceMethod yX1_isWood, Cond.selects RX1 yX1_isWood yX1_isWood, Cond.code yX1_isWood cX1_isWood 2 (some .boolean), Cond.methodLink RX7 207 yX5_holds, Cond.instanceMethod yX5_holds, Cond.selects RX5 yX5_holds yX5_holds, Cond.code yX5_holds cX5_holds 2 (some .boolean), Cond.methodLink RX7 210 yX7_isStrength, Cond.static yX7_isStrength, Cond.code yX7_isStrength cX7_isStrength 1 (some .boolean), Cond.methodLink RX7 213 yX7_isBowlRefused, Cond.instanceMethod yX7_isBowlRefused, Cond.selects RX7 yX7_isBowlRefused yX7_isBowlRefused, Cond.code yX7_isBowlRefused cX7_isBowlRefused 6 (some .boolean), Cond.methodLink RX7 217 yX1_landing, Cond.instanceMethod yX1_landing, Cond.selects RX1 yX1_landing yX1_landing, Cond.code yX1_landing cX1_landing 11 (some .int), Cond.fieldLink RX1 77 "BowlsGreen$Wood" "bias" "I", Cond.methodLink RX1 92 yX5_holds, Cond.methodLink RX1 96 yX1_isTaken, Cond.instanceMethod yX1_isTaken]
def wsL_law_r24 : List Cond := [Cond.selects RX1 yX1_isTaken yX1_isTaken, Cond.code yX1_isTaken cX1_isTaken 7 (some .boolean), Cond.fieldLink RX1 103 "BowlsGreen$Wood" "column" "I", Cond.fieldLink RX1 106 "BowlsGreen$Wood" "length" "I", Cond.methodLink RX1 100 yX6_liesOn, Cond.instanceMethod yX6_liesOn, Cond.selects RX6 yX6_liesOn yX6_liesOn, Cond.code yX6_liesOn cX6_liesOn 2 (some .boolean), Cond.methodLink RX7 227 yX7_otherClub, Cond.static yX7_otherClub, Cond.code yX7_otherClub cX7_otherClub 1 (some .int), Cond.methodLink RX7 243 yX5_distance, Cond.instanceMethod yX5_distance, Cond.selects RX5 yX5_distance yX5_distance, Cond.code yX5_distance cX5_distance 5 (some .int), Cond.methodLink RX7 97 yX7_closeEnd, Cond.instanceMethod yX7_closeEnd, Cond.selects RX7 yX7_closeEnd yX7_closeEnd, Cond.code yX7_closeEnd cX7_closeEnd 5 (some .int), Cond.fieldLink RX7 251 "BowlsGreen$Green" "clubs" "[LBowlsGreen$Club;", Cond.fieldLink RX7 255 "BowlsGreen$Club" "shots" "I", Cond.fieldLink RX7 260 "BowlsGreen$Club" "ends" "I", Cond.fieldLink RX7 263 "BowlsGreen$Rink" "starter" "I", Cond.methodLink RX7 248 yX1_countShots]
def wsL_law_r25 : List Cond := [Cond.instanceMethod yX1_countShots, Cond.selects RX1 yX1_countShots yX1_countShots, Cond.code yX1_countShots cX1_countShots 4 (some .int), Cond.methodLink RX1 115 yX1_leastDistance, Cond.instanceMethod yX1_leastDistance, Cond.selects RX1 yX1_leastDistance yX1_leastDistance, Cond.code yX1_leastDistance cX1_leastDistance 5 (some .int), Cond.constant RX1 122 (1000000), Cond.fieldLink RX1 112 "BowlsGreen$Wood" "distance" "I", Cond.methodLink RX1 118 yX1_woodsNearerThan, Cond.instanceMethod yX1_woodsNearerThan, Cond.selects RX1 yX1_woodsNearerThan yX1_woodsNearerThan, Cond.code yX1_woodsNearerThan cX1_woodsNearerThan 6 (some .int), Cond.methodLink RX7 266 yX5_finishEnd, Cond.instanceMethod yX5_finishEnd, Cond.selects RX5 yX5_finishEnd yX5_finishEnd, Cond.code yX5_finishEnd cX5_finishEnd 1 none, Cond.methodLink RX7 269 yX1_bringWoodsToShed, Cond.instanceMethod yX1_bringWoodsToShed, Cond.selects RX1 yX1_bringWoodsToShed yX1_bringWoodsToShed, Cond.code yX1_bringWoodsToShed cX1_bringWoodsToShed 3 none, Cond.fieldLink RX1 139 "BowlsGreen$Wood" "rink" "I", Cond.methodLink RX7 100 yX7_sweepRink, Cond.instanceMethod yX7_sweepRink]
def wsL_law_r26 : List Cond := [Cond.selects RX7 yX7_sweepRink yX7_sweepRink, Cond.code yX7_sweepRink cX7_sweepRink 4 (some .int), Cond.fieldLink RX7 272 "BowlsGreen$Rink" "casts" "I", Cond.methodLink RX7 278 yX1_drink, Cond.instanceMethod yX1_drink, Cond.selects RX1 yX1_drink yX1_drink, Cond.code yX1_drink cX1_drink 2 none, Cond.methodLink RX7 103 yX7_setRain, Cond.instanceMethod yX7_setRain, Cond.selects RX7 yX7_setRain yX7_setRain, Cond.code yX7_setRain cX7_setRain 3 (some .int), Cond.methodLink RX7 284 yX7_isWeather, Cond.static yX7_isWeather, Cond.code yX7_isWeather cX7_isWeather 1 (some .boolean), Cond.methodLink RX7 106 yX7_setSun, Cond.instanceMethod yX7_setSun, Cond.selects RX7 yX7_setSun yX7_setSun, Cond.code yX7_setSun cX7_setSun 3 (some .int), Cond.methodLink RX7 112 yX7_giveTea, Cond.instanceMethod yX7_giveTea, Cond.selects RX7 yX7_giveTea yX7_giveTea, Cond.code yX7_giveTea cX7_giveTea 3 (some .int), Cond.fieldLink RX7 298 "BowlsGreen$Club" "coins" "I", Cond.fieldLink RX7 301 "BowlsGreen$Club" "teas" "I"]
def wsL_law_r27 : List Cond := [Cond.methodLink RX7 164 yX7_isClub, Cond.static yX7_isClub, Cond.code yX7_isClub cX7_isClub 1 (some .boolean), Cond.methodLink RX7 319 yX3_putBack, Cond.instanceMethod yX3_putBack, Cond.selects RX3 yX3_putBack yX3_putBack, Cond.code yX3_putBack cX3_putBack 2 none, Cond.methodLink RX7 322 yX7_refuseScript, Cond.instanceMethod yX7_refuseScript, Cond.selects RX7 yX7_refuseScript yX7_refuseScript, Cond.code yX7_refuseScript cX7_refuseScript 3 (some .int), Cond.methodLink RX7 125 yX7_keepFault, Cond.instanceMethod yX7_keepFault, Cond.selects RX7 yX7_keepFault yX7_keepFault, Cond.code yX7_keepFault cX7_keepFault 1 (some .int), Cond.fieldLink RX7 310 "BowlsGreen$Orders" "position" "I", Cond.methodLink RX7 128 yJ4_setLength_d00df, Cond.instanceMethod yJ4_setLength_d00df, Cond.selects RJ4 yJ4_setLength_d00df yJ4_setLength_d00df, Cond.code yJ4_setLength_d00df cJ4_setLength_d00df 2 none, Cond.methodLink RJ4 333 yJ5_setLength_d00df, Cond.sameMethod "java/lang/AbstractStringBuilder" "java/lang/AbstractStringBuilder" "setLength" "(I)V", Cond.instanceMethod yJ5_setLength_d00df, Cond.code yJ5_setLength_d00df cJ5_setLength_d00df 2 none]
def wsL_law_r28 : List Cond := [Cond.fieldLink RJ5 73 "java/lang/AbstractStringBuilder" "maybeLatin1" "Z", Cond.methodLink RJ5 133 yJ1_fillNull_b72d1, Cond.static yJ1_fillNull_b72d1, Cond.code yJ1_fillNull_b72d1 cJ1_fillNull_b72d1 3 none, Cond.methodLink RJ1 236 yJ7_fill_eb02e, Cond.static yJ7_fill_eb02e, Cond.code yJ7_fill_eb02e cJ7_fill_eb02e 5 none, Cond.methodLink RJ7 13 yJ7_rangeCheck_23922, Cond.static yJ7_rangeCheck_23922, Cond.code yJ7_rangeCheck_23922 cJ7_rangeCheck_23922 3 none, Cond.methodLink RJ5 137 yJ2_fillNull_b72d1, Cond.static yJ2_fillNull_b72d1, Cond.code yJ2_fillNull_b72d1 cJ2_fillNull_b72d1 3 none, Cond.methodLink RJ2 380 yJ7_fill_eb02e, Cond.methodLink RL 176 yX7_fault, Cond.instanceMethod yX7_fault, Cond.selects RX7 yX7_fault yX7_fault, Cond.code yX7_fault cX7_fault 1 (some .int), Cond.methodLink RL 47 yX7_rink, Cond.instanceMethod yX7_rink, Cond.selects RX7 yX7_rink yX7_rink, Cond.code yX7_rink cX7_rink 3 (some .int), Cond.methodLink RX7 79 yX7_layRink, Cond.instanceMethod yX7_layRink]
def wsL_law_r29 : List Cond := [Cond.selects RX7 yX7_layRink yX7_layRink, Cond.code yX7_layRink cX7_layRink 6 (some .int), Cond.methodLink RX7 152 yX1_lowestRinkWithin, Cond.instanceMethod yX1_lowestRinkWithin, Cond.selects RX1 yX1_lowestRinkWithin yX1_lowestRinkWithin, Cond.code yX1_lowestRinkWithin cX1_lowestRinkWithin 4 (some .int), Cond.fieldLink RX1 71 "BowlsGreen$Rink" "first" "I", Cond.fieldLink RX1 74 "BowlsGreen$Rink" "last" "I", Cond.methodLink RX7 159 yX5_lay, Cond.instanceMethod yX5_lay, Cond.selects RX5 yX5_lay yX5_lay, Cond.code yX5_lay cX5_lay 3 none, Cond.methodLink RL 50 yX7_wood, Cond.instanceMethod yX7_wood, Cond.selects RX7 yX7_wood yX7_wood, Cond.code yX7_wood cX7_wood 3 (some .int), Cond.methodLink RX7 87 yX7_addWood, Cond.instanceMethod yX7_addWood, Cond.selects RX7 yX7_addWood yX7_addWood, Cond.code yX7_addWood cX7_addWood 4 (some .int), Cond.methodLink RX7 174 yX6_make, Cond.instanceMethod yX6_make, Cond.selects RX6 yX6_make yX6_make, Cond.code yX6_make cX6_make 3 none]
def wsL_law_r30 : List Cond := [Cond.methodLink RL 181 yL_are, Cond.static yL_are, Cond.initialized RL, Cond.code yL_are cL_are 3 (some .boolean), Cond.methodLink RL 26 yX7_reason, Cond.instanceMethod yX7_reason, Cond.selects RX7 yX7_reason yX7_reason, Cond.code yX7_reason cX7_reason 3 (some .int), Cond.methodLink RX7 331 yX4_tell, Cond.instanceMethod yX4_tell, Cond.selects RX4 yX4_tell yX4_tell, Cond.code yX4_tell cX4_tell 4 (some .int), Cond.methodLink RL 140 yX7_tea, Cond.instanceMethod yX7_tea, Cond.selects RX7 yX7_tea yX7_tea, Cond.code yX7_tea cX7_tea 2 (some .int), Cond.methodLink RL 116 yX7_clubOf, Cond.instanceMethod yX7_clubOf, Cond.selects RX7 yX7_clubOf yX7_clubOf, Cond.code yX7_clubOf cX7_clubOf 4 (some .int), Cond.methodLink RX7 350 yX1_woodsOfClub, Cond.instanceMethod yX1_woodsOfClub, Cond.selects RX1 yX1_woodsOfClub yX1_woodsOfClub, Cond.code yX1_woodsOfClub cX1_woodsOfClub 4 (some .int)]
def wsL_law_r31 : List Cond := [Cond.methodLink RX7 353 yX1_woodsOfClubInShed, Cond.methodLink RL 137 yX7_brew, Cond.instanceMethod yX7_brew, Cond.selects RX7 yX7_brew yX7_brew, Cond.code yX7_brew cX7_brew 2 (some .int), Cond.methodLink RX7 109 yX7_brewCups, Cond.instanceMethod yX7_brewCups, Cond.selects RX7 yX7_brewCups yX7_brewCups, Cond.code yX7_brewCups cX7_brewCups 2 (some .int), Cond.methodLink RX7 293 Lib.Math.min.name, Cond.methodLink RL 53 yX7_rain, Cond.instanceMethod yX7_rain, Cond.selects RX7 yX7_rain yX7_rain, Cond.code yX7_rain cX7_rain 2 (some .int), Cond.methodLink RL 56 yX7_sun, Cond.instanceMethod yX7_sun, Cond.selects RX7 yX7_sun yX7_sun, Cond.code yX7_sun cX7_sun 2 (some .int), Cond.methodLink RL 74 yX7_meanWet, Cond.instanceMethod yX7_meanWet, Cond.selects RX7 yX7_meanWet yX7_meanWet, Cond.code yX7_meanWet cX7_meanWet 1 (some .float), Cond.methodLink RX7 393 yX1_allWet, Cond.instanceMethod yX1_allWet]
def wsL_law_r32 : List Cond := [Cond.selects RX1 yX1_allWet yX1_allWet, Cond.code yX1_allWet cX1_allWet 3 (some .int), Cond.methodLink RL 104 yX7_wetIn, Cond.instanceMethod yX7_wetIn, Cond.selects RX7 yX7_wetIn yX7_wetIn, Cond.code yX7_wetIn cX7_wetIn 3 (some .int), Cond.methodLink RX7 366 yX1_wetAhead, Cond.instanceMethod yX1_wetAhead, Cond.selects RX1 yX1_wetAhead yX1_wetAhead, Cond.code yX1_wetAhead cX1_wetAhead 5 (some .int), Cond.methodLink RL 107 yX7_castsIn, Cond.instanceMethod yX7_castsIn, Cond.selects RX7 yX7_castsIn yX7_castsIn, Cond.code yX7_castsIn cX7_castsIn 3 (some .int), Cond.methodLink RX7 369 yX1_castsAhead, Cond.instanceMethod yX1_castsAhead, Cond.selects RX1 yX1_castsAhead yX1_castsAhead, Cond.code yX1_castsAhead cX1_castsAhead 6 (some .int), Cond.methodLink RL 110 yX7_dryIn, Cond.instanceMethod yX7_dryIn, Cond.selects RX7 yX7_dryIn yX7_dryIn, Cond.code yX7_dryIn cX7_dryIn 3 (some .int), Cond.methodLink RL 87 yX7_rinkOf, Cond.instanceMethod yX7_rinkOf]
def wsL_law_r33 : List Cond := [Cond.selects RX7 yX7_rinkOf yX7_rinkOf, Cond.code yX7_rinkOf cX7_rinkOf 4 (some .int), Cond.fieldLink RX7 335 "BowlsGreen$Rink" "first" "I", Cond.fieldLink RX7 338 "BowlsGreen$Rink" "last" "I", Cond.fieldLink RX7 344 "BowlsGreen$Rink" "closed" "I", Cond.methodLink RX7 341 yX1_woodsOn, Cond.instanceMethod yX1_woodsOn, Cond.selects RX1 yX1_woodsOn yX1_woodsOn, Cond.code yX1_woodsOn cX1_woodsOn 5 (some .int), Cond.methodLink RL 125 yX7_begin, Cond.instanceMethod yX7_begin, Cond.selects RX7 yX7_begin yX7_begin, Cond.code yX7_begin cX7_begin 3 (some .int), Cond.methodLink RL 134 yX7_sweep, Cond.instanceMethod yX7_sweep, Cond.selects RX7 yX7_sweep yX7_sweep, Cond.code yX7_sweep cX7_sweep 2 (some .int), Cond.methodLink RL 93 yX7_would, Cond.instanceMethod yX7_would, Cond.selects RX7 yX7_would yX7_would, Cond.code yX7_would cX7_would 6 (some .int), Cond.methodLink RL 198 yL_isLine, Cond.static yL_isLine, Cond.code yL_isLine cL_isLine 4 (some .boolean)]
def wsL_law_r34 : List Cond := [Cond.methodLink RL 30 yX7_describe, Cond.instanceMethod yX7_describe, Cond.selects RX7 yX7_describe yX7_describe, Cond.code yX7_describe cX7_describe 5 (some .int), Cond.methodLink RX7 372 yJ4_append_bf812, Cond.instanceMethod yJ4_append_bf812, Cond.selects RJ4 yJ4_append_bf812 yJ4_append_bf812, Cond.code yJ4_append_bf812 cJ4_append_bf812 2 (some (.object "java/lang/StringBuilder")), Cond.methodLink RJ4 53 yJ5_append_c97b9, Cond.sameMethod "java/lang/AbstractStringBuilder" "java/lang/AbstractStringBuilder" "append" "(I)Ljava/lang/AbstractStringBuilder;", Cond.instanceMethod yJ5_append_c97b9, Cond.code yJ5_append_c97b9 cJ5_append_c97b9 4 (some (.object "java/lang/AbstractStringBuilder")), Cond.methodLink RJ5 245 yJ6_stringSize_0f7a4, Cond.static yJ6_stringSize_0f7a4, Cond.initialized RJ6, Cond.code yJ6_stringSize_0f7a4 cJ6_stringSize_0f7a4 4 (some .int), Cond.methodLink RJ5 248 yJ6_getChars_ba4f3, Cond.static yJ6_getChars_ba4f3, Cond.code yJ6_getChars_ba4f3 cJ6_getChars_ba4f3 7 (some .int), Cond.fieldLink RJ6 83 "java/lang/Integer" "DigitOnes" "[B", Cond.fieldLink RJ6 87 "java/lang/Integer" "DigitTens" "[B", Cond.methodLink RJ5 251 yJ2_getChars_46870, Cond.static yJ2_getChars_46870, Cond.code yJ2_getChars_46870 cJ2_getChars_46870 5 (some .int)]
def wsL_law_r35 : List Cond := [Cond.methodLink RJ2 96 yJ2_checkBoundsBeginEnd_d044e, Cond.static yJ2_checkBoundsBeginEnd_d044e, Cond.code yJ2_checkBoundsBeginEnd_d044e cJ2_checkBoundsBeginEnd_d044e 3 none, Cond.methodLink RJ2 241 yJ0_checkBoundsBeginEnd_23922, Cond.static yJ0_checkBoundsBeginEnd_23922, Cond.code yJ0_checkBoundsBeginEnd_23922 cJ0_checkBoundsBeginEnd_23922 3 none, Cond.methodLink RJ0 1062 yJ3_checkFromToIndex_8c36e, Cond.static yJ3_checkFromToIndex_8c36e, Cond.code yJ3_checkFromToIndex_8c36e cJ3_checkFromToIndex_8c36e 4 (some .int), Cond.methodLink RJ2 393 yJ2_getChars_ba4f3, Cond.static yJ2_getChars_ba4f3, Cond.code yJ2_getChars_ba4f3 cJ2_getChars_ba4f3 7 (some .int), Cond.fieldLink RJ2 403 "java/lang/Integer" "DigitOnes" "[B", Cond.fieldLink RJ2 407 "java/lang/Integer" "DigitTens" "[B", Cond.methodLink RX7 377 yJ4_append_15ec4, Cond.instanceMethod yJ4_append_15ec4, Cond.selects RJ4 yJ4_append_15ec4 yJ4_append_15ec4, Cond.code yJ4_append_15ec4 cJ4_append_15ec4 2 (some (.object "java/lang/StringBuilder")), Cond.methodLink RJ4 29 yJ5_append_cf1ce, Cond.sameMethod "java/lang/AbstractStringBuilder" "java/lang/AbstractStringBuilder" "append" "(Ljava/lang/String;)Ljava/lang/AbstractStringBuilder;", Cond.instanceMethod yJ5_append_cf1ce, Cond.code yJ5_append_cf1ce cJ5_append_cf1ce 3 (some (.object "java/lang/AbstractStringBuilder")), Cond.methodLink RJ5 204 ⟨"java/lang/AbstractStringBuilder", "appendNull", "()Ljava/lang/AbstractStringBuilder;"⟩, Cond.sameMethod "java/lang/AbstractStringBuilder" "java/lang/AbstractStringBuilder" "appendNull" "()Ljava/lang/AbstractStringBuilder;"]
def wsL_law_r36 : List Cond := [Cond.selects RJ4 ⟨"java/lang/AbstractStringBuilder", "appendNull", "()Ljava/lang/AbstractStringBuilder;"⟩ yJ5_appendNull_278bc, Cond.instanceMethod yJ5_appendNull_278bc, Cond.code yJ5_appendNull_278bc cJ5_appendNull_278bc 3 (some (.object "java/lang/AbstractStringBuilder")), Cond.methodLink RJ5 226 yJ2_putCharsAt_cd4e5, Cond.static yJ2_putCharsAt_cd4e5, Cond.code yJ2_putCharsAt_cd4e5 cJ2_putCharsAt_cd4e5 7 (some .int), Cond.methodLink RJ5 32 yJ0_length_8abf5, Cond.methodLink RJ5 208 ⟨"java/lang/AbstractStringBuilder", "putStringAt", "(ILjava/lang/String;)V"⟩, Cond.sameMethod "java/lang/AbstractStringBuilder" "java/lang/AbstractStringBuilder" "putStringAt" "(ILjava/lang/String;)V", Cond.selects RJ4 ⟨"java/lang/AbstractStringBuilder", "putStringAt", "(ILjava/lang/String;)V"⟩ yJ5_putStringAt_47b60, Cond.instanceMethod yJ5_putStringAt_47b60, Cond.code yJ5_putStringAt_47b60 cJ5_putStringAt_47b60 3 none, Cond.methodLink RJ5 397 ⟨"java/lang/AbstractStringBuilder", "inflateIfNeededFor", "(Ljava/lang/String;)V"⟩, Cond.sameMethod "java/lang/AbstractStringBuilder" "java/lang/AbstractStringBuilder" "inflateIfNeededFor" "(Ljava/lang/String;)V", Cond.selects RJ4 ⟨"java/lang/AbstractStringBuilder", "inflateIfNeededFor", "(Ljava/lang/String;)V"⟩ yJ5_inflateIfNeededFor_a7421, Cond.instanceMethod yJ5_inflateIfNeededFor_a7421, Cond.code yJ5_inflateIfNeededFor_a7421 cJ5_inflateIfNeededFor_a7421 2 none, Cond.methodLink RJ5 40 yJ0_coder_7d493, Cond.methodLink RJ5 399 yJ0_getBytes_840e7, Cond.instanceMethod yJ0_getBytes_840e7, Cond.selects RJ0 yJ0_getBytes_840e7 yJ0_getBytes_840e7, Cond.code yJ0_getBytes_840e7 cJ0_getBytes_840e7 4 none, Cond.methodLink RJ0 212 arraycopyName, Cond.methodLink RJ0 106 yJ1_inflate_0e8fd]
def wsL_law_r37 : List Cond := [Cond.methodLink RX7 359 yX1_woodInOrder, Cond.instanceMethod yX1_woodInOrder, Cond.selects RX1 yX1_woodInOrder yX1_woodInOrder, Cond.code yX1_woodInOrder cX1_woodInOrder 4 (some .int), Cond.methodLink RX1 109 yX1_woodsBefore, Cond.instanceMethod yX1_woodsBefore, Cond.selects RX1 yX1_woodsBefore yX1_woodsBefore, Cond.code yX1_woodsBefore cX1_woodsBefore 8 (some .int), Cond.methodLink RX7 386 yX7_writeWood, Cond.instanceMethod yX7_writeWood, Cond.selects RX7 yX7_writeWood yX7_writeWood, Cond.code yX7_writeWood cX7_writeWood 2 none, Cond.methodLink RL 7 yJ0_length_8abf5, Cond.methodLink RL 34 yX7_written, Cond.instanceMethod yX7_written, Cond.selects RX7 yX7_written yX7_written, Cond.code yX7_written cX7_written 2 (some .int), Cond.methodLink RX7 389 yJ4_charAt_5068e, Cond.methodLink RL 13 yJ0_charAt_5068e, Cond.methodLink RL 202 yX7_clear, Cond.instanceMethod yX7_clear, Cond.selects RX7 yX7_clear yX7_clear, Cond.code yX7_clear cX7_clear 2 (some .int), Cond.methodLink RX7 61 yX1_reset]
def wsL_law_r38 : List Cond := [Cond.methodLink RL 205 yL_makes, Cond.static yL_makes, Cond.code yL_makes cL_makes 4 (some .boolean), Cond.methodLink RL 37 yL_at, Cond.static yL_at, Cond.code yL_at cL_at 2 (some .int), Cond.methodLink RL 43 yL_some, Cond.static yL_some, Cond.code yL_some cL_some 3 (some .int), Cond.methodLink RL 128 yX7_bowl, Cond.instanceMethod yX7_bowl, Cond.selects RX7 yX7_bowl yX7_bowl, Cond.code yX7_bowl cX7_bowl 6 (some .int), Cond.methodLink RL 170 yL_asks, Cond.static yL_asks, Cond.code yL_asks cL_asks 7 (some .long), Cond.constantLong RL 62 (31), Cond.methodLink RL 64 yX7_winShare, Cond.instanceMethod yX7_winShare, Cond.selects RX7 yX7_winShare yX7_winShare, Cond.code yX7_winShare cX7_winShare 2 (some .double), Cond.methodLink RL 68 yJxe99ae_doubleToLongBits_ccdee, Cond.static yJxe99ae_doubleToLongBits_ccdee, Cond.initialized RJxe99ae]
def wsL_law_r39 : List Cond := [Cond.code yJxe99ae_doubleToLongBits_ccdee cJxe99ae_doubleToLongBits_ccdee 2 (some .long), Cond.methodLink RJxe99ae 134 ⟨"java/lang/Double", "doubleToRawLongBits", "(D)J"⟩, Cond.native ⟨"java/lang/Double", "doubleToRawLongBits", "(D)J"⟩, Cond.static ⟨"java/lang/Double", "doubleToRawLongBits", "(D)J"⟩, Cond.initialized "java/lang/Double", Cond.constantLong RJxe99ae 137 (9221120237041090560), Cond.methodLink RJxe99ae 122 yJxe99ae_isNaN_b9ae7, Cond.static yJxe99ae_isNaN_b9ae7, Cond.code yJxe99ae_isNaN_b9ae7 cJxe99ae_isNaN_b9ae7 2 (some .boolean), Cond.methodLink RL 78 yJxf58ca_floatToIntBits_5c35a, Cond.static yJxf58ca_floatToIntBits_5c35a, Cond.initialized RJxf58ca, Cond.code yJxf58ca_floatToIntBits_5c35a cJxf58ca_floatToIntBits_5c35a 1 (some .int), Cond.methodLink RJxf58ca 74 ⟨"java/lang/Float", "floatToRawIntBits", "(F)I"⟩, Cond.native ⟨"java/lang/Float", "floatToRawIntBits", "(F)I"⟩, Cond.static ⟨"java/lang/Float", "floatToRawIntBits", "(F)I"⟩, Cond.initialized "java/lang/Float", Cond.constant RJxf58ca 77 (2143289344), Cond.methodLink RJxf58ca 59 yJxf58ca_isNaN_12338, Cond.static yJxf58ca_isNaN_12338, Cond.code yJxf58ca_isNaN_12338 cJxf58ca_isNaN_12338 1 (some .boolean), Cond.methodLink RL 90 yX7_nearest, Cond.instanceMethod yX7_nearest, Cond.selects RX7 yX7_nearest yX7_nearest]
def wsL_law_r40 : List Cond := [Cond.code yX7_nearest cX7_nearest 3 (some .int), Cond.methodLink RL 97 yX7_bestStrength, Cond.instanceMethod yX7_bestStrength, Cond.selects RX7 yX7_bestStrength yX7_bestStrength, Cond.code yX7_bestStrength cX7_bestStrength 11 (some .int), Cond.constant RX7 365 (1000000), Cond.methodLink RL 101 yX7_shots, Cond.instanceMethod yX7_shots, Cond.selects RX7 yX7_shots yX7_shots, Cond.code yX7_shots cX7_shots 3 (some .int), Cond.methodLink RX7 362 yX1_countShotsInOrder, Cond.instanceMethod yX1_countShotsInOrder, Cond.selects RX1 yX1_countShotsInOrder yX1_countShotsInOrder, Cond.code yX1_countShotsInOrder cX1_countShotsInOrder 7 (some .int), Cond.methodLink RX1 129 yX1_woodInOrder, Cond.methodLink RX1 132 yX1_isWood, Cond.methodLink RX1 135 yX1_isMatched, Cond.instanceMethod yX1_isMatched, Cond.selects RX1 yX1_isMatched yX1_isMatched, Cond.code yX1_isMatched cX1_isMatched 5 (some .boolean), Cond.methodLink RL 113 yX7_woodOf, Cond.instanceMethod yX7_woodOf, Cond.selects RX7 yX7_woodOf yX7_woodOf, Cond.code yX7_woodOf cX7_woodOf 5 (some .int)]
def wsL_law_r41 : List Cond := [Cond.fieldLink RX7 347 "BowlsGreen$Wood" "bias" "I", Cond.methodLink RL 119 yX7_rinkAt, Cond.instanceMethod yX7_rinkAt, Cond.selects RX7 yX7_rinkAt yX7_rinkAt, Cond.code yX7_rinkAt cX7_rinkAt 2 (some .int), Cond.methodLink RX7 356 yX1_rinkInOrder, Cond.instanceMethod yX1_rinkInOrder, Cond.selects RX1 yX1_rinkInOrder yX1_rinkInOrder, Cond.code yX1_rinkInOrder cX1_rinkInOrder 5 (some .int), Cond.methodLink RL 122 yX7_leader, Cond.instanceMethod yX7_leader, Cond.selects RX7 yX7_leader yX7_leader, Cond.code yX7_leader cX7_leader 3 (some .int), Cond.methodLink RL 208 yL_refused, Cond.static yL_refused, Cond.code yL_refused cL_refused 9 (some .boolean), Cond.methodLink RL 131 yX7_close, Cond.instanceMethod yX7_close, Cond.selects RX7 yX7_close yX7_close, Cond.code yX7_close cX7_close 2 (some .int), Cond.methodLink RL 166 yL_reads, Cond.static yL_reads, Cond.code yL_reads cL_reads 3 (some .int), Cond.methodLink RL 212 yL_changes]
def wsL_law_r42 : List Cond := [Cond.static yL_changes, Cond.code yL_changes cL_changes 4 (some .boolean), Cond.classLink RL 143 RJ4, Cond.methodLink RL 145 yJ4_init_da8c8, Cond.methodLink RL 148 yJ4_append_15ec4, Cond.methodLink RL 151 yJ4_append_bf812, Cond.methodLink RL 156 yJ4_toString_0e30d, Cond.instanceMethod yJ4_toString_0e30d, Cond.selects RJ4 yJ4_toString_0e30d yJ4_toString_0e30d, Cond.code yJ4_toString_0e30d cJ4_toString_0e30d 1 (some (.object "java/lang/String")), Cond.classLink RJ4 18 RJ0, Cond.instantiable RJ0 4, Cond.methodLink RJ4 137 yJ0_init_81219, Cond.instanceMethod yJ0_init_81219, Cond.code yJ0_init_81219 cJ0_init_81219 2 none, Cond.methodLink RJ0 489 yJ0_init_db425, Cond.instanceMethod yJ0_init_db425, Cond.code yJ0_init_db425 cJ0_init_db425 5 none, Cond.methodLink RJ0 1 objectInit, Cond.fieldLink RJ0 1048 "java/lang/AbstractStringBuilder" "maybeLatin1" "Z", Cond.methodLink RJ0 552 ⟨"java/lang/AbstractStringBuilder", "getValue", "()[B"⟩, Cond.sameMethod "java/lang/AbstractStringBuilder" "java/lang/AbstractStringBuilder" "getValue" "()[B", Cond.selects RJ4 ⟨"java/lang/AbstractStringBuilder", "getValue", "()[B"⟩ yJ5_getValue_6d5f1, Cond.instanceMethod yJ5_getValue_6d5f1]
def wsL_law_r43 : List Cond := [Cond.code yJ5_getValue_6d5f1 cJ5_getValue_6d5f1 1 (some (.array .byte)), Cond.methodLink RJ0 549 ⟨"java/lang/AbstractStringBuilder", "length", "()I"⟩, Cond.instanceMethod ⟨"java/lang/AbstractStringBuilder", "length", "()I"⟩, Cond.selects RJ4 ⟨"java/lang/AbstractStringBuilder", "length", "()I"⟩ yJ4_length_8abf5, Cond.methodLink RJ0 1047 ⟨"java/lang/AbstractStringBuilder", "isLatin1", "()Z"⟩, Cond.methodLink RJ0 54 yJ7_copyOfRange_39247, Cond.static yJ7_copyOfRange_39247, Cond.code yJ7_copyOfRange_39247 cJ7_copyOfRange_39247 3 (some (.array .byte)), Cond.methodLink RJ7 339 yJ7_copyOfRangeByte_39247, Cond.static yJ7_copyOfRangeByte_39247, Cond.code yJ7_copyOfRangeByte_39247 cJ7_copyOfRangeByte_39247 5 (some (.array .byte)), Cond.methodLink RJ7 343 yJ7_checkLength_df160, Cond.static yJ7_checkLength_df160, Cond.code yJ7_checkLength_df160 cJ7_checkLength_df160 2 none, Cond.methodLink RJ0 1051 yJ2_compress_39247, Cond.static yJ2_compress_39247, Cond.code yJ2_compress_39247 cJ2_compress_39247 6 (some (.array .byte)), Cond.methodLink RJ2 123 yJ2_compress_5af95, Cond.static yJ2_compress_5af95, Cond.code yJ2_compress_5af95 cJ2_compress_5af95 7 (some .int), Cond.methodLink RJ2 126 yJ7_copyOfRange_39247, Cond.methodLink RJ0 47 yJ2_coderFromArrayLen_85cad, Cond.static yJ2_coderFromArrayLen_85cad, Cond.code yJ2_coderFromArrayLen_85cad cJ2_coderFromArrayLen_85cad 2 (some .byte)]
def wsL_law : List Cond := (wsL_law_r1 ++ (wsL_law_r2 ++ (wsL_law_r3 ++ (wsL_law_r4 ++ (wsL_law_r5 ++ (wsL_law_r6 ++ (wsL_law_r7 ++ (wsL_law_r8 ++ (wsL_law_r9 ++ (wsL_law_r10 ++ (wsL_law_r11 ++ (wsL_law_r12 ++ (wsL_law_r13 ++ (wsL_law_r14 ++ (wsL_law_r15 ++ (wsL_law_r16 ++ (wsL_law_r17 ++ (wsL_law_r18 ++ (wsL_law_r19 ++ (wsL_law_r20 ++ (wsL_law_r21 ++ (wsL_law_r22 ++ (wsL_law_r23 ++ (wsL_law_r24 ++ (wsL_law_r25 ++ (wsL_law_r26 ++ (wsL_law_r27 ++ (wsL_law_r28 ++ (wsL_law_r29 ++ (wsL_law_r30 ++ (wsL_law_r31 ++ (wsL_law_r32 ++ (wsL_law_r33 ++ (wsL_law_r34 ++ (wsL_law_r35 ++ (wsL_law_r36 ++ (wsL_law_r37 ++ (wsL_law_r38 ++ (wsL_law_r39 ++ (wsL_law_r40 ++ (wsL_law_r41 ++ (wsL_law_r42 ++ wsL_law_r43)))))))))))))))))))))))))))))))))))))))))) ++ wsX70 ++ wsX10 ++ wsX30 ++ wsJ40 ++ wsX20 ++ wsX40 ++ wsX50 ++ wsX60 ++ wsX00 ++ wsJ00 ++ ([] : List Cond)
/-! ===== END printed: names ===== -/
set_option maxRecDepth 20000 in
abbrev vwCl : List vw_C := [(RJ4, TJ4, 4), (RX0, TX0, 4), (RX1, TX1, 11), (RX2, TX2, 4), (RX3, TX3, 3), (RX4, TX4, 3), (RX5, TX5, 9), (RX6, TX6, 8), (RX7, TX7, 9), (RJ0, TJ0, 4)]
end
section
theorem dX0_init_0 : decode cX0_init 0 = .ok (.aload_n 0, 1) := by decide +kernel
theorem dX0_init_1 : decode cX0_init 1 = .ok (.invokespecial 3, 3) := by decide +kernel
theorem dX0_init_4 : decode cX0_init 4 = .ok (.return_, 1) := by decide +kernel
theorem dX0_reset_0 : decode cX0_reset 0 = .ok (.aload_n 0, 1) := by decide +kernel
theorem dX0_reset_1 : decode cX0_reset 1 = .ok (.iconst 0, 1) := by decide +kernel
theorem dX0_reset_2 : decode cX0_reset 2 = .ok (.putfield 9, 3) := by decide +kernel
theorem dX0_reset_5 : decode cX0_reset 5 = .ok (.aload_n 0, 1) := by decide +kernel
theorem dX0_reset_6 : decode cX0_reset 6 = .ok (.iconst 0, 1) := by decide +kernel
theorem dX0_reset_7 : decode cX0_reset 7 = .ok (.putfield 15, 3) := by decide +kernel
theorem dX0_reset_10 : decode cX0_reset 10 = .ok (.aload_n 0, 1) := by decide +kernel
theorem dX0_reset_11 : decode cX0_reset 11 = .ok (.bipush 10, 2) := by decide +kernel
theorem dX0_reset_13 : decode cX0_reset 13 = .ok (.putfield 18, 3) := by decide +kernel
theorem dX0_reset_16 : decode cX0_reset 16 = .ok (.aload_n 0, 1) := by decide +kernel
theorem dX0_reset_17 : decode cX0_reset 17 = .ok (.iconst 0, 1) := by decide +kernel
theorem dX0_reset_18 : decode cX0_reset 18 = .ok (.putfield 21, 3) := by decide +kernel
theorem dX0_reset_21 : decode cX0_reset 21 = .ok (.return_, 1) := by decide +kernel
theorem dX0_become_0 : decode cX0_become 0 = .ok (.aload_n 0, 1) := by decide +kernel
theorem dX0_become_1 : decode cX0_become 1 = .ok (.aload_n 1, 1) := by decide +kernel
theorem dX0_become_2 : decode cX0_become 2 = .ok (.getfield 9, 3) := by decide +kernel
theorem dX0_become_5 : decode cX0_become 5 = .ok (.putfield 9, 3) := by decide +kernel
theorem dX0_become_8 : decode cX0_become 8 = .ok (.aload_n 0, 1) := by decide +kernel
theorem dX0_become_9 : decode cX0_become 9 = .ok (.aload_n 1, 1) := by decide +kernel
theorem dX0_become_10 : decode cX0_become 10 = .ok (.getfield 15, 3) := by decide +kernel
theorem dX0_become_13 : decode cX0_become 13 = .ok (.putfield 15, 3) := by decide +kernel
theorem dX0_become_16 : decode cX0_become 16 = .ok (.aload_n 0, 1) := by decide +kernel
theorem dX0_become_17 : decode cX0_become 17 = .ok (.aload_n 1, 1) := by decide +kernel
theorem dX0_become_18 : decode cX0_become 18 = .ok (.getfield 18, 3) := by decide +kernel
theorem dX0_become_21 : decode cX0_become 21 = .ok (.putfield 18, 3) := by decide +kernel
theorem dX0_become_24 : decode cX0_become 24 = .ok (.aload_n 0, 1) := by decide +kernel
theorem dX0_become_25 : decode cX0_become 25 = .ok (.aload_n 1, 1) := by decide +kernel
theorem dX0_become_26 : decode cX0_become 26 = .ok (.getfield 21, 3) := by decide +kernel
theorem dX0_become_29 : decode cX0_become 29 = .ok (.putfield 21, 3) := by decide +kernel
theorem dX0_become_32 : decode cX0_become 32 = .ok (.return_, 1) := by decide +kernel
theorem dX1_init_0 : decode cX1_init 0 = .ok (.aload_n 0, 1) := by decide +kernel
theorem dX1_init_1 : decode cX1_init 1 = .ok (.invokespecial 3, 3) := by decide +kernel
theorem dX1_init_4 : decode cX1_init 4 = .ok (.aload_n 0, 1) := by decide +kernel
theorem dX1_init_5 : decode cX1_init 5 = .ok (.iconst 4, 1) := by decide +kernel
theorem dX1_init_6 : decode cX1_init 6 = .ok (.anewarray 9, 3) := by decide +kernel
theorem dX1_init_9 : decode cX1_init 9 = .ok (.putfield 11, 3) := by decide +kernel
theorem dX1_init_12 : decode cX1_init 12 = .ok (.iconst 0, 1) := by decide +kernel
theorem dX1_init_13 : decode cX1_init 13 = .ok (.istore_n 1, 1) := by decide +kernel
theorem dX1_init_14 : decode cX1_init 14 = .ok (.iload_n 1, 1) := by decide +kernel
theorem dX1_init_15 : decode cX1_init 15 = .ok (.iconst 4, 1) := by decide +kernel
theorem dX1_init_16 : decode cX1_init 16 = .ok (.if_icmp .ge 22, 3) := by decide +kernel
theorem dX1_init_19 : decode cX1_init 19 = .ok (.aload_n 0, 1) := by decide +kernel
theorem dX1_init_20 : decode cX1_init 20 = .ok (.getfield 11, 3) := by decide +kernel
theorem dX1_init_23 : decode cX1_init 23 = .ok (.iload_n 1, 1) := by decide +kernel
theorem dX1_init_24 : decode cX1_init 24 = .ok (.new 9, 3) := by decide +kernel
theorem dX1_init_27 : decode cX1_init 27 = .ok (.dup, 1) := by decide +kernel
theorem dX1_init_28 : decode cX1_init 28 = .ok (.invokespecial 17, 3) := by decide +kernel
theorem dX1_init_31 : decode cX1_init 31 = .ok (.aastore, 1) := by decide +kernel
theorem dX1_init_32 : decode cX1_init 32 = .ok (.iinc 1 1, 3) := by decide +kernel
theorem dX1_init_35 : decode cX1_init 35 = .ok (.goto (-21), 3) := by decide +kernel
theorem dX1_init_38 : decode cX1_init 38 = .ok (.aload_n 0, 1) := by decide +kernel
theorem dX1_init_39 : decode cX1_init 39 = .ok (.bipush 16, 2) := by decide +kernel
theorem dX1_init_41 : decode cX1_init 41 = .ok (.anewarray 18, 3) := by decide +kernel
theorem dX1_init_44 : decode cX1_init 44 = .ok (.putfield 20, 3) := by decide +kernel
theorem dX1_init_47 : decode cX1_init 47 = .ok (.iconst 0, 1) := by decide +kernel
theorem dX1_init_48 : decode cX1_init 48 = .ok (.istore_n 1, 1) := by decide +kernel
theorem dX1_init_49 : decode cX1_init 49 = .ok (.iload_n 1, 1) := by decide +kernel
theorem dX1_init_50 : decode cX1_init 50 = .ok (.bipush 16, 2) := by decide +kernel
theorem dX1_init_52 : decode cX1_init 52 = .ok (.if_icmp .ge 22, 3) := by decide +kernel
theorem dX1_init_55 : decode cX1_init 55 = .ok (.aload_n 0, 1) := by decide +kernel
theorem dX1_init_56 : decode cX1_init 56 = .ok (.getfield 20, 3) := by decide +kernel
theorem dX1_init_59 : decode cX1_init 59 = .ok (.iload_n 1, 1) := by decide +kernel
theorem dX1_init_60 : decode cX1_init 60 = .ok (.new 18, 3) := by decide +kernel
theorem dX1_init_63 : decode cX1_init 63 = .ok (.dup, 1) := by decide +kernel
theorem dX1_init_64 : decode cX1_init 64 = .ok (.invokespecial 24, 3) := by decide +kernel
theorem dX1_init_67 : decode cX1_init 67 = .ok (.aastore, 1) := by decide +kernel
theorem dX1_init_68 : decode cX1_init 68 = .ok (.iinc 1 1, 3) := by decide +kernel
theorem dX1_init_71 : decode cX1_init 71 = .ok (.goto (-22), 3) := by decide +kernel
theorem dX1_init_74 : decode cX1_init 74 = .ok (.aload_n 0, 1) := by decide +kernel
theorem dX1_init_75 : decode cX1_init 75 = .ok (.iconst 2, 1) := by decide +kernel
theorem dX1_init_76 : decode cX1_init 76 = .ok (.anewarray 25, 3) := by decide +kernel
theorem dX1_init_79 : decode cX1_init 79 = .ok (.putfield 27, 3) := by decide +kernel
theorem dX1_init_82 : decode cX1_init 82 = .ok (.iconst 0, 1) := by decide +kernel
theorem dX1_init_83 : decode cX1_init 83 = .ok (.istore_n 1, 1) := by decide +kernel
theorem dX1_init_84 : decode cX1_init 84 = .ok (.iload_n 1, 1) := by decide +kernel
theorem dX1_init_85 : decode cX1_init 85 = .ok (.iconst 2, 1) := by decide +kernel
theorem dX1_init_86 : decode cX1_init 86 = .ok (.if_icmp .ge 22, 3) := by decide +kernel
theorem dX1_init_89 : decode cX1_init 89 = .ok (.aload_n 0, 1) := by decide +kernel
theorem dX1_init_90 : decode cX1_init 90 = .ok (.getfield 27, 3) := by decide +kernel
theorem dX1_init_93 : decode cX1_init 93 = .ok (.iload_n 1, 1) := by decide +kernel
theorem dX1_init_94 : decode cX1_init 94 = .ok (.new 25, 3) := by decide +kernel
theorem dX1_init_97 : decode cX1_init 97 = .ok (.dup, 1) := by decide +kernel
theorem dX1_init_98 : decode cX1_init 98 = .ok (.invokespecial 31, 3) := by decide +kernel
theorem dX1_init_101 : decode cX1_init 101 = .ok (.aastore, 1) := by decide +kernel
theorem dX1_init_102 : decode cX1_init 102 = .ok (.iinc 1 1, 3) := by decide +kernel
theorem dX1_init_105 : decode cX1_init 105 = .ok (.goto (-21), 3) := by decide +kernel
theorem dX1_init_108 : decode cX1_init 108 = .ok (.aload_n 0, 1) := by decide +kernel
theorem dX1_init_109 : decode cX1_init 109 = .ok (.invokevirtual 32, 3) := by decide +kernel
theorem dX1_init_112 : decode cX1_init 112 = .ok (.return_, 1) := by decide +kernel
theorem dX1_reset_0 : decode cX1_reset 0 = .ok (.aload_n 0, 1) := by decide +kernel
theorem dX1_reset_1 : decode cX1_reset 1 = .ok (.iconst 0, 1) := by decide +kernel
theorem dX1_reset_2 : decode cX1_reset 2 = .ok (.putfield 35, 3) := by decide +kernel
theorem dX1_reset_5 : decode cX1_reset 5 = .ok (.aload_n 0, 1) := by decide +kernel
theorem dX1_reset_6 : decode cX1_reset 6 = .ok (.iconst 0, 1) := by decide +kernel
theorem dX1_reset_7 : decode cX1_reset 7 = .ok (.putfield 39, 3) := by decide +kernel
theorem dX1_reset_10 : decode cX1_reset 10 = .ok (.aload_n 0, 1) := by decide +kernel
theorem dX1_reset_11 : decode cX1_reset 11 = .ok (.getfield 27, 3) := by decide +kernel
theorem dX1_reset_14 : decode cX1_reset 14 = .ok (.iconst 0, 1) := by decide +kernel
theorem dX1_reset_15 : decode cX1_reset 15 = .ok (.aaload, 1) := by decide +kernel
theorem dX1_reset_16 : decode cX1_reset 16 = .ok (.invokevirtual 42, 3) := by decide +kernel
theorem dX1_reset_19 : decode cX1_reset 19 = .ok (.aload_n 0, 1) := by decide +kernel
theorem dX1_reset_20 : decode cX1_reset 20 = .ok (.getfield 27, 3) := by decide +kernel
theorem dX1_reset_23 : decode cX1_reset 23 = .ok (.iconst 1, 1) := by decide +kernel
theorem dX1_reset_24 : decode cX1_reset 24 = .ok (.aaload, 1) := by decide +kernel
theorem dX1_reset_25 : decode cX1_reset 25 = .ok (.invokevirtual 42, 3) := by decide +kernel
theorem dX1_reset_28 : decode cX1_reset 28 = .ok (.aload_n 0, 1) := by decide +kernel
theorem dX1_reset_29 : decode cX1_reset 29 = .ok (.iconst 0, 1) := by decide +kernel
theorem dX1_reset_30 : decode cX1_reset 30 = .ok (.putfield 43, 3) := by decide +kernel
theorem dX1_reset_33 : decode cX1_reset 33 = .ok (.aload_n 0, 1) := by decide +kernel
theorem dX1_reset_34 : decode cX1_reset 34 = .ok (.iconst 1, 1) := by decide +kernel
theorem dX1_reset_35 : decode cX1_reset 35 = .ok (.putfield 46, 3) := by decide +kernel
theorem dX1_reset_38 : decode cX1_reset 38 = .ok (.aload_n 0, 1) := by decide +kernel
theorem dX1_reset_39 : decode cX1_reset 39 = .ok (.iconst 2, 1) := by decide +kernel
theorem dX1_reset_40 : decode cX1_reset 40 = .ok (.putfield 49, 3) := by decide +kernel
theorem dX1_reset_43 : decode cX1_reset 43 = .ok (.aload_n 0, 1) := by decide +kernel
theorem dX1_reset_44 : decode cX1_reset 44 = .ok (.bipush 12, 2) := by decide +kernel
theorem dX1_reset_46 : decode cX1_reset 46 = .ok (.putfield 52, 3) := by decide +kernel
theorem dX1_reset_49 : decode cX1_reset 49 = .ok (.aload_n 0, 1) := by decide +kernel
theorem dX1_reset_50 : decode cX1_reset 50 = .ok (.iconst 0, 1) := by decide +kernel
theorem dX1_reset_51 : decode cX1_reset 51 = .ok (.putfield 55, 3) := by decide +kernel
theorem dX1_reset_54 : decode cX1_reset 54 = .ok (.aload_n 0, 1) := by decide +kernel
theorem dX1_reset_55 : decode cX1_reset 55 = .ok (.iconst 0, 1) := by decide +kernel
theorem dX1_reset_56 : decode cX1_reset 56 = .ok (.putfield 58, 3) := by decide +kernel
theorem dX1_reset_59 : decode cX1_reset 59 = .ok (.return_, 1) := by decide +kernel
theorem dX1_become_0 : decode cX1_become 0 = .ok (.aload_n 0, 1) := by decide +kernel
theorem dX1_become_1 : decode cX1_become 1 = .ok (.aload_n 1, 1) := by decide +kernel
theorem dX1_become_2 : decode cX1_become 2 = .ok (.getfield 35, 3) := by decide +kernel
theorem dX1_become_5 : decode cX1_become 5 = .ok (.putfield 35, 3) := by decide +kernel
theorem dX1_become_8 : decode cX1_become 8 = .ok (.iconst 0, 1) := by decide +kernel
theorem dX1_become_9 : decode cX1_become 9 = .ok (.istore_n 2, 1) := by decide +kernel
theorem dX1_become_10 : decode cX1_become 10 = .ok (.iload_n 2, 1) := by decide +kernel
theorem dX1_become_11 : decode cX1_become 11 = .ok (.aload_n 0, 1) := by decide +kernel
theorem dX1_become_12 : decode cX1_become 12 = .ok (.getfield 35, 3) := by decide +kernel
theorem dX1_become_15 : decode cX1_become 15 = .ok (.if_icmp .ge 24, 3) := by decide +kernel
theorem dX1_become_18 : decode cX1_become 18 = .ok (.aload_n 0, 1) := by decide +kernel
theorem dX1_become_19 : decode cX1_become 19 = .ok (.getfield 11, 3) := by decide +kernel
theorem dX1_become_22 : decode cX1_become 22 = .ok (.iload_n 2, 1) := by decide +kernel
theorem dX1_become_23 : decode cX1_become 23 = .ok (.aaload, 1) := by decide +kernel
theorem dX1_become_24 : decode cX1_become 24 = .ok (.aload_n 1, 1) := by decide +kernel
theorem dX1_become_25 : decode cX1_become 25 = .ok (.getfield 11, 3) := by decide +kernel
theorem dX1_become_28 : decode cX1_become 28 = .ok (.iload_n 2, 1) := by decide +kernel
theorem dX1_become_29 : decode cX1_become 29 = .ok (.aaload, 1) := by decide +kernel
theorem dX1_become_30 : decode cX1_become 30 = .ok (.invokevirtual 61, 3) := by decide +kernel
theorem dX1_become_33 : decode cX1_become 33 = .ok (.iinc 2 1, 3) := by decide +kernel
theorem dX1_become_36 : decode cX1_become 36 = .ok (.goto (-26), 3) := by decide +kernel
theorem dX1_become_39 : decode cX1_become 39 = .ok (.aload_n 0, 1) := by decide +kernel
theorem dX1_become_40 : decode cX1_become 40 = .ok (.aload_n 1, 1) := by decide +kernel
theorem dX1_become_41 : decode cX1_become 41 = .ok (.getfield 39, 3) := by decide +kernel
theorem dX1_become_44 : decode cX1_become 44 = .ok (.putfield 39, 3) := by decide +kernel
theorem dX1_become_47 : decode cX1_become 47 = .ok (.iconst 0, 1) := by decide +kernel
theorem dX1_become_48 : decode cX1_become 48 = .ok (.istore_n 2, 1) := by decide +kernel
theorem dX1_become_49 : decode cX1_become 49 = .ok (.iload_n 2, 1) := by decide +kernel
theorem dX1_become_50 : decode cX1_become 50 = .ok (.aload_n 0, 1) := by decide +kernel
theorem dX1_become_51 : decode cX1_become 51 = .ok (.getfield 39, 3) := by decide +kernel
theorem dX1_become_54 : decode cX1_become 54 = .ok (.if_icmp .ge 24, 3) := by decide +kernel
theorem dX1_become_57 : decode cX1_become 57 = .ok (.aload_n 0, 1) := by decide +kernel
theorem dX1_become_58 : decode cX1_become 58 = .ok (.getfield 20, 3) := by decide +kernel
theorem dX1_become_61 : decode cX1_become 61 = .ok (.iload_n 2, 1) := by decide +kernel
theorem dX1_become_62 : decode cX1_become 62 = .ok (.aaload, 1) := by decide +kernel
theorem dX1_become_63 : decode cX1_become 63 = .ok (.aload_n 1, 1) := by decide +kernel
theorem dX1_become_64 : decode cX1_become 64 = .ok (.getfield 20, 3) := by decide +kernel
theorem dX1_become_67 : decode cX1_become 67 = .ok (.iload_n 2, 1) := by decide +kernel
theorem dX1_become_68 : decode cX1_become 68 = .ok (.aaload, 1) := by decide +kernel
theorem dX1_become_69 : decode cX1_become 69 = .ok (.invokevirtual 65, 3) := by decide +kernel
theorem dX1_become_72 : decode cX1_become 72 = .ok (.iinc 2 1, 3) := by decide +kernel
theorem dX1_become_75 : decode cX1_become 75 = .ok (.goto (-26), 3) := by decide +kernel
theorem dX1_become_78 : decode cX1_become 78 = .ok (.aload_n 0, 1) := by decide +kernel
theorem dX1_become_79 : decode cX1_become 79 = .ok (.getfield 27, 3) := by decide +kernel
theorem dX1_become_82 : decode cX1_become 82 = .ok (.iconst 0, 1) := by decide +kernel
theorem dX1_become_83 : decode cX1_become 83 = .ok (.aaload, 1) := by decide +kernel
theorem dX1_become_84 : decode cX1_become 84 = .ok (.aload_n 1, 1) := by decide +kernel
theorem dX1_become_85 : decode cX1_become 85 = .ok (.getfield 27, 3) := by decide +kernel
theorem dX1_become_88 : decode cX1_become 88 = .ok (.iconst 0, 1) := by decide +kernel
theorem dX1_become_89 : decode cX1_become 89 = .ok (.aaload, 1) := by decide +kernel
theorem dX1_become_90 : decode cX1_become 90 = .ok (.invokevirtual 68, 3) := by decide +kernel
theorem dX1_become_93 : decode cX1_become 93 = .ok (.aload_n 0, 1) := by decide +kernel
theorem dX1_become_94 : decode cX1_become 94 = .ok (.getfield 27, 3) := by decide +kernel
theorem dX1_become_97 : decode cX1_become 97 = .ok (.iconst 1, 1) := by decide +kernel
theorem dX1_become_98 : decode cX1_become 98 = .ok (.aaload, 1) := by decide +kernel
theorem dX1_become_99 : decode cX1_become 99 = .ok (.aload_n 1, 1) := by decide +kernel
theorem dX1_become_100 : decode cX1_become 100 = .ok (.getfield 27, 3) := by decide +kernel
theorem dX1_become_103 : decode cX1_become 103 = .ok (.iconst 1, 1) := by decide +kernel
theorem dX1_become_104 : decode cX1_become 104 = .ok (.aaload, 1) := by decide +kernel
theorem dX1_become_105 : decode cX1_become 105 = .ok (.invokevirtual 68, 3) := by decide +kernel
theorem dX1_become_108 : decode cX1_become 108 = .ok (.aload_n 0, 1) := by decide +kernel
theorem dX1_become_109 : decode cX1_become 109 = .ok (.aload_n 1, 1) := by decide +kernel
theorem dX1_become_110 : decode cX1_become 110 = .ok (.getfield 43, 3) := by decide +kernel
theorem dX1_become_113 : decode cX1_become 113 = .ok (.putfield 43, 3) := by decide +kernel
theorem dX1_become_116 : decode cX1_become 116 = .ok (.aload_n 0, 1) := by decide +kernel
theorem dX1_become_117 : decode cX1_become 117 = .ok (.aload_n 1, 1) := by decide +kernel
theorem dX1_become_118 : decode cX1_become 118 = .ok (.getfield 46, 3) := by decide +kernel
theorem dX1_become_121 : decode cX1_become 121 = .ok (.putfield 46, 3) := by decide +kernel
theorem dX1_become_124 : decode cX1_become 124 = .ok (.aload_n 0, 1) := by decide +kernel
theorem dX1_become_125 : decode cX1_become 125 = .ok (.aload_n 1, 1) := by decide +kernel
theorem dX1_become_126 : decode cX1_become 126 = .ok (.getfield 49, 3) := by decide +kernel
theorem dX1_become_129 : decode cX1_become 129 = .ok (.putfield 49, 3) := by decide +kernel
theorem dX1_become_132 : decode cX1_become 132 = .ok (.aload_n 0, 1) := by decide +kernel
theorem dX1_become_133 : decode cX1_become 133 = .ok (.aload_n 1, 1) := by decide +kernel
theorem dX1_become_134 : decode cX1_become 134 = .ok (.getfield 52, 3) := by decide +kernel
theorem dX1_become_137 : decode cX1_become 137 = .ok (.putfield 52, 3) := by decide +kernel
theorem dX1_become_140 : decode cX1_become 140 = .ok (.aload_n 0, 1) := by decide +kernel
theorem dX1_become_141 : decode cX1_become 141 = .ok (.aload_n 1, 1) := by decide +kernel
theorem dX1_become_142 : decode cX1_become 142 = .ok (.getfield 55, 3) := by decide +kernel
theorem dX1_become_145 : decode cX1_become 145 = .ok (.putfield 55, 3) := by decide +kernel
theorem dX1_become_148 : decode cX1_become 148 = .ok (.aload_n 0, 1) := by decide +kernel
theorem dX1_become_149 : decode cX1_become 149 = .ok (.aload_n 1, 1) := by decide +kernel
theorem dX1_become_150 : decode cX1_become 150 = .ok (.getfield 58, 3) := by decide +kernel
theorem dX1_become_153 : decode cX1_become 153 = .ok (.putfield 58, 3) := by decide +kernel
theorem dX1_become_156 : decode cX1_become 156 = .ok (.return_, 1) := by decide +kernel
theorem dX1_isRink_0 : decode cX1_isRink 0 = .ok (.iload_n 1, 1) := by decide +kernel
theorem dX1_isRink_1 : decode cX1_isRink 1 = .ok (.ifCond .lt 15, 3) := by decide +kernel
theorem dX1_isRink_4 : decode cX1_isRink 4 = .ok (.iload_n 1, 1) := by decide +kernel
theorem dX1_isRink_5 : decode cX1_isRink 5 = .ok (.aload_n 0, 1) := by decide +kernel
theorem dX1_isRink_6 : decode cX1_isRink 6 = .ok (.getfield 35, 3) := by decide +kernel
theorem dX1_isRink_9 : decode cX1_isRink 9 = .ok (.if_icmp .ge 7, 3) := by decide +kernel
theorem dX1_isRink_12 : decode cX1_isRink 12 = .ok (.iconst 1, 1) := by decide +kernel
theorem dX1_isRink_13 : decode cX1_isRink 13 = .ok (.goto 4, 3) := by decide +kernel
theorem dX1_isRink_16 : decode cX1_isRink 16 = .ok (.iconst 0, 1) := by decide +kernel
theorem dX1_isRink_17 : decode cX1_isRink 17 = .ok (.ireturn, 1) := by decide +kernel
theorem dX1_isWood_0 : decode cX1_isWood 0 = .ok (.iload_n 1, 1) := by decide +kernel
theorem dX1_isWood_1 : decode cX1_isWood 1 = .ok (.ifCond .lt 15, 3) := by decide +kernel
theorem dX1_isWood_4 : decode cX1_isWood 4 = .ok (.iload_n 1, 1) := by decide +kernel
theorem dX1_isWood_5 : decode cX1_isWood 5 = .ok (.aload_n 0, 1) := by decide +kernel
theorem dX1_isWood_6 : decode cX1_isWood 6 = .ok (.getfield 39, 3) := by decide +kernel
theorem dX1_isWood_9 : decode cX1_isWood 9 = .ok (.if_icmp .ge 7, 3) := by decide +kernel
theorem dX1_isWood_12 : decode cX1_isWood 12 = .ok (.iconst 1, 1) := by decide +kernel
theorem dX1_isWood_13 : decode cX1_isWood 13 = .ok (.goto 4, 3) := by decide +kernel
theorem dX1_isWood_16 : decode cX1_isWood 16 = .ok (.iconst 0, 1) := by decide +kernel
theorem dX1_isWood_17 : decode cX1_isWood 17 = .ok (.ireturn, 1) := by decide +kernel
theorem dX1_lowestRinkWithin_0 : decode cX1_lowestRinkWithin 0 = .ok (.iconst 0, 1) := by decide +kernel
theorem dX1_lowestRinkWithin_1 : decode cX1_lowestRinkWithin 1 = .ok (.istore_n 3, 1) := by decide +kernel
theorem dX1_lowestRinkWithin_2 : decode cX1_lowestRinkWithin 2 = .ok (.iload_n 3, 1) := by decide +kernel
theorem dX1_lowestRinkWithin_3 : decode cX1_lowestRinkWithin 3 = .ok (.aload_n 0, 1) := by decide +kernel
theorem dX1_lowestRinkWithin_4 : decode cX1_lowestRinkWithin 4 = .ok (.getfield 35, 3) := by decide +kernel
theorem dX1_lowestRinkWithin_7 : decode cX1_lowestRinkWithin 7 = .ok (.if_icmp .ge 37, 3) := by decide +kernel
theorem dX1_lowestRinkWithin_10 : decode cX1_lowestRinkWithin 10 = .ok (.aload_n 0, 1) := by decide +kernel
theorem dX1_lowestRinkWithin_11 : decode cX1_lowestRinkWithin 11 = .ok (.getfield 11, 3) := by decide +kernel
theorem dX1_lowestRinkWithin_14 : decode cX1_lowestRinkWithin 14 = .ok (.iload_n 3, 1) := by decide +kernel
theorem dX1_lowestRinkWithin_15 : decode cX1_lowestRinkWithin 15 = .ok (.aaload, 1) := by decide +kernel
theorem dX1_lowestRinkWithin_16 : decode cX1_lowestRinkWithin 16 = .ok (.getfield 71, 3) := by decide +kernel
theorem dX1_lowestRinkWithin_19 : decode cX1_lowestRinkWithin 19 = .ok (.iload_n 2, 1) := by decide +kernel
theorem dX1_lowestRinkWithin_20 : decode cX1_lowestRinkWithin 20 = .ok (.if_icmp .gt 18, 3) := by decide +kernel
theorem dX1_lowestRinkWithin_23 : decode cX1_lowestRinkWithin 23 = .ok (.aload_n 0, 1) := by decide +kernel
theorem dX1_lowestRinkWithin_24 : decode cX1_lowestRinkWithin 24 = .ok (.getfield 11, 3) := by decide +kernel
theorem dX1_lowestRinkWithin_27 : decode cX1_lowestRinkWithin 27 = .ok (.iload_n 3, 1) := by decide +kernel
theorem dX1_lowestRinkWithin_28 : decode cX1_lowestRinkWithin 28 = .ok (.aaload, 1) := by decide +kernel
theorem dX1_lowestRinkWithin_29 : decode cX1_lowestRinkWithin 29 = .ok (.getfield 74, 3) := by decide +kernel
theorem dX1_lowestRinkWithin_32 : decode cX1_lowestRinkWithin 32 = .ok (.iload_n 1, 1) := by decide +kernel
theorem dX1_lowestRinkWithin_33 : decode cX1_lowestRinkWithin 33 = .ok (.if_icmp .lt 5, 3) := by decide +kernel
theorem dX1_lowestRinkWithin_36 : decode cX1_lowestRinkWithin 36 = .ok (.iload_n 3, 1) := by decide +kernel
theorem dX1_lowestRinkWithin_37 : decode cX1_lowestRinkWithin 37 = .ok (.ireturn, 1) := by decide +kernel
theorem dX1_lowestRinkWithin_38 : decode cX1_lowestRinkWithin 38 = .ok (.iinc 3 1, 3) := by decide +kernel
theorem dX1_lowestRinkWithin_41 : decode cX1_lowestRinkWithin 41 = .ok (.goto (-39), 3) := by decide +kernel
theorem dX1_lowestRinkWithin_44 : decode cX1_lowestRinkWithin 44 = .ok (.iconst (-1), 1) := by decide +kernel
theorem dX1_lowestRinkWithin_45 : decode cX1_lowestRinkWithin 45 = .ok (.ireturn, 1) := by decide +kernel
theorem dX1_rinkInOrder_0 : decode cX1_rinkInOrder 0 = .ok (.iconst 0, 1) := by decide +kernel
theorem dX1_rinkInOrder_1 : decode cX1_rinkInOrder 1 = .ok (.istore_n 2, 1) := by decide +kernel
theorem dX1_rinkInOrder_2 : decode cX1_rinkInOrder 2 = .ok (.iload_n 2, 1) := by decide +kernel
theorem dX1_rinkInOrder_3 : decode cX1_rinkInOrder 3 = .ok (.aload_n 0, 1) := by decide +kernel
theorem dX1_rinkInOrder_4 : decode cX1_rinkInOrder 4 = .ok (.getfield 35, 3) := by decide +kernel
theorem dX1_rinkInOrder_7 : decode cX1_rinkInOrder 7 = .ok (.if_icmp .ge 61, 3) := by decide +kernel
theorem dX1_rinkInOrder_10 : decode cX1_rinkInOrder 10 = .ok (.iconst 0, 1) := by decide +kernel
theorem dX1_rinkInOrder_11 : decode cX1_rinkInOrder 11 = .ok (.istore_n 3, 1) := by decide +kernel
theorem dX1_rinkInOrder_12 : decode cX1_rinkInOrder 12 = .ok (.iconst 0, 1) := by decide +kernel
theorem dX1_rinkInOrder_13 : decode cX1_rinkInOrder 13 = .ok (.istore 4, 2) := by decide +kernel
theorem dX1_rinkInOrder_15 : decode cX1_rinkInOrder 15 = .ok (.iload 4, 2) := by decide +kernel
theorem dX1_rinkInOrder_17 : decode cX1_rinkInOrder 17 = .ok (.aload_n 0, 1) := by decide +kernel
theorem dX1_rinkInOrder_18 : decode cX1_rinkInOrder 18 = .ok (.getfield 35, 3) := by decide +kernel
theorem dX1_rinkInOrder_21 : decode cX1_rinkInOrder 21 = .ok (.if_icmp .ge 34, 3) := by decide +kernel
theorem dX1_rinkInOrder_24 : decode cX1_rinkInOrder 24 = .ok (.aload_n 0, 1) := by decide +kernel
theorem dX1_rinkInOrder_25 : decode cX1_rinkInOrder 25 = .ok (.getfield 11, 3) := by decide +kernel
theorem dX1_rinkInOrder_28 : decode cX1_rinkInOrder 28 = .ok (.iload 4, 2) := by decide +kernel
theorem dX1_rinkInOrder_30 : decode cX1_rinkInOrder 30 = .ok (.aaload, 1) := by decide +kernel
theorem dX1_rinkInOrder_31 : decode cX1_rinkInOrder 31 = .ok (.getfield 71, 3) := by decide +kernel
theorem dX1_rinkInOrder_34 : decode cX1_rinkInOrder 34 = .ok (.aload_n 0, 1) := by decide +kernel
theorem dX1_rinkInOrder_35 : decode cX1_rinkInOrder 35 = .ok (.getfield 11, 3) := by decide +kernel
theorem dX1_rinkInOrder_38 : decode cX1_rinkInOrder 38 = .ok (.iload_n 2, 1) := by decide +kernel
theorem dX1_rinkInOrder_39 : decode cX1_rinkInOrder 39 = .ok (.aaload, 1) := by decide +kernel
theorem dX1_rinkInOrder_40 : decode cX1_rinkInOrder 40 = .ok (.getfield 71, 3) := by decide +kernel
theorem dX1_rinkInOrder_43 : decode cX1_rinkInOrder 43 = .ok (.if_icmp .ge 6, 3) := by decide +kernel
theorem dX1_rinkInOrder_46 : decode cX1_rinkInOrder 46 = .ok (.iinc 3 1, 3) := by decide +kernel
theorem dX1_rinkInOrder_49 : decode cX1_rinkInOrder 49 = .ok (.iinc 4 1, 3) := by decide +kernel
theorem dX1_rinkInOrder_52 : decode cX1_rinkInOrder 52 = .ok (.goto (-37), 3) := by decide +kernel
theorem dX1_rinkInOrder_55 : decode cX1_rinkInOrder 55 = .ok (.iload_n 3, 1) := by decide +kernel
theorem dX1_rinkInOrder_56 : decode cX1_rinkInOrder 56 = .ok (.iload_n 1, 1) := by decide +kernel
theorem dX1_rinkInOrder_57 : decode cX1_rinkInOrder 57 = .ok (.if_icmp .ne 5, 3) := by decide +kernel
theorem dX1_rinkInOrder_60 : decode cX1_rinkInOrder 60 = .ok (.iload_n 2, 1) := by decide +kernel
theorem dX1_rinkInOrder_61 : decode cX1_rinkInOrder 61 = .ok (.ireturn, 1) := by decide +kernel
theorem dX1_rinkInOrder_62 : decode cX1_rinkInOrder 62 = .ok (.iinc 2 1, 3) := by decide +kernel
theorem dX1_rinkInOrder_65 : decode cX1_rinkInOrder 65 = .ok (.goto (-63), 3) := by decide +kernel
theorem dX1_rinkInOrder_68 : decode cX1_rinkInOrder 68 = .ok (.iconst (-1), 1) := by decide +kernel
theorem dX1_rinkInOrder_69 : decode cX1_rinkInOrder 69 = .ok (.ireturn, 1) := by decide +kernel
theorem dX1_landing_0 : decode cX1_landing 0 = .ok (.aload_n 0, 1) := by decide +kernel
theorem dX1_landing_1 : decode cX1_landing 1 = .ok (.getfield 11, 3) := by decide +kernel
theorem dX1_landing_4 : decode cX1_landing 4 = .ok (.iload_n 1, 1) := by decide +kernel
theorem dX1_landing_5 : decode cX1_landing 5 = .ok (.aaload, 1) := by decide +kernel
theorem dX1_landing_6 : decode cX1_landing 6 = .ok (.astore 6, 2) := by decide +kernel
theorem dX1_landing_8 : decode cX1_landing 8 = .ok (.aload_n 0, 1) := by decide +kernel
theorem dX1_landing_9 : decode cX1_landing 9 = .ok (.getfield 20, 3) := by decide +kernel
theorem dX1_landing_12 : decode cX1_landing 12 = .ok (.iload_n 2, 1) := by decide +kernel
theorem dX1_landing_13 : decode cX1_landing 13 = .ok (.aaload, 1) := by decide +kernel
theorem dX1_landing_14 : decode cX1_landing 14 = .ok (.getfield 77, 3) := by decide +kernel
theorem dX1_landing_17 : decode cX1_landing 17 = .ok (.iload 4, 2) := by decide +kernel
theorem dX1_landing_19 : decode cX1_landing 19 = .ok (.imul, 1) := by decide +kernel
theorem dX1_landing_20 : decode cX1_landing 20 = .ok (.bipush 10, 2) := by decide +kernel
theorem dX1_landing_22 : decode cX1_landing 22 = .ok (.idiv, 1) := by decide +kernel
theorem dX1_landing_23 : decode cX1_landing 23 = .ok (.istore 7, 2) := by decide +kernel
theorem dX1_landing_25 : decode cX1_landing 25 = .ok (.iload 5, 2) := by decide +kernel
theorem dX1_landing_27 : decode cX1_landing 27 = .ok (.ifCond .eq 10, 3) := by decide +kernel
theorem dX1_landing_30 : decode cX1_landing 30 = .ok (.iload_n 3, 1) := by decide +kernel
theorem dX1_landing_31 : decode cX1_landing 31 = .ok (.iload 7, 2) := by decide +kernel
theorem dX1_landing_33 : decode cX1_landing 33 = .ok (.iadd, 1) := by decide +kernel
theorem dX1_landing_34 : decode cX1_landing 34 = .ok (.goto 7, 3) := by decide +kernel
theorem dX1_landing_37 : decode cX1_landing 37 = .ok (.iload_n 3, 1) := by decide +kernel
theorem dX1_landing_38 : decode cX1_landing 38 = .ok (.iload 7, 2) := by decide +kernel
theorem dX1_landing_40 : decode cX1_landing 40 = .ok (.isub, 1) := by decide +kernel
theorem dX1_landing_41 : decode cX1_landing 41 = .ok (.istore 8, 2) := by decide +kernel
theorem dX1_landing_43 : decode cX1_landing 43 = .ok (.iconst 0, 1) := by decide +kernel
theorem dX1_landing_44 : decode cX1_landing 44 = .ok (.iconst 4, 1) := by decide +kernel
theorem dX1_landing_45 : decode cX1_landing 45 = .ok (.iconst 2, 1) := by decide +kernel
theorem dX1_landing_46 : decode cX1_landing 46 = .ok (.iload 4, 2) := by decide +kernel
theorem dX1_landing_48 : decode cX1_landing 48 = .ok (.imul, 1) := by decide +kernel
theorem dX1_landing_49 : decode cX1_landing 49 = .ok (.iadd, 1) := by decide +kernel
theorem dX1_landing_50 : decode cX1_landing 50 = .ok (.aload 6, 2) := by decide +kernel
theorem dX1_landing_52 : decode cX1_landing 52 = .ok (.getfield 80, 3) := by decide +kernel
theorem dX1_landing_55 : decode cX1_landing 55 = .ok (.iconst 2, 1) := by decide +kernel
theorem dX1_landing_56 : decode cX1_landing 56 = .ok (.idiv, 1) := by decide +kernel
theorem dX1_landing_57 : decode cX1_landing 57 = .ok (.isub, 1) := by decide +kernel
theorem dX1_landing_58 : decode cX1_landing 58 = .ok (.aload 6, 2) := by decide +kernel
theorem dX1_landing_60 : decode cX1_landing 60 = .ok (.getfield 83, 3) := by decide +kernel
theorem dX1_landing_63 : decode cX1_landing 63 = .ok (.isub, 1) := by decide +kernel
theorem dX1_landing_64 : decode cX1_landing 64 = .ok (.invokestatic 86, 3) := by decide +kernel
theorem dX1_landing_67 : decode cX1_landing 67 = .ok (.istore 9, 2) := by decide +kernel
theorem dX1_landing_69 : decode cX1_landing 69 = .ok (.aload 6, 2) := by decide +kernel
theorem dX1_landing_71 : decode cX1_landing 71 = .ok (.iload 8, 2) := by decide +kernel
theorem dX1_landing_73 : decode cX1_landing 73 = .ok (.invokevirtual 92, 3) := by decide +kernel
theorem dX1_landing_76 : decode cX1_landing 76 = .ok (.ifCond .eq 10, 3) := by decide +kernel
theorem dX1_landing_79 : decode cX1_landing 79 = .ok (.iload 9, 2) := by decide +kernel
theorem dX1_landing_81 : decode cX1_landing 81 = .ok (.bipush 40, 2) := by decide +kernel
theorem dX1_landing_83 : decode cX1_landing 83 = .ok (.if_icmp .le 6, 3) := by decide +kernel
theorem dX1_landing_86 : decode cX1_landing 86 = .ok (.bipush (-4), 2) := by decide +kernel
theorem dX1_landing_88 : decode cX1_landing 88 = .ok (.ireturn, 1) := by decide +kernel
theorem dX1_landing_89 : decode cX1_landing 89 = .ok (.iload 9, 2) := by decide +kernel
theorem dX1_landing_91 : decode cX1_landing 91 = .ok (.istore 10, 2) := by decide +kernel
theorem dX1_landing_93 : decode cX1_landing 93 = .ok (.iload 10, 2) := by decide +kernel
theorem dX1_landing_95 : decode cX1_landing 95 = .ok (.ifCond .lt 31, 3) := by decide +kernel
theorem dX1_landing_98 : decode cX1_landing 98 = .ok (.aload_n 0, 1) := by decide +kernel
theorem dX1_landing_99 : decode cX1_landing 99 = .ok (.iload_n 1, 1) := by decide +kernel
theorem dX1_landing_100 : decode cX1_landing 100 = .ok (.iload_n 2, 1) := by decide +kernel
theorem dX1_landing_101 : decode cX1_landing 101 = .ok (.iload 8, 2) := by decide +kernel
theorem dX1_landing_103 : decode cX1_landing 103 = .ok (.iload 10, 2) := by decide +kernel
theorem dX1_landing_105 : decode cX1_landing 105 = .ok (.invokevirtual 96, 3) := by decide +kernel
theorem dX1_landing_108 : decode cX1_landing 108 = .ok (.ifCond .ne 12, 3) := by decide +kernel
theorem dX1_landing_111 : decode cX1_landing 111 = .ok (.bipush 100, 2) := by decide +kernel
theorem dX1_landing_113 : decode cX1_landing 113 = .ok (.iload 8, 2) := by decide +kernel
theorem dX1_landing_115 : decode cX1_landing 115 = .ok (.imul, 1) := by decide +kernel
theorem dX1_landing_116 : decode cX1_landing 116 = .ok (.iload 10, 2) := by decide +kernel
theorem dX1_landing_118 : decode cX1_landing 118 = .ok (.iadd, 1) := by decide +kernel
theorem dX1_landing_119 : decode cX1_landing 119 = .ok (.ireturn, 1) := by decide +kernel
theorem dX1_landing_120 : decode cX1_landing 120 = .ok (.iinc 10 (-1), 3) := by decide +kernel
theorem dX1_landing_123 : decode cX1_landing 123 = .ok (.goto (-30), 3) := by decide +kernel
theorem dX1_landing_126 : decode cX1_landing 126 = .ok (.bipush (-4), 2) := by decide +kernel
theorem dX1_landing_128 : decode cX1_landing 128 = .ok (.ireturn, 1) := by decide +kernel
theorem dX1_isTaken_0 : decode cX1_isTaken 0 = .ok (.iconst 0, 1) := by decide +kernel
theorem dX1_isTaken_1 : decode cX1_isTaken 1 = .ok (.istore 5, 2) := by decide +kernel
theorem dX1_isTaken_3 : decode cX1_isTaken 3 = .ok (.iload 5, 2) := by decide +kernel
theorem dX1_isTaken_5 : decode cX1_isTaken 5 = .ok (.aload_n 0, 1) := by decide +kernel
theorem dX1_isTaken_6 : decode cX1_isTaken 6 = .ok (.getfield 39, 3) := by decide +kernel
theorem dX1_isTaken_9 : decode cX1_isTaken 9 = .ok (.if_icmp .ge 54, 3) := by decide +kernel
theorem dX1_isTaken_12 : decode cX1_isTaken 12 = .ok (.aload_n 0, 1) := by decide +kernel
theorem dX1_isTaken_13 : decode cX1_isTaken 13 = .ok (.getfield 20, 3) := by decide +kernel
theorem dX1_isTaken_16 : decode cX1_isTaken 16 = .ok (.iload 5, 2) := by decide +kernel
theorem dX1_isTaken_18 : decode cX1_isTaken 18 = .ok (.aaload, 1) := by decide +kernel
theorem dX1_isTaken_19 : decode cX1_isTaken 19 = .ok (.astore 6, 2) := by decide +kernel
theorem dX1_isTaken_21 : decode cX1_isTaken 21 = .ok (.iload 5, 2) := by decide +kernel
theorem dX1_isTaken_23 : decode cX1_isTaken 23 = .ok (.iload_n 2, 1) := by decide +kernel
theorem dX1_isTaken_24 : decode cX1_isTaken 24 = .ok (.if_icmp .eq 33, 3) := by decide +kernel
theorem dX1_isTaken_27 : decode cX1_isTaken 27 = .ok (.aload 6, 2) := by decide +kernel
theorem dX1_isTaken_29 : decode cX1_isTaken 29 = .ok (.iload_n 1, 1) := by decide +kernel
theorem dX1_isTaken_30 : decode cX1_isTaken 30 = .ok (.invokevirtual 100, 3) := by decide +kernel
theorem dX1_isTaken_33 : decode cX1_isTaken 33 = .ok (.ifCond .eq 24, 3) := by decide +kernel
theorem dX1_isTaken_36 : decode cX1_isTaken 36 = .ok (.aload 6, 2) := by decide +kernel
theorem dX1_isTaken_38 : decode cX1_isTaken 38 = .ok (.getfield 103, 3) := by decide +kernel
theorem dX1_isTaken_41 : decode cX1_isTaken 41 = .ok (.iload_n 3, 1) := by decide +kernel
theorem dX1_isTaken_42 : decode cX1_isTaken 42 = .ok (.if_icmp .ne 15, 3) := by decide +kernel
theorem dX1_isTaken_45 : decode cX1_isTaken 45 = .ok (.aload 6, 2) := by decide +kernel
theorem dX1_isTaken_47 : decode cX1_isTaken 47 = .ok (.getfield 106, 3) := by decide +kernel
theorem dX1_isTaken_50 : decode cX1_isTaken 50 = .ok (.iload 4, 2) := by decide +kernel
theorem dX1_isTaken_52 : decode cX1_isTaken 52 = .ok (.if_icmp .ne 5, 3) := by decide +kernel
theorem dX1_isTaken_55 : decode cX1_isTaken 55 = .ok (.iconst 1, 1) := by decide +kernel
theorem dX1_isTaken_56 : decode cX1_isTaken 56 = .ok (.ireturn, 1) := by decide +kernel
theorem dX1_isTaken_57 : decode cX1_isTaken 57 = .ok (.iinc 5 1, 3) := by decide +kernel
theorem dX1_isTaken_60 : decode cX1_isTaken 60 = .ok (.goto (-57), 3) := by decide +kernel
theorem dX1_isTaken_63 : decode cX1_isTaken 63 = .ok (.iconst 0, 1) := by decide +kernel
theorem dX1_isTaken_64 : decode cX1_isTaken 64 = .ok (.ireturn, 1) := by decide +kernel
theorem dX1_woodInOrder_0 : decode cX1_woodInOrder 0 = .ok (.iconst 0, 1) := by decide +kernel
theorem dX1_woodInOrder_1 : decode cX1_woodInOrder 1 = .ok (.istore_n 3, 1) := by decide +kernel
theorem dX1_woodInOrder_2 : decode cX1_woodInOrder 2 = .ok (.iload_n 3, 1) := by decide +kernel
theorem dX1_woodInOrder_3 : decode cX1_woodInOrder 3 = .ok (.aload_n 0, 1) := by decide +kernel
theorem dX1_woodInOrder_4 : decode cX1_woodInOrder 4 = .ok (.getfield 39, 3) := by decide +kernel
theorem dX1_woodInOrder_7 : decode cX1_woodInOrder 7 = .ok (.if_icmp .ge 34, 3) := by decide +kernel
theorem dX1_woodInOrder_10 : decode cX1_woodInOrder 10 = .ok (.aload_n 0, 1) := by decide +kernel
theorem dX1_woodInOrder_11 : decode cX1_woodInOrder 11 = .ok (.getfield 20, 3) := by decide +kernel
theorem dX1_woodInOrder_14 : decode cX1_woodInOrder 14 = .ok (.iload_n 3, 1) := by decide +kernel
theorem dX1_woodInOrder_15 : decode cX1_woodInOrder 15 = .ok (.aaload, 1) := by decide +kernel
theorem dX1_woodInOrder_16 : decode cX1_woodInOrder 16 = .ok (.iload_n 1, 1) := by decide +kernel
theorem dX1_woodInOrder_17 : decode cX1_woodInOrder 17 = .ok (.invokevirtual 100, 3) := by decide +kernel
theorem dX1_woodInOrder_20 : decode cX1_woodInOrder 20 = .ok (.ifCond .eq 15, 3) := by decide +kernel
theorem dX1_woodInOrder_23 : decode cX1_woodInOrder 23 = .ok (.aload_n 0, 1) := by decide +kernel
theorem dX1_woodInOrder_24 : decode cX1_woodInOrder 24 = .ok (.iload_n 1, 1) := by decide +kernel
theorem dX1_woodInOrder_25 : decode cX1_woodInOrder 25 = .ok (.iload_n 3, 1) := by decide +kernel
theorem dX1_woodInOrder_26 : decode cX1_woodInOrder 26 = .ok (.invokevirtual 109, 3) := by decide +kernel
theorem dX1_woodInOrder_29 : decode cX1_woodInOrder 29 = .ok (.iload_n 2, 1) := by decide +kernel
theorem dX1_woodInOrder_30 : decode cX1_woodInOrder 30 = .ok (.if_icmp .ne 5, 3) := by decide +kernel
theorem dX1_woodInOrder_33 : decode cX1_woodInOrder 33 = .ok (.iload_n 3, 1) := by decide +kernel
theorem dX1_woodInOrder_34 : decode cX1_woodInOrder 34 = .ok (.ireturn, 1) := by decide +kernel
theorem dX1_woodInOrder_35 : decode cX1_woodInOrder 35 = .ok (.iinc 3 1, 3) := by decide +kernel
theorem dX1_woodInOrder_38 : decode cX1_woodInOrder 38 = .ok (.goto (-36), 3) := by decide +kernel
theorem dX1_woodInOrder_41 : decode cX1_woodInOrder 41 = .ok (.bipush (-4), 2) := by decide +kernel
theorem dX1_woodInOrder_43 : decode cX1_woodInOrder 43 = .ok (.ireturn, 1) := by decide +kernel
theorem dX1_woodsBefore_0 : decode cX1_woodsBefore 0 = .ok (.aload_n 0, 1) := by decide +kernel
theorem dX1_woodsBefore_1 : decode cX1_woodsBefore 1 = .ok (.getfield 20, 3) := by decide +kernel
theorem dX1_woodsBefore_4 : decode cX1_woodsBefore 4 = .ok (.iload_n 2, 1) := by decide +kernel
theorem dX1_woodsBefore_5 : decode cX1_woodsBefore 5 = .ok (.aaload, 1) := by decide +kernel
theorem dX1_woodsBefore_6 : decode cX1_woodsBefore 6 = .ok (.getfield 112, 3) := by decide +kernel
theorem dX1_woodsBefore_9 : decode cX1_woodsBefore 9 = .ok (.istore_n 3, 1) := by decide +kernel
theorem dX1_woodsBefore_10 : decode cX1_woodsBefore 10 = .ok (.iconst 0, 1) := by decide +kernel
theorem dX1_woodsBefore_11 : decode cX1_woodsBefore 11 = .ok (.istore 4, 2) := by decide +kernel
theorem dX1_woodsBefore_13 : decode cX1_woodsBefore 13 = .ok (.iconst 0, 1) := by decide +kernel
theorem dX1_woodsBefore_14 : decode cX1_woodsBefore 14 = .ok (.istore 5, 2) := by decide +kernel
theorem dX1_woodsBefore_16 : decode cX1_woodsBefore 16 = .ok (.iload 5, 2) := by decide +kernel
theorem dX1_woodsBefore_18 : decode cX1_woodsBefore 18 = .ok (.aload_n 0, 1) := by decide +kernel
theorem dX1_woodsBefore_19 : decode cX1_woodsBefore 19 = .ok (.getfield 39, 3) := by decide +kernel
theorem dX1_woodsBefore_22 : decode cX1_woodsBefore 22 = .ok (.if_icmp .ge 66, 3) := by decide +kernel
theorem dX1_woodsBefore_25 : decode cX1_woodsBefore 25 = .ok (.aload_n 0, 1) := by decide +kernel
theorem dX1_woodsBefore_26 : decode cX1_woodsBefore 26 = .ok (.getfield 20, 3) := by decide +kernel
theorem dX1_woodsBefore_29 : decode cX1_woodsBefore 29 = .ok (.iload 5, 2) := by decide +kernel
theorem dX1_woodsBefore_31 : decode cX1_woodsBefore 31 = .ok (.aaload, 1) := by decide +kernel
theorem dX1_woodsBefore_32 : decode cX1_woodsBefore 32 = .ok (.astore 6, 2) := by decide +kernel
theorem dX1_woodsBefore_34 : decode cX1_woodsBefore 34 = .ok (.aload 6, 2) := by decide +kernel
theorem dX1_woodsBefore_36 : decode cX1_woodsBefore 36 = .ok (.getfield 112, 3) := by decide +kernel
theorem dX1_woodsBefore_39 : decode cX1_woodsBefore 39 = .ok (.iload_n 3, 1) := by decide +kernel
theorem dX1_woodsBefore_40 : decode cX1_woodsBefore 40 = .ok (.if_icmp .lt 18, 3) := by decide +kernel
theorem dX1_woodsBefore_43 : decode cX1_woodsBefore 43 = .ok (.aload 6, 2) := by decide +kernel
theorem dX1_woodsBefore_45 : decode cX1_woodsBefore 45 = .ok (.getfield 112, 3) := by decide +kernel
theorem dX1_woodsBefore_48 : decode cX1_woodsBefore 48 = .ok (.iload_n 3, 1) := by decide +kernel
theorem dX1_woodsBefore_49 : decode cX1_woodsBefore 49 = .ok (.if_icmp .ne 13, 3) := by decide +kernel
theorem dX1_woodsBefore_52 : decode cX1_woodsBefore 52 = .ok (.iload 5, 2) := by decide +kernel
theorem dX1_woodsBefore_54 : decode cX1_woodsBefore 54 = .ok (.iload_n 2, 1) := by decide +kernel
theorem dX1_woodsBefore_55 : decode cX1_woodsBefore 55 = .ok (.if_icmp .ge 7, 3) := by decide +kernel
theorem dX1_woodsBefore_58 : decode cX1_woodsBefore 58 = .ok (.iconst 1, 1) := by decide +kernel
theorem dX1_woodsBefore_59 : decode cX1_woodsBefore 59 = .ok (.goto 4, 3) := by decide +kernel
theorem dX1_woodsBefore_62 : decode cX1_woodsBefore 62 = .ok (.iconst 0, 1) := by decide +kernel
theorem dX1_woodsBefore_63 : decode cX1_woodsBefore 63 = .ok (.istore 7, 2) := by decide +kernel
theorem dX1_woodsBefore_65 : decode cX1_woodsBefore 65 = .ok (.iload 7, 2) := by decide +kernel
theorem dX1_woodsBefore_67 : decode cX1_woodsBefore 67 = .ok (.ifCond .eq 15, 3) := by decide +kernel
theorem dX1_woodsBefore_70 : decode cX1_woodsBefore 70 = .ok (.aload 6, 2) := by decide +kernel
theorem dX1_woodsBefore_72 : decode cX1_woodsBefore 72 = .ok (.iload_n 1, 1) := by decide +kernel
theorem dX1_woodsBefore_73 : decode cX1_woodsBefore 73 = .ok (.invokevirtual 100, 3) := by decide +kernel
theorem dX1_woodsBefore_76 : decode cX1_woodsBefore 76 = .ok (.ifCond .eq 6, 3) := by decide +kernel
theorem dX1_woodsBefore_79 : decode cX1_woodsBefore 79 = .ok (.iinc 4 1, 3) := by decide +kernel
theorem dX1_woodsBefore_82 : decode cX1_woodsBefore 82 = .ok (.iinc 5 1, 3) := by decide +kernel
theorem dX1_woodsBefore_85 : decode cX1_woodsBefore 85 = .ok (.goto (-69), 3) := by decide +kernel
theorem dX1_woodsBefore_88 : decode cX1_woodsBefore 88 = .ok (.iload 4, 2) := by decide +kernel
theorem dX1_woodsBefore_90 : decode cX1_woodsBefore 90 = .ok (.ireturn, 1) := by decide +kernel
theorem dX1_countShots_0 : decode cX1_countShots 0 = .ok (.aload_n 0, 1) := by decide +kernel
theorem dX1_countShots_1 : decode cX1_countShots 1 = .ok (.iload_n 1, 1) := by decide +kernel
theorem dX1_countShots_2 : decode cX1_countShots 2 = .ok (.iconst 0, 1) := by decide +kernel
theorem dX1_countShots_3 : decode cX1_countShots 3 = .ok (.invokevirtual 115, 3) := by decide +kernel
theorem dX1_countShots_6 : decode cX1_countShots 6 = .ok (.istore_n 2, 1) := by decide +kernel
theorem dX1_countShots_7 : decode cX1_countShots 7 = .ok (.aload_n 0, 1) := by decide +kernel
theorem dX1_countShots_8 : decode cX1_countShots 8 = .ok (.iload_n 1, 1) := by decide +kernel
theorem dX1_countShots_9 : decode cX1_countShots 9 = .ok (.iconst 1, 1) := by decide +kernel
theorem dX1_countShots_10 : decode cX1_countShots 10 = .ok (.invokevirtual 115, 3) := by decide +kernel
theorem dX1_countShots_13 : decode cX1_countShots 13 = .ok (.istore_n 3, 1) := by decide +kernel
theorem dX1_countShots_14 : decode cX1_countShots 14 = .ok (.iload_n 2, 1) := by decide +kernel
theorem dX1_countShots_15 : decode cX1_countShots 15 = .ok (.iload_n 3, 1) := by decide +kernel
theorem dX1_countShots_16 : decode cX1_countShots 16 = .ok (.if_icmp .ne 5, 3) := by decide +kernel
theorem dX1_countShots_19 : decode cX1_countShots 19 = .ok (.iconst 0, 1) := by decide +kernel
theorem dX1_countShots_20 : decode cX1_countShots 20 = .ok (.ireturn, 1) := by decide +kernel
theorem dX1_countShots_21 : decode cX1_countShots 21 = .ok (.iload_n 2, 1) := by decide +kernel
theorem dX1_countShots_22 : decode cX1_countShots 22 = .ok (.iload_n 3, 1) := by decide +kernel
theorem dX1_countShots_23 : decode cX1_countShots 23 = .ok (.if_icmp .ge 11, 3) := by decide +kernel
theorem dX1_countShots_26 : decode cX1_countShots 26 = .ok (.aload_n 0, 1) := by decide +kernel
theorem dX1_countShots_27 : decode cX1_countShots 27 = .ok (.iload_n 1, 1) := by decide +kernel
theorem dX1_countShots_28 : decode cX1_countShots 28 = .ok (.iconst 0, 1) := by decide +kernel
theorem dX1_countShots_29 : decode cX1_countShots 29 = .ok (.iload_n 3, 1) := by decide +kernel
theorem dX1_countShots_30 : decode cX1_countShots 30 = .ok (.invokevirtual 118, 3) := by decide +kernel
theorem dX1_countShots_33 : decode cX1_countShots 33 = .ok (.ireturn, 1) := by decide +kernel
theorem dX1_countShots_34 : decode cX1_countShots 34 = .ok (.bipush 10, 2) := by decide +kernel
theorem dX1_countShots_36 : decode cX1_countShots 36 = .ok (.aload_n 0, 1) := by decide +kernel
theorem dX1_countShots_37 : decode cX1_countShots 37 = .ok (.iload_n 1, 1) := by decide +kernel
theorem dX1_countShots_38 : decode cX1_countShots 38 = .ok (.iconst 1, 1) := by decide +kernel
theorem dX1_countShots_39 : decode cX1_countShots 39 = .ok (.iload_n 2, 1) := by decide +kernel
theorem dX1_countShots_40 : decode cX1_countShots 40 = .ok (.invokevirtual 118, 3) := by decide +kernel
theorem dX1_countShots_43 : decode cX1_countShots 43 = .ok (.iadd, 1) := by decide +kernel
theorem dX1_countShots_44 : decode cX1_countShots 44 = .ok (.ireturn, 1) := by decide +kernel
theorem dX1_leastDistance_0 : decode cX1_leastDistance 0 = .ok (.ldc 122, 2) := by decide +kernel
theorem dX1_leastDistance_2 : decode cX1_leastDistance 2 = .ok (.istore_n 3, 1) := by decide +kernel
theorem dX1_leastDistance_3 : decode cX1_leastDistance 3 = .ok (.iconst 0, 1) := by decide +kernel
theorem dX1_leastDistance_4 : decode cX1_leastDistance 4 = .ok (.istore 4, 2) := by decide +kernel
theorem dX1_leastDistance_6 : decode cX1_leastDistance 6 = .ok (.iload 4, 2) := by decide +kernel
theorem dX1_leastDistance_8 : decode cX1_leastDistance 8 = .ok (.aload_n 0, 1) := by decide +kernel
theorem dX1_leastDistance_9 : decode cX1_leastDistance 9 = .ok (.getfield 39, 3) := by decide +kernel
theorem dX1_leastDistance_12 : decode cX1_leastDistance 12 = .ok (.if_icmp .ge 52, 3) := by decide +kernel
theorem dX1_leastDistance_15 : decode cX1_leastDistance 15 = .ok (.aload_n 0, 1) := by decide +kernel
theorem dX1_leastDistance_16 : decode cX1_leastDistance 16 = .ok (.getfield 20, 3) := by decide +kernel
theorem dX1_leastDistance_19 : decode cX1_leastDistance 19 = .ok (.iload 4, 2) := by decide +kernel
theorem dX1_leastDistance_21 : decode cX1_leastDistance 21 = .ok (.aaload, 1) := by decide +kernel
theorem dX1_leastDistance_22 : decode cX1_leastDistance 22 = .ok (.getfield 123, 3) := by decide +kernel
theorem dX1_leastDistance_25 : decode cX1_leastDistance 25 = .ok (.iload_n 2, 1) := by decide +kernel
theorem dX1_leastDistance_26 : decode cX1_leastDistance 26 = .ok (.if_icmp .ne 32, 3) := by decide +kernel
theorem dX1_leastDistance_29 : decode cX1_leastDistance 29 = .ok (.aload_n 0, 1) := by decide +kernel
theorem dX1_leastDistance_30 : decode cX1_leastDistance 30 = .ok (.getfield 20, 3) := by decide +kernel
theorem dX1_leastDistance_33 : decode cX1_leastDistance 33 = .ok (.iload 4, 2) := by decide +kernel
theorem dX1_leastDistance_35 : decode cX1_leastDistance 35 = .ok (.aaload, 1) := by decide +kernel
theorem dX1_leastDistance_36 : decode cX1_leastDistance 36 = .ok (.iload_n 1, 1) := by decide +kernel
theorem dX1_leastDistance_37 : decode cX1_leastDistance 37 = .ok (.invokevirtual 100, 3) := by decide +kernel
theorem dX1_leastDistance_40 : decode cX1_leastDistance 40 = .ok (.ifCond .eq 18, 3) := by decide +kernel
theorem dX1_leastDistance_43 : decode cX1_leastDistance 43 = .ok (.iload_n 3, 1) := by decide +kernel
theorem dX1_leastDistance_44 : decode cX1_leastDistance 44 = .ok (.aload_n 0, 1) := by decide +kernel
theorem dX1_leastDistance_45 : decode cX1_leastDistance 45 = .ok (.getfield 20, 3) := by decide +kernel
theorem dX1_leastDistance_48 : decode cX1_leastDistance 48 = .ok (.iload 4, 2) := by decide +kernel
theorem dX1_leastDistance_50 : decode cX1_leastDistance 50 = .ok (.aaload, 1) := by decide +kernel
theorem dX1_leastDistance_51 : decode cX1_leastDistance 51 = .ok (.getfield 112, 3) := by decide +kernel
theorem dX1_leastDistance_54 : decode cX1_leastDistance 54 = .ok (.invokestatic 126, 3) := by decide +kernel
theorem dX1_leastDistance_57 : decode cX1_leastDistance 57 = .ok (.istore_n 3, 1) := by decide +kernel
theorem dX1_leastDistance_58 : decode cX1_leastDistance 58 = .ok (.iinc 4 1, 3) := by decide +kernel
theorem dX1_leastDistance_61 : decode cX1_leastDistance 61 = .ok (.goto (-55), 3) := by decide +kernel
theorem dX1_leastDistance_64 : decode cX1_leastDistance 64 = .ok (.iload_n 3, 1) := by decide +kernel
theorem dX1_leastDistance_65 : decode cX1_leastDistance 65 = .ok (.ireturn, 1) := by decide +kernel
theorem dX1_woodsNearerThan_0 : decode cX1_woodsNearerThan 0 = .ok (.iconst 0, 1) := by decide +kernel
theorem dX1_woodsNearerThan_1 : decode cX1_woodsNearerThan 1 = .ok (.istore 4, 2) := by decide +kernel
theorem dX1_woodsNearerThan_3 : decode cX1_woodsNearerThan 3 = .ok (.iconst 0, 1) := by decide +kernel
theorem dX1_woodsNearerThan_4 : decode cX1_woodsNearerThan 4 = .ok (.istore 5, 2) := by decide +kernel
theorem dX1_woodsNearerThan_6 : decode cX1_woodsNearerThan 6 = .ok (.iload 5, 2) := by decide +kernel
theorem dX1_woodsNearerThan_8 : decode cX1_woodsNearerThan 8 = .ok (.aload_n 0, 1) := by decide +kernel
theorem dX1_woodsNearerThan_9 : decode cX1_woodsNearerThan 9 = .ok (.getfield 39, 3) := by decide +kernel
theorem dX1_woodsNearerThan_12 : decode cX1_woodsNearerThan 12 = .ok (.if_icmp .ge 54, 3) := by decide +kernel
theorem dX1_woodsNearerThan_15 : decode cX1_woodsNearerThan 15 = .ok (.aload_n 0, 1) := by decide +kernel
theorem dX1_woodsNearerThan_16 : decode cX1_woodsNearerThan 16 = .ok (.getfield 20, 3) := by decide +kernel
theorem dX1_woodsNearerThan_19 : decode cX1_woodsNearerThan 19 = .ok (.iload 5, 2) := by decide +kernel
theorem dX1_woodsNearerThan_21 : decode cX1_woodsNearerThan 21 = .ok (.aaload, 1) := by decide +kernel
theorem dX1_woodsNearerThan_22 : decode cX1_woodsNearerThan 22 = .ok (.getfield 123, 3) := by decide +kernel
theorem dX1_woodsNearerThan_25 : decode cX1_woodsNearerThan 25 = .ok (.iload_n 2, 1) := by decide +kernel
theorem dX1_woodsNearerThan_26 : decode cX1_woodsNearerThan 26 = .ok (.if_icmp .ne 34, 3) := by decide +kernel
theorem dX1_woodsNearerThan_29 : decode cX1_woodsNearerThan 29 = .ok (.aload_n 0, 1) := by decide +kernel
theorem dX1_woodsNearerThan_30 : decode cX1_woodsNearerThan 30 = .ok (.getfield 20, 3) := by decide +kernel
theorem dX1_woodsNearerThan_33 : decode cX1_woodsNearerThan 33 = .ok (.iload 5, 2) := by decide +kernel
theorem dX1_woodsNearerThan_35 : decode cX1_woodsNearerThan 35 = .ok (.aaload, 1) := by decide +kernel
theorem dX1_woodsNearerThan_36 : decode cX1_woodsNearerThan 36 = .ok (.iload_n 1, 1) := by decide +kernel
theorem dX1_woodsNearerThan_37 : decode cX1_woodsNearerThan 37 = .ok (.invokevirtual 100, 3) := by decide +kernel
theorem dX1_woodsNearerThan_40 : decode cX1_woodsNearerThan 40 = .ok (.ifCond .eq 20, 3) := by decide +kernel
theorem dX1_woodsNearerThan_43 : decode cX1_woodsNearerThan 43 = .ok (.aload_n 0, 1) := by decide +kernel
theorem dX1_woodsNearerThan_44 : decode cX1_woodsNearerThan 44 = .ok (.getfield 20, 3) := by decide +kernel
theorem dX1_woodsNearerThan_47 : decode cX1_woodsNearerThan 47 = .ok (.iload 5, 2) := by decide +kernel
theorem dX1_woodsNearerThan_49 : decode cX1_woodsNearerThan 49 = .ok (.aaload, 1) := by decide +kernel
theorem dX1_woodsNearerThan_50 : decode cX1_woodsNearerThan 50 = .ok (.getfield 112, 3) := by decide +kernel
theorem dX1_woodsNearerThan_53 : decode cX1_woodsNearerThan 53 = .ok (.iload_n 3, 1) := by decide +kernel
theorem dX1_woodsNearerThan_54 : decode cX1_woodsNearerThan 54 = .ok (.if_icmp .ge 6, 3) := by decide +kernel
theorem dX1_woodsNearerThan_57 : decode cX1_woodsNearerThan 57 = .ok (.iinc 4 1, 3) := by decide +kernel
theorem dX1_woodsNearerThan_60 : decode cX1_woodsNearerThan 60 = .ok (.iinc 5 1, 3) := by decide +kernel
theorem dX1_woodsNearerThan_63 : decode cX1_woodsNearerThan 63 = .ok (.goto (-57), 3) := by decide +kernel
theorem dX1_woodsNearerThan_66 : decode cX1_woodsNearerThan 66 = .ok (.iload 4, 2) := by decide +kernel
theorem dX1_woodsNearerThan_68 : decode cX1_woodsNearerThan 68 = .ok (.ireturn, 1) := by decide +kernel
theorem dX1_countShotsInOrder_0 : decode cX1_countShotsInOrder 0 = .ok (.iconst (-1), 1) := by decide +kernel
theorem dX1_countShotsInOrder_1 : decode cX1_countShotsInOrder 1 = .ok (.istore_n 2, 1) := by decide +kernel
theorem dX1_countShotsInOrder_2 : decode cX1_countShotsInOrder 2 = .ok (.iconst 0, 1) := by decide +kernel
theorem dX1_countShotsInOrder_3 : decode cX1_countShotsInOrder 3 = .ok (.istore_n 3, 1) := by decide +kernel
theorem dX1_countShotsInOrder_4 : decode cX1_countShotsInOrder 4 = .ok (.iconst 0, 1) := by decide +kernel
theorem dX1_countShotsInOrder_5 : decode cX1_countShotsInOrder 5 = .ok (.istore 4, 2) := by decide +kernel
theorem dX1_countShotsInOrder_7 : decode cX1_countShotsInOrder 7 = .ok (.iload 4, 2) := by decide +kernel
theorem dX1_countShotsInOrder_9 : decode cX1_countShotsInOrder 9 = .ok (.aload_n 0, 1) := by decide +kernel
theorem dX1_countShotsInOrder_10 : decode cX1_countShotsInOrder 10 = .ok (.getfield 39, 3) := by decide +kernel
theorem dX1_countShotsInOrder_13 : decode cX1_countShotsInOrder 13 = .ok (.if_icmp .ge 75, 3) := by decide +kernel
theorem dX1_countShotsInOrder_16 : decode cX1_countShotsInOrder 16 = .ok (.aload_n 0, 1) := by decide +kernel
theorem dX1_countShotsInOrder_17 : decode cX1_countShotsInOrder 17 = .ok (.iload_n 1, 1) := by decide +kernel
theorem dX1_countShotsInOrder_18 : decode cX1_countShotsInOrder 18 = .ok (.iload 4, 2) := by decide +kernel
theorem dX1_countShotsInOrder_20 : decode cX1_countShotsInOrder 20 = .ok (.invokevirtual 129, 3) := by decide +kernel
theorem dX1_countShotsInOrder_23 : decode cX1_countShotsInOrder 23 = .ok (.istore 5, 2) := by decide +kernel
theorem dX1_countShotsInOrder_25 : decode cX1_countShotsInOrder 25 = .ok (.aload_n 0, 1) := by decide +kernel
theorem dX1_countShotsInOrder_26 : decode cX1_countShotsInOrder 26 = .ok (.iload 5, 2) := by decide +kernel
theorem dX1_countShotsInOrder_28 : decode cX1_countShotsInOrder 28 = .ok (.invokevirtual 132, 3) := by decide +kernel
theorem dX1_countShotsInOrder_31 : decode cX1_countShotsInOrder 31 = .ok (.ifCond .ne 6, 3) := by decide +kernel
theorem dX1_countShotsInOrder_34 : decode cX1_countShotsInOrder 34 = .ok (.goto 54, 3) := by decide +kernel
theorem dX1_countShotsInOrder_37 : decode cX1_countShotsInOrder 37 = .ok (.aload_n 0, 1) := by decide +kernel
theorem dX1_countShotsInOrder_38 : decode cX1_countShotsInOrder 38 = .ok (.getfield 20, 3) := by decide +kernel
theorem dX1_countShotsInOrder_41 : decode cX1_countShotsInOrder 41 = .ok (.iload 5, 2) := by decide +kernel
theorem dX1_countShotsInOrder_43 : decode cX1_countShotsInOrder 43 = .ok (.aaload, 1) := by decide +kernel
theorem dX1_countShotsInOrder_44 : decode cX1_countShotsInOrder 44 = .ok (.astore 6, 2) := by decide +kernel
theorem dX1_countShotsInOrder_46 : decode cX1_countShotsInOrder 46 = .ok (.iload 4, 2) := by decide +kernel
theorem dX1_countShotsInOrder_48 : decode cX1_countShotsInOrder 48 = .ok (.ifCond .ne 9, 3) := by decide +kernel
theorem dX1_countShotsInOrder_51 : decode cX1_countShotsInOrder 51 = .ok (.aload 6, 2) := by decide +kernel
theorem dX1_countShotsInOrder_53 : decode cX1_countShotsInOrder 53 = .ok (.getfield 123, 3) := by decide +kernel
theorem dX1_countShotsInOrder_56 : decode cX1_countShotsInOrder 56 = .ok (.istore_n 2, 1) := by decide +kernel
theorem dX1_countShotsInOrder_57 : decode cX1_countShotsInOrder 57 = .ok (.aload 6, 2) := by decide +kernel
theorem dX1_countShotsInOrder_59 : decode cX1_countShotsInOrder 59 = .ok (.getfield 123, 3) := by decide +kernel
theorem dX1_countShotsInOrder_62 : decode cX1_countShotsInOrder 62 = .ok (.iload_n 2, 1) := by decide +kernel
theorem dX1_countShotsInOrder_63 : decode cX1_countShotsInOrder 63 = .ok (.if_icmp .ne 25, 3) := by decide +kernel
theorem dX1_countShotsInOrder_66 : decode cX1_countShotsInOrder 66 = .ok (.aload_n 0, 1) := by decide +kernel
theorem dX1_countShotsInOrder_67 : decode cX1_countShotsInOrder 67 = .ok (.iload_n 1, 1) := by decide +kernel
theorem dX1_countShotsInOrder_68 : decode cX1_countShotsInOrder 68 = .ok (.aload 6, 2) := by decide +kernel
theorem dX1_countShotsInOrder_70 : decode cX1_countShotsInOrder 70 = .ok (.invokevirtual 135, 3) := by decide +kernel
theorem dX1_countShotsInOrder_73 : decode cX1_countShotsInOrder 73 = .ok (.ifCond .eq 6, 3) := by decide +kernel
theorem dX1_countShotsInOrder_76 : decode cX1_countShotsInOrder 76 = .ok (.goto 12, 3) := by decide +kernel
theorem dX1_countShotsInOrder_79 : decode cX1_countShotsInOrder 79 = .ok (.iinc 3 1, 3) := by decide +kernel
theorem dX1_countShotsInOrder_82 : decode cX1_countShotsInOrder 82 = .ok (.iinc 4 1, 3) := by decide +kernel
theorem dX1_countShotsInOrder_85 : decode cX1_countShotsInOrder 85 = .ok (.goto (-78), 3) := by decide +kernel
theorem dX1_countShotsInOrder_88 : decode cX1_countShotsInOrder 88 = .ok (.iload_n 3, 1) := by decide +kernel
theorem dX1_countShotsInOrder_89 : decode cX1_countShotsInOrder 89 = .ok (.ifCond .le 15, 3) := by decide +kernel
theorem dX1_countShotsInOrder_92 : decode cX1_countShotsInOrder 92 = .ok (.iload_n 2, 1) := by decide +kernel
theorem dX1_countShotsInOrder_93 : decode cX1_countShotsInOrder 93 = .ok (.iconst 1, 1) := by decide +kernel
theorem dX1_countShotsInOrder_94 : decode cX1_countShotsInOrder 94 = .ok (.if_icmp .ne 10, 3) := by decide +kernel
theorem dX1_countShotsInOrder_97 : decode cX1_countShotsInOrder 97 = .ok (.bipush 10, 2) := by decide +kernel
theorem dX1_countShotsInOrder_99 : decode cX1_countShotsInOrder 99 = .ok (.iload_n 3, 1) := by decide +kernel
theorem dX1_countShotsInOrder_100 : decode cX1_countShotsInOrder 100 = .ok (.iadd, 1) := by decide +kernel
theorem dX1_countShotsInOrder_101 : decode cX1_countShotsInOrder 101 = .ok (.goto 4, 3) := by decide +kernel
theorem dX1_countShotsInOrder_104 : decode cX1_countShotsInOrder 104 = .ok (.iload_n 3, 1) := by decide +kernel
theorem dX1_countShotsInOrder_105 : decode cX1_countShotsInOrder 105 = .ok (.ireturn, 1) := by decide +kernel
theorem dX1_isMatched_0 : decode cX1_isMatched 0 = .ok (.iconst 0, 1) := by decide +kernel
theorem dX1_isMatched_1 : decode cX1_isMatched 1 = .ok (.istore_n 3, 1) := by decide +kernel
theorem dX1_isMatched_2 : decode cX1_isMatched 2 = .ok (.iload_n 3, 1) := by decide +kernel
theorem dX1_isMatched_3 : decode cX1_isMatched 3 = .ok (.aload_n 0, 1) := by decide +kernel
theorem dX1_isMatched_4 : decode cX1_isMatched 4 = .ok (.getfield 39, 3) := by decide +kernel
theorem dX1_isMatched_7 : decode cX1_isMatched 7 = .ok (.if_icmp .ge 52, 3) := by decide +kernel
theorem dX1_isMatched_10 : decode cX1_isMatched 10 = .ok (.aload_n 0, 1) := by decide +kernel
theorem dX1_isMatched_11 : decode cX1_isMatched 11 = .ok (.getfield 20, 3) := by decide +kernel
theorem dX1_isMatched_14 : decode cX1_isMatched 14 = .ok (.iload_n 3, 1) := by decide +kernel
theorem dX1_isMatched_15 : decode cX1_isMatched 15 = .ok (.aaload, 1) := by decide +kernel
theorem dX1_isMatched_16 : decode cX1_isMatched 16 = .ok (.astore 4, 2) := by decide +kernel
theorem dX1_isMatched_18 : decode cX1_isMatched 18 = .ok (.aload 4, 2) := by decide +kernel
theorem dX1_isMatched_20 : decode cX1_isMatched 20 = .ok (.getfield 123, 3) := by decide +kernel
theorem dX1_isMatched_23 : decode cX1_isMatched 23 = .ok (.aload_n 2, 1) := by decide +kernel
theorem dX1_isMatched_24 : decode cX1_isMatched 24 = .ok (.getfield 123, 3) := by decide +kernel
theorem dX1_isMatched_27 : decode cX1_isMatched 27 = .ok (.if_icmp .eq 26, 3) := by decide +kernel
theorem dX1_isMatched_30 : decode cX1_isMatched 30 = .ok (.aload 4, 2) := by decide +kernel
theorem dX1_isMatched_32 : decode cX1_isMatched 32 = .ok (.iload_n 1, 1) := by decide +kernel
theorem dX1_isMatched_33 : decode cX1_isMatched 33 = .ok (.invokevirtual 100, 3) := by decide +kernel
theorem dX1_isMatched_36 : decode cX1_isMatched 36 = .ok (.ifCond .eq 17, 3) := by decide +kernel
theorem dX1_isMatched_39 : decode cX1_isMatched 39 = .ok (.aload 4, 2) := by decide +kernel
theorem dX1_isMatched_41 : decode cX1_isMatched 41 = .ok (.getfield 112, 3) := by decide +kernel
theorem dX1_isMatched_44 : decode cX1_isMatched 44 = .ok (.aload_n 2, 1) := by decide +kernel
theorem dX1_isMatched_45 : decode cX1_isMatched 45 = .ok (.getfield 112, 3) := by decide +kernel
theorem dX1_isMatched_48 : decode cX1_isMatched 48 = .ok (.if_icmp .ne 5, 3) := by decide +kernel
theorem dX1_isMatched_51 : decode cX1_isMatched 51 = .ok (.iconst 1, 1) := by decide +kernel
theorem dX1_isMatched_52 : decode cX1_isMatched 52 = .ok (.ireturn, 1) := by decide +kernel
theorem dX1_isMatched_53 : decode cX1_isMatched 53 = .ok (.iinc 3 1, 3) := by decide +kernel
theorem dX1_isMatched_56 : decode cX1_isMatched 56 = .ok (.goto (-54), 3) := by decide +kernel
theorem dX1_isMatched_59 : decode cX1_isMatched 59 = .ok (.iconst 0, 1) := by decide +kernel
theorem dX1_isMatched_60 : decode cX1_isMatched 60 = .ok (.ireturn, 1) := by decide +kernel
theorem dX1_bringWoodsToShed_0 : decode cX1_bringWoodsToShed 0 = .ok (.iconst 0, 1) := by decide +kernel
theorem dX1_bringWoodsToShed_1 : decode cX1_bringWoodsToShed 1 = .ok (.istore_n 2, 1) := by decide +kernel
theorem dX1_bringWoodsToShed_2 : decode cX1_bringWoodsToShed 2 = .ok (.iload_n 2, 1) := by decide +kernel
theorem dX1_bringWoodsToShed_3 : decode cX1_bringWoodsToShed 3 = .ok (.aload_n 0, 1) := by decide +kernel
theorem dX1_bringWoodsToShed_4 : decode cX1_bringWoodsToShed 4 = .ok (.getfield 39, 3) := by decide +kernel
theorem dX1_bringWoodsToShed_7 : decode cX1_bringWoodsToShed 7 = .ok (.if_icmp .ge 32, 3) := by decide +kernel
theorem dX1_bringWoodsToShed_10 : decode cX1_bringWoodsToShed 10 = .ok (.aload_n 0, 1) := by decide +kernel
theorem dX1_bringWoodsToShed_11 : decode cX1_bringWoodsToShed 11 = .ok (.getfield 20, 3) := by decide +kernel
theorem dX1_bringWoodsToShed_14 : decode cX1_bringWoodsToShed 14 = .ok (.iload_n 2, 1) := by decide +kernel
theorem dX1_bringWoodsToShed_15 : decode cX1_bringWoodsToShed 15 = .ok (.aaload, 1) := by decide +kernel
theorem dX1_bringWoodsToShed_16 : decode cX1_bringWoodsToShed 16 = .ok (.getfield 139, 3) := by decide +kernel
theorem dX1_bringWoodsToShed_19 : decode cX1_bringWoodsToShed 19 = .ok (.iload_n 1, 1) := by decide +kernel
theorem dX1_bringWoodsToShed_20 : decode cX1_bringWoodsToShed 20 = .ok (.if_icmp .ne 13, 3) := by decide +kernel
theorem dX1_bringWoodsToShed_23 : decode cX1_bringWoodsToShed 23 = .ok (.aload_n 0, 1) := by decide +kernel
theorem dX1_bringWoodsToShed_24 : decode cX1_bringWoodsToShed 24 = .ok (.getfield 20, 3) := by decide +kernel
theorem dX1_bringWoodsToShed_27 : decode cX1_bringWoodsToShed 27 = .ok (.iload_n 2, 1) := by decide +kernel
theorem dX1_bringWoodsToShed_28 : decode cX1_bringWoodsToShed 28 = .ok (.aaload, 1) := by decide +kernel
theorem dX1_bringWoodsToShed_29 : decode cX1_bringWoodsToShed 29 = .ok (.iconst 0, 1) := by decide +kernel
theorem dX1_bringWoodsToShed_30 : decode cX1_bringWoodsToShed 30 = .ok (.putfield 142, 3) := by decide +kernel
theorem dX1_bringWoodsToShed_33 : decode cX1_bringWoodsToShed 33 = .ok (.iinc 2 1, 3) := by decide +kernel
theorem dX1_bringWoodsToShed_36 : decode cX1_bringWoodsToShed 36 = .ok (.goto (-34), 3) := by decide +kernel
theorem dX1_bringWoodsToShed_39 : decode cX1_bringWoodsToShed 39 = .ok (.return_, 1) := by decide +kernel
theorem dX1_woodsOn_0 : decode cX1_woodsOn 0 = .ok (.iconst 0, 1) := by decide +kernel
theorem dX1_woodsOn_1 : decode cX1_woodsOn 1 = .ok (.istore_n 3, 1) := by decide +kernel
theorem dX1_woodsOn_2 : decode cX1_woodsOn 2 = .ok (.iconst 0, 1) := by decide +kernel
theorem dX1_woodsOn_3 : decode cX1_woodsOn 3 = .ok (.istore 4, 2) := by decide +kernel
theorem dX1_woodsOn_5 : decode cX1_woodsOn 5 = .ok (.iload 4, 2) := by decide +kernel
theorem dX1_woodsOn_7 : decode cX1_woodsOn 7 = .ok (.aload_n 0, 1) := by decide +kernel
theorem dX1_woodsOn_8 : decode cX1_woodsOn 8 = .ok (.getfield 39, 3) := by decide +kernel
theorem dX1_woodsOn_11 : decode cX1_woodsOn 11 = .ok (.if_icmp .ge 40, 3) := by decide +kernel
theorem dX1_woodsOn_14 : decode cX1_woodsOn 14 = .ok (.aload_n 0, 1) := by decide +kernel
theorem dX1_woodsOn_15 : decode cX1_woodsOn 15 = .ok (.getfield 20, 3) := by decide +kernel
theorem dX1_woodsOn_18 : decode cX1_woodsOn 18 = .ok (.iload 4, 2) := by decide +kernel
theorem dX1_woodsOn_20 : decode cX1_woodsOn 20 = .ok (.aaload, 1) := by decide +kernel
theorem dX1_woodsOn_21 : decode cX1_woodsOn 21 = .ok (.getfield 142, 3) := by decide +kernel
theorem dX1_woodsOn_24 : decode cX1_woodsOn 24 = .ok (.iload_n 2, 1) := by decide +kernel
theorem dX1_woodsOn_25 : decode cX1_woodsOn 25 = .ok (.if_icmp .ne 20, 3) := by decide +kernel
theorem dX1_woodsOn_28 : decode cX1_woodsOn 28 = .ok (.aload_n 0, 1) := by decide +kernel
theorem dX1_woodsOn_29 : decode cX1_woodsOn 29 = .ok (.getfield 20, 3) := by decide +kernel
theorem dX1_woodsOn_32 : decode cX1_woodsOn 32 = .ok (.iload 4, 2) := by decide +kernel
theorem dX1_woodsOn_34 : decode cX1_woodsOn 34 = .ok (.aaload, 1) := by decide +kernel
theorem dX1_woodsOn_35 : decode cX1_woodsOn 35 = .ok (.getfield 139, 3) := by decide +kernel
theorem dX1_woodsOn_38 : decode cX1_woodsOn 38 = .ok (.iload_n 1, 1) := by decide +kernel
theorem dX1_woodsOn_39 : decode cX1_woodsOn 39 = .ok (.if_icmp .ne 6, 3) := by decide +kernel
theorem dX1_woodsOn_42 : decode cX1_woodsOn 42 = .ok (.iinc 3 1, 3) := by decide +kernel
theorem dX1_woodsOn_45 : decode cX1_woodsOn 45 = .ok (.iinc 4 1, 3) := by decide +kernel
theorem dX1_woodsOn_48 : decode cX1_woodsOn 48 = .ok (.goto (-43), 3) := by decide +kernel
theorem dX1_woodsOn_51 : decode cX1_woodsOn 51 = .ok (.iload_n 3, 1) := by decide +kernel
theorem dX1_woodsOn_52 : decode cX1_woodsOn 52 = .ok (.ireturn, 1) := by decide +kernel
theorem dX1_woodsOfClub_0 : decode cX1_woodsOfClub 0 = .ok (.iconst 0, 1) := by decide +kernel
theorem dX1_woodsOfClub_1 : decode cX1_woodsOfClub 1 = .ok (.istore_n 2, 1) := by decide +kernel
theorem dX1_woodsOfClub_2 : decode cX1_woodsOfClub 2 = .ok (.iconst 0, 1) := by decide +kernel
theorem dX1_woodsOfClub_3 : decode cX1_woodsOfClub 3 = .ok (.istore_n 3, 1) := by decide +kernel
theorem dX1_woodsOfClub_4 : decode cX1_woodsOfClub 4 = .ok (.iload_n 3, 1) := by decide +kernel
theorem dX1_woodsOfClub_5 : decode cX1_woodsOfClub 5 = .ok (.aload_n 0, 1) := by decide +kernel
theorem dX1_woodsOfClub_6 : decode cX1_woodsOfClub 6 = .ok (.getfield 39, 3) := by decide +kernel
theorem dX1_woodsOfClub_9 : decode cX1_woodsOfClub 9 = .ok (.if_icmp .ge 25, 3) := by decide +kernel
theorem dX1_woodsOfClub_12 : decode cX1_woodsOfClub 12 = .ok (.aload_n 0, 1) := by decide +kernel
theorem dX1_woodsOfClub_13 : decode cX1_woodsOfClub 13 = .ok (.getfield 20, 3) := by decide +kernel
theorem dX1_woodsOfClub_16 : decode cX1_woodsOfClub 16 = .ok (.iload_n 3, 1) := by decide +kernel
theorem dX1_woodsOfClub_17 : decode cX1_woodsOfClub 17 = .ok (.aaload, 1) := by decide +kernel
theorem dX1_woodsOfClub_18 : decode cX1_woodsOfClub 18 = .ok (.getfield 123, 3) := by decide +kernel
theorem dX1_woodsOfClub_21 : decode cX1_woodsOfClub 21 = .ok (.iload_n 1, 1) := by decide +kernel
theorem dX1_woodsOfClub_22 : decode cX1_woodsOfClub 22 = .ok (.if_icmp .ne 6, 3) := by decide +kernel
theorem dX1_woodsOfClub_25 : decode cX1_woodsOfClub 25 = .ok (.iinc 2 1, 3) := by decide +kernel
theorem dX1_woodsOfClub_28 : decode cX1_woodsOfClub 28 = .ok (.iinc 3 1, 3) := by decide +kernel
theorem dX1_woodsOfClub_31 : decode cX1_woodsOfClub 31 = .ok (.goto (-27), 3) := by decide +kernel
theorem dX1_woodsOfClub_34 : decode cX1_woodsOfClub 34 = .ok (.iload_n 2, 1) := by decide +kernel
theorem dX1_woodsOfClub_35 : decode cX1_woodsOfClub 35 = .ok (.ireturn, 1) := by decide +kernel
theorem dX1_woodsOfClubInShed_0 : decode cX1_woodsOfClubInShed 0 = .ok (.iconst 0, 1) := by decide +kernel
theorem dX1_woodsOfClubInShed_1 : decode cX1_woodsOfClubInShed 1 = .ok (.istore_n 2, 1) := by decide +kernel
theorem dX1_woodsOfClubInShed_2 : decode cX1_woodsOfClubInShed 2 = .ok (.iconst 0, 1) := by decide +kernel
theorem dX1_woodsOfClubInShed_3 : decode cX1_woodsOfClubInShed 3 = .ok (.istore_n 3, 1) := by decide +kernel
theorem dX1_woodsOfClubInShed_4 : decode cX1_woodsOfClubInShed 4 = .ok (.iload_n 3, 1) := by decide +kernel
theorem dX1_woodsOfClubInShed_5 : decode cX1_woodsOfClubInShed 5 = .ok (.aload_n 0, 1) := by decide +kernel
theorem dX1_woodsOfClubInShed_6 : decode cX1_woodsOfClubInShed 6 = .ok (.getfield 39, 3) := by decide +kernel
theorem dX1_woodsOfClubInShed_9 : decode cX1_woodsOfClubInShed 9 = .ok (.if_icmp .ge 37, 3) := by decide +kernel
theorem dX1_woodsOfClubInShed_12 : decode cX1_woodsOfClubInShed 12 = .ok (.aload_n 0, 1) := by decide +kernel
theorem dX1_woodsOfClubInShed_13 : decode cX1_woodsOfClubInShed 13 = .ok (.getfield 20, 3) := by decide +kernel
theorem dX1_woodsOfClubInShed_16 : decode cX1_woodsOfClubInShed 16 = .ok (.iload_n 3, 1) := by decide +kernel
theorem dX1_woodsOfClubInShed_17 : decode cX1_woodsOfClubInShed 17 = .ok (.aaload, 1) := by decide +kernel
theorem dX1_woodsOfClubInShed_18 : decode cX1_woodsOfClubInShed 18 = .ok (.getfield 123, 3) := by decide +kernel
theorem dX1_woodsOfClubInShed_21 : decode cX1_woodsOfClubInShed 21 = .ok (.iload_n 1, 1) := by decide +kernel
theorem dX1_woodsOfClubInShed_22 : decode cX1_woodsOfClubInShed 22 = .ok (.if_icmp .ne 18, 3) := by decide +kernel
theorem dX1_woodsOfClubInShed_25 : decode cX1_woodsOfClubInShed 25 = .ok (.aload_n 0, 1) := by decide +kernel
theorem dX1_woodsOfClubInShed_26 : decode cX1_woodsOfClubInShed 26 = .ok (.getfield 20, 3) := by decide +kernel
theorem dX1_woodsOfClubInShed_29 : decode cX1_woodsOfClubInShed 29 = .ok (.iload_n 3, 1) := by decide +kernel
theorem dX1_woodsOfClubInShed_30 : decode cX1_woodsOfClubInShed 30 = .ok (.aaload, 1) := by decide +kernel
theorem dX1_woodsOfClubInShed_31 : decode cX1_woodsOfClubInShed 31 = .ok (.getfield 142, 3) := by decide +kernel
theorem dX1_woodsOfClubInShed_34 : decode cX1_woodsOfClubInShed 34 = .ok (.ifCond .ne 6, 3) := by decide +kernel
theorem dX1_woodsOfClubInShed_37 : decode cX1_woodsOfClubInShed 37 = .ok (.iinc 2 1, 3) := by decide +kernel
theorem dX1_woodsOfClubInShed_40 : decode cX1_woodsOfClubInShed 40 = .ok (.iinc 3 1, 3) := by decide +kernel
theorem dX1_woodsOfClubInShed_43 : decode cX1_woodsOfClubInShed 43 = .ok (.goto (-39), 3) := by decide +kernel
theorem dX1_woodsOfClubInShed_46 : decode cX1_woodsOfClubInShed 46 = .ok (.iload_n 2, 1) := by decide +kernel
theorem dX1_woodsOfClubInShed_47 : decode cX1_woodsOfClubInShed 47 = .ok (.ireturn, 1) := by decide +kernel
theorem dX1_woodsInShed_0 : decode cX1_woodsInShed 0 = .ok (.aload_n 0, 1) := by decide +kernel
theorem dX1_woodsInShed_1 : decode cX1_woodsInShed 1 = .ok (.iconst 0, 1) := by decide +kernel
theorem dX1_woodsInShed_2 : decode cX1_woodsInShed 2 = .ok (.invokevirtual 145, 3) := by decide +kernel
theorem dX1_woodsInShed_5 : decode cX1_woodsInShed 5 = .ok (.aload_n 0, 1) := by decide +kernel
theorem dX1_woodsInShed_6 : decode cX1_woodsInShed 6 = .ok (.iconst 1, 1) := by decide +kernel
theorem dX1_woodsInShed_7 : decode cX1_woodsInShed 7 = .ok (.invokevirtual 145, 3) := by decide +kernel
theorem dX1_woodsInShed_10 : decode cX1_woodsInShed 10 = .ok (.iadd, 1) := by decide +kernel
theorem dX1_woodsInShed_11 : decode cX1_woodsInShed 11 = .ok (.ireturn, 1) := by decide +kernel
theorem dX1_woodsBowled_0 : decode cX1_woodsBowled 0 = .ok (.iconst 0, 1) := by decide +kernel
theorem dX1_woodsBowled_1 : decode cX1_woodsBowled 1 = .ok (.istore_n 1, 1) := by decide +kernel
theorem dX1_woodsBowled_2 : decode cX1_woodsBowled 2 = .ok (.iconst 0, 1) := by decide +kernel
theorem dX1_woodsBowled_3 : decode cX1_woodsBowled 3 = .ok (.istore_n 2, 1) := by decide +kernel
theorem dX1_woodsBowled_4 : decode cX1_woodsBowled 4 = .ok (.iload_n 2, 1) := by decide +kernel
theorem dX1_woodsBowled_5 : decode cX1_woodsBowled 5 = .ok (.aload_n 0, 1) := by decide +kernel
theorem dX1_woodsBowled_6 : decode cX1_woodsBowled 6 = .ok (.getfield 39, 3) := by decide +kernel
theorem dX1_woodsBowled_9 : decode cX1_woodsBowled 9 = .ok (.if_icmp .ge 21, 3) := by decide +kernel
theorem dX1_woodsBowled_12 : decode cX1_woodsBowled 12 = .ok (.iload_n 1, 1) := by decide +kernel
theorem dX1_woodsBowled_13 : decode cX1_woodsBowled 13 = .ok (.aload_n 0, 1) := by decide +kernel
theorem dX1_woodsBowled_14 : decode cX1_woodsBowled 14 = .ok (.getfield 20, 3) := by decide +kernel
theorem dX1_woodsBowled_17 : decode cX1_woodsBowled 17 = .ok (.iload_n 2, 1) := by decide +kernel
theorem dX1_woodsBowled_18 : decode cX1_woodsBowled 18 = .ok (.aaload, 1) := by decide +kernel
theorem dX1_woodsBowled_19 : decode cX1_woodsBowled 19 = .ok (.getfield 149, 3) := by decide +kernel
theorem dX1_woodsBowled_22 : decode cX1_woodsBowled 22 = .ok (.iadd, 1) := by decide +kernel
theorem dX1_woodsBowled_23 : decode cX1_woodsBowled 23 = .ok (.istore_n 1, 1) := by decide +kernel
theorem dX1_woodsBowled_24 : decode cX1_woodsBowled 24 = .ok (.iinc 2 1, 3) := by decide +kernel
theorem dX1_woodsBowled_27 : decode cX1_woodsBowled 27 = .ok (.goto (-23), 3) := by decide +kernel
theorem dX1_woodsBowled_30 : decode cX1_woodsBowled 30 = .ok (.iload_n 1, 1) := by decide +kernel
theorem dX1_woodsBowled_31 : decode cX1_woodsBowled 31 = .ok (.ireturn, 1) := by decide +kernel
theorem dX1_endsPlayed_0 : decode cX1_endsPlayed 0 = .ok (.iconst 0, 1) := by decide +kernel
theorem dX1_endsPlayed_1 : decode cX1_endsPlayed 1 = .ok (.istore_n 1, 1) := by decide +kernel
theorem dX1_endsPlayed_2 : decode cX1_endsPlayed 2 = .ok (.iconst 0, 1) := by decide +kernel
theorem dX1_endsPlayed_3 : decode cX1_endsPlayed 3 = .ok (.istore_n 2, 1) := by decide +kernel
theorem dX1_endsPlayed_4 : decode cX1_endsPlayed 4 = .ok (.iload_n 2, 1) := by decide +kernel
theorem dX1_endsPlayed_5 : decode cX1_endsPlayed 5 = .ok (.aload_n 0, 1) := by decide +kernel
theorem dX1_endsPlayed_6 : decode cX1_endsPlayed 6 = .ok (.getfield 35, 3) := by decide +kernel
theorem dX1_endsPlayed_9 : decode cX1_endsPlayed 9 = .ok (.if_icmp .ge 24, 3) := by decide +kernel
theorem dX1_endsPlayed_12 : decode cX1_endsPlayed 12 = .ok (.aload_n 0, 1) := by decide +kernel
theorem dX1_endsPlayed_13 : decode cX1_endsPlayed 13 = .ok (.getfield 11, 3) := by decide +kernel
theorem dX1_endsPlayed_16 : decode cX1_endsPlayed 16 = .ok (.iload_n 2, 1) := by decide +kernel
theorem dX1_endsPlayed_17 : decode cX1_endsPlayed 17 = .ok (.aaload, 1) := by decide +kernel
theorem dX1_endsPlayed_18 : decode cX1_endsPlayed 18 = .ok (.invokevirtual 152, 3) := by decide +kernel
theorem dX1_endsPlayed_21 : decode cX1_endsPlayed 21 = .ok (.ifCond .eq 6, 3) := by decide +kernel
theorem dX1_endsPlayed_24 : decode cX1_endsPlayed 24 = .ok (.iinc 1 1, 3) := by decide +kernel
theorem dX1_endsPlayed_27 : decode cX1_endsPlayed 27 = .ok (.iinc 2 1, 3) := by decide +kernel
theorem dX1_endsPlayed_30 : decode cX1_endsPlayed 30 = .ok (.goto (-26), 3) := by decide +kernel
theorem dX1_endsPlayed_33 : decode cX1_endsPlayed 33 = .ok (.iload_n 1, 1) := by decide +kernel
theorem dX1_endsPlayed_34 : decode cX1_endsPlayed 34 = .ok (.ireturn, 1) := by decide +kernel
theorem dX1_endsClosed_0 : decode cX1_endsClosed 0 = .ok (.iconst 0, 1) := by decide +kernel
theorem dX1_endsClosed_1 : decode cX1_endsClosed 1 = .ok (.istore_n 1, 1) := by decide +kernel
theorem dX1_endsClosed_2 : decode cX1_endsClosed 2 = .ok (.iconst 0, 1) := by decide +kernel
theorem dX1_endsClosed_3 : decode cX1_endsClosed 3 = .ok (.istore_n 2, 1) := by decide +kernel
theorem dX1_endsClosed_4 : decode cX1_endsClosed 4 = .ok (.iload_n 2, 1) := by decide +kernel
theorem dX1_endsClosed_5 : decode cX1_endsClosed 5 = .ok (.aload_n 0, 1) := by decide +kernel
theorem dX1_endsClosed_6 : decode cX1_endsClosed 6 = .ok (.getfield 35, 3) := by decide +kernel
theorem dX1_endsClosed_9 : decode cX1_endsClosed 9 = .ok (.if_icmp .ge 21, 3) := by decide +kernel
theorem dX1_endsClosed_12 : decode cX1_endsClosed 12 = .ok (.iload_n 1, 1) := by decide +kernel
theorem dX1_endsClosed_13 : decode cX1_endsClosed 13 = .ok (.aload_n 0, 1) := by decide +kernel
theorem dX1_endsClosed_14 : decode cX1_endsClosed 14 = .ok (.getfield 11, 3) := by decide +kernel
theorem dX1_endsClosed_17 : decode cX1_endsClosed 17 = .ok (.iload_n 2, 1) := by decide +kernel
theorem dX1_endsClosed_18 : decode cX1_endsClosed 18 = .ok (.aaload, 1) := by decide +kernel
theorem dX1_endsClosed_19 : decode cX1_endsClosed 19 = .ok (.getfield 156, 3) := by decide +kernel
theorem dX1_endsClosed_22 : decode cX1_endsClosed 22 = .ok (.iadd, 1) := by decide +kernel
theorem dX1_endsClosed_23 : decode cX1_endsClosed 23 = .ok (.istore_n 1, 1) := by decide +kernel
theorem dX1_endsClosed_24 : decode cX1_endsClosed 24 = .ok (.iinc 2 1, 3) := by decide +kernel
theorem dX1_endsClosed_27 : decode cX1_endsClosed 27 = .ok (.goto (-23), 3) := by decide +kernel
theorem dX1_endsClosed_30 : decode cX1_endsClosed 30 = .ok (.iload_n 1, 1) := by decide +kernel
theorem dX1_endsClosed_31 : decode cX1_endsClosed 31 = .ok (.ireturn, 1) := by decide +kernel
theorem dX1_allWet_0 : decode cX1_allWet 0 = .ok (.iconst 0, 1) := by decide +kernel
theorem dX1_allWet_1 : decode cX1_allWet 1 = .ok (.istore_n 1, 1) := by decide +kernel
theorem dX1_allWet_2 : decode cX1_allWet 2 = .ok (.iconst 0, 1) := by decide +kernel
theorem dX1_allWet_3 : decode cX1_allWet 3 = .ok (.istore_n 2, 1) := by decide +kernel
theorem dX1_allWet_4 : decode cX1_allWet 4 = .ok (.iload_n 2, 1) := by decide +kernel
theorem dX1_allWet_5 : decode cX1_allWet 5 = .ok (.aload_n 0, 1) := by decide +kernel
theorem dX1_allWet_6 : decode cX1_allWet 6 = .ok (.getfield 35, 3) := by decide +kernel
theorem dX1_allWet_9 : decode cX1_allWet 9 = .ok (.if_icmp .ge 21, 3) := by decide +kernel
theorem dX1_allWet_12 : decode cX1_allWet 12 = .ok (.iload_n 1, 1) := by decide +kernel
theorem dX1_allWet_13 : decode cX1_allWet 13 = .ok (.aload_n 0, 1) := by decide +kernel
theorem dX1_allWet_14 : decode cX1_allWet 14 = .ok (.getfield 11, 3) := by decide +kernel
theorem dX1_allWet_17 : decode cX1_allWet 17 = .ok (.iload_n 2, 1) := by decide +kernel
theorem dX1_allWet_18 : decode cX1_allWet 18 = .ok (.aaload, 1) := by decide +kernel
theorem dX1_allWet_19 : decode cX1_allWet 19 = .ok (.getfield 80, 3) := by decide +kernel
theorem dX1_allWet_22 : decode cX1_allWet 22 = .ok (.iadd, 1) := by decide +kernel
theorem dX1_allWet_23 : decode cX1_allWet 23 = .ok (.istore_n 1, 1) := by decide +kernel
theorem dX1_allWet_24 : decode cX1_allWet 24 = .ok (.iinc 2 1, 3) := by decide +kernel
theorem dX1_allWet_27 : decode cX1_allWet 27 = .ok (.goto (-23), 3) := by decide +kernel
theorem dX1_allWet_30 : decode cX1_allWet 30 = .ok (.iload_n 1, 1) := by decide +kernel
theorem dX1_allWet_31 : decode cX1_allWet 31 = .ok (.ireturn, 1) := by decide +kernel
theorem dX1_allCasts_0 : decode cX1_allCasts 0 = .ok (.iconst 0, 1) := by decide +kernel
theorem dX1_allCasts_1 : decode cX1_allCasts 1 = .ok (.istore_n 1, 1) := by decide +kernel
theorem dX1_allCasts_2 : decode cX1_allCasts 2 = .ok (.iconst 0, 1) := by decide +kernel
theorem dX1_allCasts_3 : decode cX1_allCasts 3 = .ok (.istore_n 2, 1) := by decide +kernel
theorem dX1_allCasts_4 : decode cX1_allCasts 4 = .ok (.iload_n 2, 1) := by decide +kernel
theorem dX1_allCasts_5 : decode cX1_allCasts 5 = .ok (.aload_n 0, 1) := by decide +kernel
theorem dX1_allCasts_6 : decode cX1_allCasts 6 = .ok (.getfield 35, 3) := by decide +kernel
theorem dX1_allCasts_9 : decode cX1_allCasts 9 = .ok (.if_icmp .ge 21, 3) := by decide +kernel
theorem dX1_allCasts_12 : decode cX1_allCasts 12 = .ok (.iload_n 1, 1) := by decide +kernel
theorem dX1_allCasts_13 : decode cX1_allCasts 13 = .ok (.aload_n 0, 1) := by decide +kernel
theorem dX1_allCasts_14 : decode cX1_allCasts 14 = .ok (.getfield 11, 3) := by decide +kernel
theorem dX1_allCasts_17 : decode cX1_allCasts 17 = .ok (.iload_n 2, 1) := by decide +kernel
theorem dX1_allCasts_18 : decode cX1_allCasts 18 = .ok (.aaload, 1) := by decide +kernel
theorem dX1_allCasts_19 : decode cX1_allCasts 19 = .ok (.getfield 83, 3) := by decide +kernel
theorem dX1_allCasts_22 : decode cX1_allCasts 22 = .ok (.iadd, 1) := by decide +kernel
theorem dX1_allCasts_23 : decode cX1_allCasts 23 = .ok (.istore_n 1, 1) := by decide +kernel
theorem dX1_allCasts_24 : decode cX1_allCasts 24 = .ok (.iinc 2 1, 3) := by decide +kernel
theorem dX1_allCasts_27 : decode cX1_allCasts 27 = .ok (.goto (-23), 3) := by decide +kernel
theorem dX1_allCasts_30 : decode cX1_allCasts 30 = .ok (.iload_n 1, 1) := by decide +kernel
theorem dX1_allCasts_31 : decode cX1_allCasts 31 = .ok (.ireturn, 1) := by decide +kernel
theorem dX1_drink_0 : decode cX1_drink 0 = .ok (.aload_n 0, 1) := by decide +kernel
theorem dX1_drink_1 : decode cX1_drink 1 = .ok (.dup, 1) := by decide +kernel
theorem dX1_drink_2 : decode cX1_drink 2 = .ok (.getfield 52, 3) := by decide +kernel
theorem dX1_drink_5 : decode cX1_drink 5 = .ok (.iload_n 1, 1) := by decide +kernel
theorem dX1_drink_6 : decode cX1_drink 6 = .ok (.isub, 1) := by decide +kernel
theorem dX1_drink_7 : decode cX1_drink 7 = .ok (.putfield 52, 3) := by decide +kernel
theorem dX1_drink_10 : decode cX1_drink 10 = .ok (.aload_n 0, 1) := by decide +kernel
theorem dX1_drink_11 : decode cX1_drink 11 = .ok (.dup, 1) := by decide +kernel
theorem dX1_drink_12 : decode cX1_drink 12 = .ok (.getfield 55, 3) := by decide +kernel
theorem dX1_drink_15 : decode cX1_drink 15 = .ok (.iload_n 1, 1) := by decide +kernel
theorem dX1_drink_16 : decode cX1_drink 16 = .ok (.iadd, 1) := by decide +kernel
theorem dX1_drink_17 : decode cX1_drink 17 = .ok (.putfield 55, 3) := by decide +kernel
theorem dX1_drink_20 : decode cX1_drink 20 = .ok (.return_, 1) := by decide +kernel
theorem dX1_passHour_0 : decode cX1_passHour 0 = .ok (.iconst 0, 1) := by decide +kernel
theorem dX1_passHour_1 : decode cX1_passHour 1 = .ok (.istore_n 1, 1) := by decide +kernel
theorem dX1_passHour_2 : decode cX1_passHour 2 = .ok (.iload_n 1, 1) := by decide +kernel
theorem dX1_passHour_3 : decode cX1_passHour 3 = .ok (.aload_n 0, 1) := by decide +kernel
theorem dX1_passHour_4 : decode cX1_passHour 4 = .ok (.getfield 35, 3) := by decide +kernel
theorem dX1_passHour_7 : decode cX1_passHour 7 = .ok (.if_icmp .ge 44, 3) := by decide +kernel
theorem dX1_passHour_10 : decode cX1_passHour 10 = .ok (.aload_n 0, 1) := by decide +kernel
theorem dX1_passHour_11 : decode cX1_passHour 11 = .ok (.getfield 11, 3) := by decide +kernel
theorem dX1_passHour_14 : decode cX1_passHour 14 = .ok (.iload_n 1, 1) := by decide +kernel
theorem dX1_passHour_15 : decode cX1_passHour 15 = .ok (.aaload, 1) := by decide +kernel
theorem dX1_passHour_16 : decode cX1_passHour 16 = .ok (.astore_n 2, 1) := by decide +kernel
theorem dX1_passHour_17 : decode cX1_passHour 17 = .ok (.aload_n 2, 1) := by decide +kernel
theorem dX1_passHour_18 : decode cX1_passHour 18 = .ok (.aload_n 0, 1) := by decide +kernel
theorem dX1_passHour_19 : decode cX1_passHour 19 = .ok (.aload_n 2, 1) := by decide +kernel
theorem dX1_passHour_20 : decode cX1_passHour 20 = .ok (.getfield 80, 3) := by decide +kernel
theorem dX1_passHour_23 : decode cX1_passHour 23 = .ok (.invokevirtual 159, 3) := by decide +kernel
theorem dX1_passHour_26 : decode cX1_passHour 26 = .ok (.putfield 80, 3) := by decide +kernel
theorem dX1_passHour_29 : decode cX1_passHour 29 = .ok (.aload_n 2, 1) := by decide +kernel
theorem dX1_passHour_30 : decode cX1_passHour 30 = .ok (.aload_n 2, 1) := by decide +kernel
theorem dX1_passHour_31 : decode cX1_passHour 31 = .ok (.aload_n 2, 1) := by decide +kernel
theorem dX1_passHour_32 : decode cX1_passHour 32 = .ok (.getfield 83, 3) := by decide +kernel
theorem dX1_passHour_35 : decode cX1_passHour 35 = .ok (.aload_n 2, 1) := by decide +kernel
theorem dX1_passHour_36 : decode cX1_passHour 36 = .ok (.getfield 80, 3) := by decide +kernel
theorem dX1_passHour_39 : decode cX1_passHour 39 = .ok (.invokevirtual 162, 3) := by decide +kernel
theorem dX1_passHour_42 : decode cX1_passHour 42 = .ok (.putfield 83, 3) := by decide +kernel
theorem dX1_passHour_45 : decode cX1_passHour 45 = .ok (.iinc 1 1, 3) := by decide +kernel
theorem dX1_passHour_48 : decode cX1_passHour 48 = .ok (.goto (-46), 3) := by decide +kernel
theorem dX1_passHour_51 : decode cX1_passHour 51 = .ok (.aload_n 0, 1) := by decide +kernel
theorem dX1_passHour_52 : decode cX1_passHour 52 = .ok (.dup, 1) := by decide +kernel
theorem dX1_passHour_53 : decode cX1_passHour 53 = .ok (.getfield 43, 3) := by decide +kernel
theorem dX1_passHour_56 : decode cX1_passHour 56 = .ok (.iconst 1, 1) := by decide +kernel
theorem dX1_passHour_57 : decode cX1_passHour 57 = .ok (.iadd, 1) := by decide +kernel
theorem dX1_passHour_58 : decode cX1_passHour 58 = .ok (.putfield 43, 3) := by decide +kernel
theorem dX1_passHour_61 : decode cX1_passHour 61 = .ok (.return_, 1) := by decide +kernel
theorem dX1_wetAfter_0 : decode cX1_wetAfter 0 = .ok (.iconst 0, 1) := by decide +kernel
theorem dX1_wetAfter_1 : decode cX1_wetAfter 1 = .ok (.bipush 20, 2) := by decide +kernel
theorem dX1_wetAfter_3 : decode cX1_wetAfter 3 = .ok (.iload_n 1, 1) := by decide +kernel
theorem dX1_wetAfter_4 : decode cX1_wetAfter 4 = .ok (.aload_n 0, 1) := by decide +kernel
theorem dX1_wetAfter_5 : decode cX1_wetAfter 5 = .ok (.getfield 46, 3) := by decide +kernel
theorem dX1_wetAfter_8 : decode cX1_wetAfter 8 = .ok (.iadd, 1) := by decide +kernel
theorem dX1_wetAfter_9 : decode cX1_wetAfter 9 = .ok (.aload_n 0, 1) := by decide +kernel
theorem dX1_wetAfter_10 : decode cX1_wetAfter 10 = .ok (.getfield 49, 3) := by decide +kernel
theorem dX1_wetAfter_13 : decode cX1_wetAfter 13 = .ok (.isub, 1) := by decide +kernel
theorem dX1_wetAfter_14 : decode cX1_wetAfter 14 = .ok (.invokestatic 126, 3) := by decide +kernel
theorem dX1_wetAfter_17 : decode cX1_wetAfter 17 = .ok (.invokestatic 86, 3) := by decide +kernel
theorem dX1_wetAfter_20 : decode cX1_wetAfter 20 = .ok (.ireturn, 1) := by decide +kernel
theorem dX1_wetAhead_0 : decode cX1_wetAhead 0 = .ok (.aload_n 0, 1) := by decide +kernel
theorem dX1_wetAhead_1 : decode cX1_wetAhead 1 = .ok (.getfield 11, 3) := by decide +kernel
theorem dX1_wetAhead_4 : decode cX1_wetAhead 4 = .ok (.iload_n 1, 1) := by decide +kernel
theorem dX1_wetAhead_5 : decode cX1_wetAhead 5 = .ok (.aaload, 1) := by decide +kernel
theorem dX1_wetAhead_6 : decode cX1_wetAhead 6 = .ok (.getfield 80, 3) := by decide +kernel
theorem dX1_wetAhead_9 : decode cX1_wetAhead 9 = .ok (.istore_n 3, 1) := by decide +kernel
theorem dX1_wetAhead_10 : decode cX1_wetAhead 10 = .ok (.iconst 0, 1) := by decide +kernel
theorem dX1_wetAhead_11 : decode cX1_wetAhead 11 = .ok (.istore 4, 2) := by decide +kernel
theorem dX1_wetAhead_13 : decode cX1_wetAhead 13 = .ok (.iload 4, 2) := by decide +kernel
theorem dX1_wetAhead_15 : decode cX1_wetAhead 15 = .ok (.iload_n 2, 1) := by decide +kernel
theorem dX1_wetAhead_16 : decode cX1_wetAhead 16 = .ok (.if_icmp .ge 15, 3) := by decide +kernel
theorem dX1_wetAhead_19 : decode cX1_wetAhead 19 = .ok (.aload_n 0, 1) := by decide +kernel
theorem dX1_wetAhead_20 : decode cX1_wetAhead 20 = .ok (.iload_n 3, 1) := by decide +kernel
theorem dX1_wetAhead_21 : decode cX1_wetAhead 21 = .ok (.invokevirtual 159, 3) := by decide +kernel
theorem dX1_wetAhead_24 : decode cX1_wetAhead 24 = .ok (.istore_n 3, 1) := by decide +kernel
theorem dX1_wetAhead_25 : decode cX1_wetAhead 25 = .ok (.iinc 4 1, 3) := by decide +kernel
theorem dX1_wetAhead_28 : decode cX1_wetAhead 28 = .ok (.goto (-15), 3) := by decide +kernel
theorem dX1_wetAhead_31 : decode cX1_wetAhead 31 = .ok (.iload_n 3, 1) := by decide +kernel
theorem dX1_wetAhead_32 : decode cX1_wetAhead 32 = .ok (.ireturn, 1) := by decide +kernel
theorem dX1_castsAhead_0 : decode cX1_castsAhead 0 = .ok (.aload_n 0, 1) := by decide +kernel
theorem dX1_castsAhead_1 : decode cX1_castsAhead 1 = .ok (.getfield 11, 3) := by decide +kernel
theorem dX1_castsAhead_4 : decode cX1_castsAhead 4 = .ok (.iload_n 1, 1) := by decide +kernel
theorem dX1_castsAhead_5 : decode cX1_castsAhead 5 = .ok (.aaload, 1) := by decide +kernel
theorem dX1_castsAhead_6 : decode cX1_castsAhead 6 = .ok (.getfield 80, 3) := by decide +kernel
theorem dX1_castsAhead_9 : decode cX1_castsAhead 9 = .ok (.istore_n 3, 1) := by decide +kernel
theorem dX1_castsAhead_10 : decode cX1_castsAhead 10 = .ok (.aload_n 0, 1) := by decide +kernel
theorem dX1_castsAhead_11 : decode cX1_castsAhead 11 = .ok (.getfield 11, 3) := by decide +kernel
theorem dX1_castsAhead_14 : decode cX1_castsAhead 14 = .ok (.iload_n 1, 1) := by decide +kernel
theorem dX1_castsAhead_15 : decode cX1_castsAhead 15 = .ok (.aaload, 1) := by decide +kernel
theorem dX1_castsAhead_16 : decode cX1_castsAhead 16 = .ok (.getfield 83, 3) := by decide +kernel
theorem dX1_castsAhead_19 : decode cX1_castsAhead 19 = .ok (.istore 4, 2) := by decide +kernel
theorem dX1_castsAhead_21 : decode cX1_castsAhead 21 = .ok (.iconst 0, 1) := by decide +kernel
theorem dX1_castsAhead_22 : decode cX1_castsAhead 22 = .ok (.istore 5, 2) := by decide +kernel
theorem dX1_castsAhead_24 : decode cX1_castsAhead 24 = .ok (.iload 5, 2) := by decide +kernel
theorem dX1_castsAhead_26 : decode cX1_castsAhead 26 = .ok (.iload_n 2, 1) := by decide +kernel
theorem dX1_castsAhead_27 : decode cX1_castsAhead 27 = .ok (.if_icmp .ge 29, 3) := by decide +kernel
theorem dX1_castsAhead_30 : decode cX1_castsAhead 30 = .ok (.aload_n 0, 1) := by decide +kernel
theorem dX1_castsAhead_31 : decode cX1_castsAhead 31 = .ok (.iload_n 3, 1) := by decide +kernel
theorem dX1_castsAhead_32 : decode cX1_castsAhead 32 = .ok (.invokevirtual 159, 3) := by decide +kernel
theorem dX1_castsAhead_35 : decode cX1_castsAhead 35 = .ok (.istore_n 3, 1) := by decide +kernel
theorem dX1_castsAhead_36 : decode cX1_castsAhead 36 = .ok (.aload_n 0, 1) := by decide +kernel
theorem dX1_castsAhead_37 : decode cX1_castsAhead 37 = .ok (.getfield 11, 3) := by decide +kernel
theorem dX1_castsAhead_40 : decode cX1_castsAhead 40 = .ok (.iload_n 1, 1) := by decide +kernel
theorem dX1_castsAhead_41 : decode cX1_castsAhead 41 = .ok (.aaload, 1) := by decide +kernel
theorem dX1_castsAhead_42 : decode cX1_castsAhead 42 = .ok (.iload 4, 2) := by decide +kernel
theorem dX1_castsAhead_44 : decode cX1_castsAhead 44 = .ok (.iload_n 3, 1) := by decide +kernel
theorem dX1_castsAhead_45 : decode cX1_castsAhead 45 = .ok (.invokevirtual 162, 3) := by decide +kernel
theorem dX1_castsAhead_48 : decode cX1_castsAhead 48 = .ok (.istore 4, 2) := by decide +kernel
theorem dX1_castsAhead_50 : decode cX1_castsAhead 50 = .ok (.iinc 5 1, 3) := by decide +kernel
theorem dX1_castsAhead_53 : decode cX1_castsAhead 53 = .ok (.goto (-29), 3) := by decide +kernel
theorem dX1_castsAhead_56 : decode cX1_castsAhead 56 = .ok (.iload 4, 2) := by decide +kernel
theorem dX1_castsAhead_58 : decode cX1_castsAhead 58 = .ok (.ireturn, 1) := by decide +kernel
theorem dX1_hoursUntilDry_0 : decode cX1_hoursUntilDry 0 = .ok (.aload_n 0, 1) := by decide +kernel
theorem dX1_hoursUntilDry_1 : decode cX1_hoursUntilDry 1 = .ok (.getfield 11, 3) := by decide +kernel
theorem dX1_hoursUntilDry_4 : decode cX1_hoursUntilDry 4 = .ok (.iload_n 1, 1) := by decide +kernel
theorem dX1_hoursUntilDry_5 : decode cX1_hoursUntilDry 5 = .ok (.aaload, 1) := by decide +kernel
theorem dX1_hoursUntilDry_6 : decode cX1_hoursUntilDry 6 = .ok (.getfield 80, 3) := by decide +kernel
theorem dX1_hoursUntilDry_9 : decode cX1_hoursUntilDry 9 = .ok (.istore_n 2, 1) := by decide +kernel
theorem dX1_hoursUntilDry_10 : decode cX1_hoursUntilDry 10 = .ok (.iconst 0, 1) := by decide +kernel
theorem dX1_hoursUntilDry_11 : decode cX1_hoursUntilDry 11 = .ok (.istore_n 3, 1) := by decide +kernel
theorem dX1_hoursUntilDry_12 : decode cX1_hoursUntilDry 12 = .ok (.iload_n 3, 1) := by decide +kernel
theorem dX1_hoursUntilDry_13 : decode cX1_hoursUntilDry 13 = .ok (.bipush 40, 2) := by decide +kernel
theorem dX1_hoursUntilDry_15 : decode cX1_hoursUntilDry 15 = .ok (.if_icmp .gt 23, 3) := by decide +kernel
theorem dX1_hoursUntilDry_18 : decode cX1_hoursUntilDry 18 = .ok (.iload_n 2, 1) := by decide +kernel
theorem dX1_hoursUntilDry_19 : decode cX1_hoursUntilDry 19 = .ok (.bipush 8, 2) := by decide +kernel
theorem dX1_hoursUntilDry_21 : decode cX1_hoursUntilDry 21 = .ok (.if_icmp .ge 5, 3) := by decide +kernel
theorem dX1_hoursUntilDry_24 : decode cX1_hoursUntilDry 24 = .ok (.iload_n 3, 1) := by decide +kernel
theorem dX1_hoursUntilDry_25 : decode cX1_hoursUntilDry 25 = .ok (.ireturn, 1) := by decide +kernel
theorem dX1_hoursUntilDry_26 : decode cX1_hoursUntilDry 26 = .ok (.aload_n 0, 1) := by decide +kernel
theorem dX1_hoursUntilDry_27 : decode cX1_hoursUntilDry 27 = .ok (.iload_n 2, 1) := by decide +kernel
theorem dX1_hoursUntilDry_28 : decode cX1_hoursUntilDry 28 = .ok (.invokevirtual 159, 3) := by decide +kernel
theorem dX1_hoursUntilDry_31 : decode cX1_hoursUntilDry 31 = .ok (.istore_n 2, 1) := by decide +kernel
theorem dX1_hoursUntilDry_32 : decode cX1_hoursUntilDry 32 = .ok (.iinc 3 1, 3) := by decide +kernel
theorem dX1_hoursUntilDry_35 : decode cX1_hoursUntilDry 35 = .ok (.goto (-23), 3) := by decide +kernel
theorem dX1_hoursUntilDry_38 : decode cX1_hoursUntilDry 38 = .ok (.iconst (-1), 1) := by decide +kernel
theorem dX1_hoursUntilDry_39 : decode cX1_hoursUntilDry 39 = .ok (.ireturn, 1) := by decide +kernel
theorem dX2_init_0 : decode cX2_init 0 = .ok (.aload_n 0, 1) := by decide +kernel
theorem dX2_init_1 : decode cX2_init 1 = .ok (.invokespecial 3, 3) := by decide +kernel
theorem dX2_init_4 : decode cX2_init 4 = .ok (.aload_n 0, 1) := by decide +kernel
theorem dX2_init_5 : decode cX2_init 5 = .ok (.bipush 30, 2) := by decide +kernel
theorem dX2_init_7 : decode cX2_init 7 = .ok (.newarray .int, 2) := by decide +kernel
theorem dX2_init_9 : decode cX2_init 9 = .ok (.putfield 9, 3) := by decide +kernel
theorem dX2_init_12 : decode cX2_init 12 = .ok (.aload_n 0, 1) := by decide +kernel
theorem dX2_init_13 : decode cX2_init 13 = .ok (.sipush 150, 3) := by decide +kernel
theorem dX2_init_16 : decode cX2_init 16 = .ok (.newarray .int, 2) := by decide +kernel
theorem dX2_init_18 : decode cX2_init 18 = .ok (.putfield 15, 3) := by decide +kernel
theorem dX2_init_21 : decode cX2_init 21 = .ok (.return_, 1) := by decide +kernel
theorem dX2_number_0 : decode cX2_number 0 = .ok (.aload_n 0, 1) := by decide +kernel
theorem dX2_number_1 : decode cX2_number 1 = .ok (.getfield 15, 3) := by decide +kernel
theorem dX2_number_4 : decode cX2_number 4 = .ok (.iload_n 1, 1) := by decide +kernel
theorem dX2_number_5 : decode cX2_number 5 = .ok (.iconst 5, 1) := by decide +kernel
theorem dX2_number_6 : decode cX2_number 6 = .ok (.imul, 1) := by decide +kernel
theorem dX2_number_7 : decode cX2_number 7 = .ok (.iload_n 2, 1) := by decide +kernel
theorem dX2_number_8 : decode cX2_number 8 = .ok (.iadd, 1) := by decide +kernel
theorem dX2_number_9 : decode cX2_number 9 = .ok (.iaload, 1) := by decide +kernel
theorem dX2_number_10 : decode cX2_number 10 = .ok (.ireturn, 1) := by decide +kernel
theorem dX2_read_0 : decode cX2_read 0 = .ok (.aload_n 0, 1) := by decide +kernel
theorem dX2_read_1 : decode cX2_read 1 = .ok (.iconst 0, 1) := by decide +kernel
theorem dX2_read_2 : decode cX2_read 2 = .ok (.putfield 18, 3) := by decide +kernel
theorem dX2_read_5 : decode cX2_read 5 = .ok (.aload_n 0, 1) := by decide +kernel
theorem dX2_read_6 : decode cX2_read 6 = .ok (.iconst 0, 1) := by decide +kernel
theorem dX2_read_7 : decode cX2_read 7 = .ok (.putfield 22, 3) := by decide +kernel
theorem dX2_read_10 : decode cX2_read 10 = .ok (.iconst 0, 1) := by decide +kernel
theorem dX2_read_11 : decode cX2_read 11 = .ok (.istore_n 2, 1) := by decide +kernel
theorem dX2_read_12 : decode cX2_read 12 = .ok (.iload_n 2, 1) := by decide +kernel
theorem dX2_read_13 : decode cX2_read 13 = .ok (.bipush 30, 2) := by decide +kernel
theorem dX2_read_15 : decode cX2_read 15 = .ok (.if_icmp .ge 55, 3) := by decide +kernel
theorem dX2_read_18 : decode cX2_read 18 = .ok (.aload_n 0, 1) := by decide +kernel
theorem dX2_read_19 : decode cX2_read 19 = .ok (.aload_n 1, 1) := by decide +kernel
theorem dX2_read_20 : decode cX2_read 20 = .ok (.iload_n 2, 1) := by decide +kernel
theorem dX2_read_21 : decode cX2_read 21 = .ok (.invokevirtual 25, 3) := by decide +kernel
theorem dX2_read_24 : decode cX2_read 24 = .ok (.ifCond .ne 5, 3) := by decide +kernel
theorem dX2_read_27 : decode cX2_read 27 = .ok (.iconst 0, 1) := by decide +kernel
theorem dX2_read_28 : decode cX2_read 28 = .ok (.ireturn, 1) := by decide +kernel
theorem dX2_read_29 : decode cX2_read 29 = .ok (.aload_n 0, 1) := by decide +kernel
theorem dX2_read_30 : decode cX2_read 30 = .ok (.dup, 1) := by decide +kernel
theorem dX2_read_31 : decode cX2_read 31 = .ok (.getfield 18, 3) := by decide +kernel
theorem dX2_read_34 : decode cX2_read 34 = .ok (.iconst 1, 1) := by decide +kernel
theorem dX2_read_35 : decode cX2_read 35 = .ok (.iadd, 1) := by decide +kernel
theorem dX2_read_36 : decode cX2_read 36 = .ok (.putfield 18, 3) := by decide +kernel
theorem dX2_read_39 : decode cX2_read 39 = .ok (.aload_n 0, 1) := by decide +kernel
theorem dX2_read_40 : decode cX2_read 40 = .ok (.getfield 22, 3) := by decide +kernel
theorem dX2_read_43 : decode cX2_read 43 = .ok (.aload_n 1, 1) := by decide +kernel
theorem dX2_read_44 : decode cX2_read 44 = .ok (.invokevirtual 29, 3) := by decide +kernel
theorem dX2_read_47 : decode cX2_read 47 = .ok (.if_icmp .ne 5, 3) := by decide +kernel
theorem dX2_read_50 : decode cX2_read 50 = .ok (.iconst 1, 1) := by decide +kernel
theorem dX2_read_51 : decode cX2_read 51 = .ok (.ireturn, 1) := by decide +kernel
theorem dX2_read_52 : decode cX2_read 52 = .ok (.aload_n 0, 1) := by decide +kernel
theorem dX2_read_53 : decode cX2_read 53 = .ok (.aload_n 1, 1) := by decide +kernel
theorem dX2_read_54 : decode cX2_read 54 = .ok (.bipush 59, 2) := by decide +kernel
theorem dX2_read_56 : decode cX2_read 56 = .ok (.invokevirtual 35, 3) := by decide +kernel
theorem dX2_read_59 : decode cX2_read 59 = .ok (.ifCond .ne 5, 3) := by decide +kernel
theorem dX2_read_62 : decode cX2_read 62 = .ok (.iconst 0, 1) := by decide +kernel
theorem dX2_read_63 : decode cX2_read 63 = .ok (.ireturn, 1) := by decide +kernel
theorem dX2_read_64 : decode cX2_read 64 = .ok (.iinc 2 1, 3) := by decide +kernel
theorem dX2_read_67 : decode cX2_read 67 = .ok (.goto (-55), 3) := by decide +kernel
theorem dX2_read_70 : decode cX2_read 70 = .ok (.iconst 0, 1) := by decide +kernel
theorem dX2_read_71 : decode cX2_read 71 = .ok (.ireturn, 1) := by decide +kernel
theorem dX2_readOrder_0 : decode cX2_readOrder 0 = .ok (.aload_n 0, 1) := by decide +kernel
theorem dX2_readOrder_1 : decode cX2_readOrder 1 = .ok (.getfield 22, 3) := by decide +kernel
theorem dX2_readOrder_4 : decode cX2_readOrder 4 = .ok (.aload_n 1, 1) := by decide +kernel
theorem dX2_readOrder_5 : decode cX2_readOrder 5 = .ok (.invokevirtual 29, 3) := by decide +kernel
theorem dX2_readOrder_8 : decode cX2_readOrder 8 = .ok (.if_icmp .lt 5, 3) := by decide +kernel
theorem dX2_readOrder_11 : decode cX2_readOrder 11 = .ok (.iconst 0, 1) := by decide +kernel
theorem dX2_readOrder_12 : decode cX2_readOrder 12 = .ok (.ireturn, 1) := by decide +kernel
theorem dX2_readOrder_13 : decode cX2_readOrder 13 = .ok (.aload_n 0, 1) := by decide +kernel
theorem dX2_readOrder_14 : decode cX2_readOrder 14 = .ok (.getfield 9, 3) := by decide +kernel
theorem dX2_readOrder_17 : decode cX2_readOrder 17 = .ok (.iload_n 2, 1) := by decide +kernel
theorem dX2_readOrder_18 : decode cX2_readOrder 18 = .ok (.aload_n 1, 1) := by decide +kernel
theorem dX2_readOrder_19 : decode cX2_readOrder 19 = .ok (.aload_n 0, 1) := by decide +kernel
theorem dX2_readOrder_20 : decode cX2_readOrder 20 = .ok (.getfield 22, 3) := by decide +kernel
theorem dX2_readOrder_23 : decode cX2_readOrder 23 = .ok (.invokevirtual 38, 3) := by decide +kernel
theorem dX2_readOrder_26 : decode cX2_readOrder 26 = .ok (.iastore, 1) := by decide +kernel
theorem dX2_readOrder_27 : decode cX2_readOrder 27 = .ok (.aload_n 0, 1) := by decide +kernel
theorem dX2_readOrder_28 : decode cX2_readOrder 28 = .ok (.getfield 9, 3) := by decide +kernel
theorem dX2_readOrder_31 : decode cX2_readOrder 31 = .ok (.iload_n 2, 1) := by decide +kernel
theorem dX2_readOrder_32 : decode cX2_readOrder 32 = .ok (.iaload, 1) := by decide +kernel
theorem dX2_readOrder_33 : decode cX2_readOrder 33 = .ok (.invokestatic 42, 3) := by decide +kernel
theorem dX2_readOrder_36 : decode cX2_readOrder 36 = .ok (.astore_n 3, 1) := by decide +kernel
theorem dX2_readOrder_37 : decode cX2_readOrder 37 = .ok (.aload_n 3, 1) := by decide +kernel
theorem dX2_readOrder_38 : decode cX2_readOrder 38 = .ok (.invokevirtual 46, 3) := by decide +kernel
theorem dX2_readOrder_41 : decode cX2_readOrder 41 = .ok (.ifCond .eq 5, 3) := by decide +kernel
theorem dX2_readOrder_44 : decode cX2_readOrder 44 = .ok (.iconst 0, 1) := by decide +kernel
theorem dX2_readOrder_45 : decode cX2_readOrder 45 = .ok (.ireturn, 1) := by decide +kernel
theorem dX2_readOrder_46 : decode cX2_readOrder 46 = .ok (.aload_n 0, 1) := by decide +kernel
theorem dX2_readOrder_47 : decode cX2_readOrder 47 = .ok (.dup, 1) := by decide +kernel
theorem dX2_readOrder_48 : decode cX2_readOrder 48 = .ok (.getfield 22, 3) := by decide +kernel
theorem dX2_readOrder_51 : decode cX2_readOrder 51 = .ok (.iconst 1, 1) := by decide +kernel
theorem dX2_readOrder_52 : decode cX2_readOrder 52 = .ok (.iadd, 1) := by decide +kernel
theorem dX2_readOrder_53 : decode cX2_readOrder 53 = .ok (.putfield 22, 3) := by decide +kernel
theorem dX2_readOrder_56 : decode cX2_readOrder 56 = .ok (.iload_n 2, 1) := by decide +kernel
theorem dX2_readOrder_57 : decode cX2_readOrder 57 = .ok (.iconst 5, 1) := by decide +kernel
theorem dX2_readOrder_58 : decode cX2_readOrder 58 = .ok (.imul, 1) := by decide +kernel
theorem dX2_readOrder_59 : decode cX2_readOrder 59 = .ok (.istore 4, 2) := by decide +kernel
theorem dX2_readOrder_61 : decode cX2_readOrder 61 = .ok (.iconst 0, 1) := by decide +kernel
theorem dX2_readOrder_62 : decode cX2_readOrder 62 = .ok (.istore 5, 2) := by decide +kernel
theorem dX2_readOrder_64 : decode cX2_readOrder 64 = .ok (.iload 5, 2) := by decide +kernel
theorem dX2_readOrder_66 : decode cX2_readOrder 66 = .ok (.aload_n 3, 1) := by decide +kernel
theorem dX2_readOrder_67 : decode cX2_readOrder 67 = .ok (.invokevirtual 52, 3) := by decide +kernel
theorem dX2_readOrder_70 : decode cX2_readOrder 70 = .ok (.if_icmp .ge 42, 3) := by decide +kernel
theorem dX2_readOrder_73 : decode cX2_readOrder 73 = .ok (.aload_n 3, 1) := by decide +kernel
theorem dX2_readOrder_74 : decode cX2_readOrder 74 = .ok (.iload 5, 2) := by decide +kernel
theorem dX2_readOrder_76 : decode cX2_readOrder 76 = .ok (.invokevirtual 53, 3) := by decide +kernel
theorem dX2_readOrder_79 : decode cX2_readOrder 79 = .ok (.istore 6, 2) := by decide +kernel
theorem dX2_readOrder_81 : decode cX2_readOrder 81 = .ok (.aload_n 0, 1) := by decide +kernel
theorem dX2_readOrder_82 : decode cX2_readOrder 82 = .ok (.aload_n 1, 1) := by decide +kernel
theorem dX2_readOrder_83 : decode cX2_readOrder 83 = .ok (.iload 6, 2) := by decide +kernel
theorem dX2_readOrder_85 : decode cX2_readOrder 85 = .ok (.iload 4, 2) := by decide +kernel
theorem dX2_readOrder_87 : decode cX2_readOrder 87 = .ok (.invokevirtual 54, 3) := by decide +kernel
theorem dX2_readOrder_90 : decode cX2_readOrder 90 = .ok (.ifCond .ne 5, 3) := by decide +kernel
theorem dX2_readOrder_93 : decode cX2_readOrder 93 = .ok (.iconst 0, 1) := by decide +kernel
theorem dX2_readOrder_94 : decode cX2_readOrder 94 = .ok (.ireturn, 1) := by decide +kernel
theorem dX2_readOrder_95 : decode cX2_readOrder 95 = .ok (.iload 6, 2) := by decide +kernel
theorem dX2_readOrder_97 : decode cX2_readOrder 97 = .ok (.invokestatic 58, 3) := by decide +kernel
theorem dX2_readOrder_100 : decode cX2_readOrder 100 = .ok (.ifCond .eq 6, 3) := by decide +kernel
theorem dX2_readOrder_103 : decode cX2_readOrder 103 = .ok (.iinc 4 1, 3) := by decide +kernel
theorem dX2_readOrder_106 : decode cX2_readOrder 106 = .ok (.iinc 5 1, 3) := by decide +kernel
theorem dX2_readOrder_109 : decode cX2_readOrder 109 = .ok (.goto (-45), 3) := by decide +kernel
theorem dX2_readOrder_112 : decode cX2_readOrder 112 = .ok (.iconst 1, 1) := by decide +kernel
theorem dX2_readOrder_113 : decode cX2_readOrder 113 = .ok (.ireturn, 1) := by decide +kernel
theorem dX2_formOf_0 : decode cX2_formOf 0 = .ok (.iload_n 0, 1) := by decide +kernel
theorem dX2_formOf_1 : decode cX2_formOf 1 = .ok (.tableswitch 115 98 119 #[106, 109, 115, 103, 115, 115, 112, 115, 115, 115, 115, 115, 115, 115, 115, 115, 109, 109, 109, 115, 115, 109], 103) := by decide +kernel
theorem dX2_formOf_104 : decode cX2_formOf 104 = .ok (.ldc 62, 2) := by decide +kernel
theorem dX2_formOf_106 : decode cX2_formOf 106 = .ok (.areturn, 1) := by decide +kernel
theorem dX2_formOf_107 : decode cX2_formOf 107 = .ok (.ldc 64, 2) := by decide +kernel
theorem dX2_formOf_109 : decode cX2_formOf 109 = .ok (.areturn, 1) := by decide +kernel
theorem dX2_formOf_110 : decode cX2_formOf 110 = .ok (.ldc 66, 2) := by decide +kernel
theorem dX2_formOf_112 : decode cX2_formOf 112 = .ok (.areturn, 1) := by decide +kernel
theorem dX2_formOf_113 : decode cX2_formOf 113 = .ok (.ldc 68, 2) := by decide +kernel
theorem dX2_formOf_115 : decode cX2_formOf 115 = .ok (.areturn, 1) := by decide +kernel
theorem dX2_formOf_116 : decode cX2_formOf 116 = .ok (.ldc 70, 2) := by decide +kernel
theorem dX2_formOf_118 : decode cX2_formOf 118 = .ok (.areturn, 1) := by decide +kernel
theorem dX2_isKept_0 : decode cX2_isKept 0 = .ok (.iload_n 0, 1) := by decide +kernel
theorem dX2_isKept_1 : decode cX2_isKept 1 = .ok (.bipush 100, 2) := by decide +kernel
theorem dX2_isKept_3 : decode cX2_isKept 3 = .ok (.if_icmp .eq 15, 3) := by decide +kernel
theorem dX2_isKept_6 : decode cX2_isKept 6 = .ok (.iload_n 0, 1) := by decide +kernel
theorem dX2_isKept_7 : decode cX2_isKept 7 = .ok (.bipush 110, 2) := by decide +kernel
theorem dX2_isKept_9 : decode cX2_isKept 9 = .ok (.if_icmp .eq 9, 3) := by decide +kernel
theorem dX2_isKept_12 : decode cX2_isKept 12 = .ok (.iload_n 0, 1) := by decide +kernel
theorem dX2_isKept_13 : decode cX2_isKept 13 = .ok (.bipush 43, 2) := by decide +kernel
theorem dX2_isKept_15 : decode cX2_isKept 15 = .ok (.if_icmp .ne 7, 3) := by decide +kernel
theorem dX2_isKept_18 : decode cX2_isKept 18 = .ok (.iconst 1, 1) := by decide +kernel
theorem dX2_isKept_19 : decode cX2_isKept 19 = .ok (.goto 4, 3) := by decide +kernel
theorem dX2_isKept_22 : decode cX2_isKept 22 = .ok (.iconst 0, 1) := by decide +kernel
theorem dX2_isKept_23 : decode cX2_isKept 23 = .ok (.ireturn, 1) := by decide +kernel
theorem dX2_readPart_0 : decode cX2_readPart 0 = .ok (.iload_n 2, 1) := by decide +kernel
theorem dX2_readPart_1 : decode cX2_readPart 1 = .ok (.lookupswitch 58 #[(43, 51), (100, 35), (110, 43)], 35) := by decide +kernel
theorem dX2_readPart_36 : decode cX2_readPart 36 = .ok (.aload_n 0, 1) := by decide +kernel
theorem dX2_readPart_37 : decode cX2_readPart 37 = .ok (.aload_n 1, 1) := by decide +kernel
theorem dX2_readPart_38 : decode cX2_readPart 38 = .ok (.iconst 1, 1) := by decide +kernel
theorem dX2_readPart_39 : decode cX2_readPart 39 = .ok (.iload_n 3, 1) := by decide +kernel
theorem dX2_readPart_40 : decode cX2_readPart 40 = .ok (.invokevirtual 72, 3) := by decide +kernel
theorem dX2_readPart_43 : decode cX2_readPart 43 = .ok (.ireturn, 1) := by decide +kernel
theorem dX2_readPart_44 : decode cX2_readPart 44 = .ok (.aload_n 0, 1) := by decide +kernel
theorem dX2_readPart_45 : decode cX2_readPart 45 = .ok (.aload_n 1, 1) := by decide +kernel
theorem dX2_readPart_46 : decode cX2_readPart 46 = .ok (.iconst 2, 1) := by decide +kernel
theorem dX2_readPart_47 : decode cX2_readPart 47 = .ok (.iload_n 3, 1) := by decide +kernel
theorem dX2_readPart_48 : decode cX2_readPart 48 = .ok (.invokevirtual 72, 3) := by decide +kernel
theorem dX2_readPart_51 : decode cX2_readPart 51 = .ok (.ireturn, 1) := by decide +kernel
theorem dX2_readPart_52 : decode cX2_readPart 52 = .ok (.aload_n 0, 1) := by decide +kernel
theorem dX2_readPart_53 : decode cX2_readPart 53 = .ok (.aload_n 1, 1) := by decide +kernel
theorem dX2_readPart_54 : decode cX2_readPart 54 = .ok (.iload_n 3, 1) := by decide +kernel
theorem dX2_readPart_55 : decode cX2_readPart 55 = .ok (.invokevirtual 75, 3) := by decide +kernel
theorem dX2_readPart_58 : decode cX2_readPart 58 = .ok (.ireturn, 1) := by decide +kernel
theorem dX2_readPart_59 : decode cX2_readPart 59 = .ok (.aload_n 0, 1) := by decide +kernel
theorem dX2_readPart_60 : decode cX2_readPart 60 = .ok (.aload_n 1, 1) := by decide +kernel
theorem dX2_readPart_61 : decode cX2_readPart 61 = .ok (.iload_n 2, 1) := by decide +kernel
theorem dX2_readPart_62 : decode cX2_readPart 62 = .ok (.invokevirtual 35, 3) := by decide +kernel
theorem dX2_readPart_65 : decode cX2_readPart 65 = .ok (.ireturn, 1) := by decide +kernel
theorem dX2_readDigits_0 : decode cX2_readDigits 0 = .ok (.iconst 0, 1) := by decide +kernel
theorem dX2_readDigits_1 : decode cX2_readDigits 1 = .ok (.istore 4, 2) := by decide +kernel
theorem dX2_readDigits_3 : decode cX2_readDigits 3 = .ok (.iconst 0, 1) := by decide +kernel
theorem dX2_readDigits_4 : decode cX2_readDigits 4 = .ok (.istore 5, 2) := by decide +kernel
theorem dX2_readDigits_6 : decode cX2_readDigits 6 = .ok (.iload 5, 2) := by decide +kernel
theorem dX2_readDigits_8 : decode cX2_readDigits 8 = .ok (.iload_n 2, 1) := by decide +kernel
theorem dX2_readDigits_9 : decode cX2_readDigits 9 = .ok (.if_icmp .ge 63, 3) := by decide +kernel
theorem dX2_readDigits_12 : decode cX2_readDigits 12 = .ok (.aload_n 0, 1) := by decide +kernel
theorem dX2_readDigits_13 : decode cX2_readDigits 13 = .ok (.getfield 22, 3) := by decide +kernel
theorem dX2_readDigits_16 : decode cX2_readDigits 16 = .ok (.aload_n 1, 1) := by decide +kernel
theorem dX2_readDigits_17 : decode cX2_readDigits 17 = .ok (.invokevirtual 29, 3) := by decide +kernel
theorem dX2_readDigits_20 : decode cX2_readDigits 20 = .ok (.if_icmp .ge 52, 3) := by decide +kernel
theorem dX2_readDigits_23 : decode cX2_readDigits 23 = .ok (.aload_n 1, 1) := by decide +kernel
theorem dX2_readDigits_24 : decode cX2_readDigits 24 = .ok (.aload_n 0, 1) := by decide +kernel
theorem dX2_readDigits_25 : decode cX2_readDigits 25 = .ok (.getfield 22, 3) := by decide +kernel
theorem dX2_readDigits_28 : decode cX2_readDigits 28 = .ok (.invokevirtual 38, 3) := by decide +kernel
theorem dX2_readDigits_31 : decode cX2_readDigits 31 = .ok (.invokestatic 78, 3) := by decide +kernel
theorem dX2_readDigits_34 : decode cX2_readDigits 34 = .ok (.ifCond .eq 38, 3) := by decide +kernel
theorem dX2_readDigits_37 : decode cX2_readDigits 37 = .ok (.bipush 10, 2) := by decide +kernel
theorem dX2_readDigits_39 : decode cX2_readDigits 39 = .ok (.iload 4, 2) := by decide +kernel
theorem dX2_readDigits_41 : decode cX2_readDigits 41 = .ok (.imul, 1) := by decide +kernel
theorem dX2_readDigits_42 : decode cX2_readDigits 42 = .ok (.aload_n 1, 1) := by decide +kernel
theorem dX2_readDigits_43 : decode cX2_readDigits 43 = .ok (.aload_n 0, 1) := by decide +kernel
theorem dX2_readDigits_44 : decode cX2_readDigits 44 = .ok (.getfield 22, 3) := by decide +kernel
theorem dX2_readDigits_47 : decode cX2_readDigits 47 = .ok (.invokevirtual 38, 3) := by decide +kernel
theorem dX2_readDigits_50 : decode cX2_readDigits 50 = .ok (.iadd, 1) := by decide +kernel
theorem dX2_readDigits_51 : decode cX2_readDigits 51 = .ok (.bipush 48, 2) := by decide +kernel
theorem dX2_readDigits_53 : decode cX2_readDigits 53 = .ok (.isub, 1) := by decide +kernel
theorem dX2_readDigits_54 : decode cX2_readDigits 54 = .ok (.istore 4, 2) := by decide +kernel
theorem dX2_readDigits_56 : decode cX2_readDigits 56 = .ok (.aload_n 0, 1) := by decide +kernel
theorem dX2_readDigits_57 : decode cX2_readDigits 57 = .ok (.dup, 1) := by decide +kernel
theorem dX2_readDigits_58 : decode cX2_readDigits 58 = .ok (.getfield 22, 3) := by decide +kernel
theorem dX2_readDigits_61 : decode cX2_readDigits 61 = .ok (.iconst 1, 1) := by decide +kernel
theorem dX2_readDigits_62 : decode cX2_readDigits 62 = .ok (.iadd, 1) := by decide +kernel
theorem dX2_readDigits_63 : decode cX2_readDigits 63 = .ok (.putfield 22, 3) := by decide +kernel
theorem dX2_readDigits_66 : decode cX2_readDigits 66 = .ok (.iinc 5 1, 3) := by decide +kernel
theorem dX2_readDigits_69 : decode cX2_readDigits 69 = .ok (.goto (-63), 3) := by decide +kernel
theorem dX2_readDigits_72 : decode cX2_readDigits 72 = .ok (.aload_n 0, 1) := by decide +kernel
theorem dX2_readDigits_73 : decode cX2_readDigits 73 = .ok (.getfield 15, 3) := by decide +kernel
theorem dX2_readDigits_76 : decode cX2_readDigits 76 = .ok (.iload_n 3, 1) := by decide +kernel
theorem dX2_readDigits_77 : decode cX2_readDigits 77 = .ok (.iload 4, 2) := by decide +kernel
theorem dX2_readDigits_79 : decode cX2_readDigits 79 = .ok (.iastore, 1) := by decide +kernel
theorem dX2_readDigits_80 : decode cX2_readDigits 80 = .ok (.iload 5, 2) := by decide +kernel
theorem dX2_readDigits_82 : decode cX2_readDigits 82 = .ok (.ifCond .le 7, 3) := by decide +kernel
theorem dX2_readDigits_85 : decode cX2_readDigits 85 = .ok (.iconst 1, 1) := by decide +kernel
theorem dX2_readDigits_86 : decode cX2_readDigits 86 = .ok (.goto 4, 3) := by decide +kernel
theorem dX2_readDigits_89 : decode cX2_readDigits 89 = .ok (.iconst 0, 1) := by decide +kernel
theorem dX2_readDigits_90 : decode cX2_readDigits 90 = .ok (.ireturn, 1) := by decide +kernel
theorem dX2_isDigit_0 : decode cX2_isDigit 0 = .ok (.iload_n 0, 1) := by decide +kernel
theorem dX2_isDigit_1 : decode cX2_isDigit 1 = .ok (.bipush 48, 2) := by decide +kernel
theorem dX2_isDigit_3 : decode cX2_isDigit 3 = .ok (.if_icmp .lt 13, 3) := by decide +kernel
theorem dX2_isDigit_6 : decode cX2_isDigit 6 = .ok (.iload_n 0, 1) := by decide +kernel
theorem dX2_isDigit_7 : decode cX2_isDigit 7 = .ok (.bipush 57, 2) := by decide +kernel
theorem dX2_isDigit_9 : decode cX2_isDigit 9 = .ok (.if_icmp .gt 7, 3) := by decide +kernel
theorem dX2_isDigit_12 : decode cX2_isDigit 12 = .ok (.iconst 1, 1) := by decide +kernel
theorem dX2_isDigit_13 : decode cX2_isDigit 13 = .ok (.goto 4, 3) := by decide +kernel
theorem dX2_isDigit_16 : decode cX2_isDigit 16 = .ok (.iconst 0, 1) := by decide +kernel
theorem dX2_isDigit_17 : decode cX2_isDigit 17 = .ok (.ireturn, 1) := by decide +kernel
theorem dX2_readSide_0 : decode cX2_readSide 0 = .ok (.aload_n 0, 1) := by decide +kernel
theorem dX2_readSide_1 : decode cX2_readSide 1 = .ok (.aload_n 1, 1) := by decide +kernel
theorem dX2_readSide_2 : decode cX2_readSide 2 = .ok (.bipush 43, 2) := by decide +kernel
theorem dX2_readSide_4 : decode cX2_readSide 4 = .ok (.invokevirtual 35, 3) := by decide +kernel
theorem dX2_readSide_7 : decode cX2_readSide 7 = .ok (.ifCond .eq 12, 3) := by decide +kernel
theorem dX2_readSide_10 : decode cX2_readSide 10 = .ok (.aload_n 0, 1) := by decide +kernel
theorem dX2_readSide_11 : decode cX2_readSide 11 = .ok (.getfield 15, 3) := by decide +kernel
theorem dX2_readSide_14 : decode cX2_readSide 14 = .ok (.iload_n 2, 1) := by decide +kernel
theorem dX2_readSide_15 : decode cX2_readSide 15 = .ok (.iconst 1, 1) := by decide +kernel
theorem dX2_readSide_16 : decode cX2_readSide 16 = .ok (.iastore, 1) := by decide +kernel
theorem dX2_readSide_17 : decode cX2_readSide 17 = .ok (.iconst 1, 1) := by decide +kernel
theorem dX2_readSide_18 : decode cX2_readSide 18 = .ok (.ireturn, 1) := by decide +kernel
theorem dX2_readSide_19 : decode cX2_readSide 19 = .ok (.aload_n 0, 1) := by decide +kernel
theorem dX2_readSide_20 : decode cX2_readSide 20 = .ok (.getfield 15, 3) := by decide +kernel
theorem dX2_readSide_23 : decode cX2_readSide 23 = .ok (.iload_n 2, 1) := by decide +kernel
theorem dX2_readSide_24 : decode cX2_readSide 24 = .ok (.iconst 0, 1) := by decide +kernel
theorem dX2_readSide_25 : decode cX2_readSide 25 = .ok (.iastore, 1) := by decide +kernel
theorem dX2_readSide_26 : decode cX2_readSide 26 = .ok (.aload_n 0, 1) := by decide +kernel
theorem dX2_readSide_27 : decode cX2_readSide 27 = .ok (.aload_n 1, 1) := by decide +kernel
theorem dX2_readSide_28 : decode cX2_readSide 28 = .ok (.bipush 45, 2) := by decide +kernel
theorem dX2_readSide_30 : decode cX2_readSide 30 = .ok (.invokevirtual 35, 3) := by decide +kernel
theorem dX2_readSide_33 : decode cX2_readSide 33 = .ok (.ireturn, 1) := by decide +kernel
theorem dX2_readSign_0 : decode cX2_readSign 0 = .ok (.aload_n 0, 1) := by decide +kernel
theorem dX2_readSign_1 : decode cX2_readSign 1 = .ok (.getfield 22, 3) := by decide +kernel
theorem dX2_readSign_4 : decode cX2_readSign 4 = .ok (.aload_n 1, 1) := by decide +kernel
theorem dX2_readSign_5 : decode cX2_readSign 5 = .ok (.invokevirtual 29, 3) := by decide +kernel
theorem dX2_readSign_8 : decode cX2_readSign 8 = .ok (.if_icmp .ge 15, 3) := by decide +kernel
theorem dX2_readSign_11 : decode cX2_readSign 11 = .ok (.aload_n 1, 1) := by decide +kernel
theorem dX2_readSign_12 : decode cX2_readSign 12 = .ok (.aload_n 0, 1) := by decide +kernel
theorem dX2_readSign_13 : decode cX2_readSign 13 = .ok (.getfield 22, 3) := by decide +kernel
theorem dX2_readSign_16 : decode cX2_readSign 16 = .ok (.invokevirtual 38, 3) := by decide +kernel
theorem dX2_readSign_19 : decode cX2_readSign 19 = .ok (.iload_n 2, 1) := by decide +kernel
theorem dX2_readSign_20 : decode cX2_readSign 20 = .ok (.if_icmp .eq 5, 3) := by decide +kernel
theorem dX2_readSign_23 : decode cX2_readSign 23 = .ok (.iconst 0, 1) := by decide +kernel
theorem dX2_readSign_24 : decode cX2_readSign 24 = .ok (.ireturn, 1) := by decide +kernel
theorem dX2_readSign_25 : decode cX2_readSign 25 = .ok (.aload_n 0, 1) := by decide +kernel
theorem dX2_readSign_26 : decode cX2_readSign 26 = .ok (.dup, 1) := by decide +kernel
theorem dX2_readSign_27 : decode cX2_readSign 27 = .ok (.getfield 22, 3) := by decide +kernel
theorem dX2_readSign_30 : decode cX2_readSign 30 = .ok (.iconst 1, 1) := by decide +kernel
theorem dX2_readSign_31 : decode cX2_readSign 31 = .ok (.iadd, 1) := by decide +kernel
theorem dX2_readSign_32 : decode cX2_readSign 32 = .ok (.putfield 22, 3) := by decide +kernel
theorem dX2_readSign_35 : decode cX2_readSign 35 = .ok (.iconst 1, 1) := by decide +kernel
theorem dX2_readSign_36 : decode cX2_readSign 36 = .ok (.ireturn, 1) := by decide +kernel
theorem dX3_init_0 : decode cX3_init 0 = .ok (.aload_n 0, 1) := by decide +kernel
theorem dX3_init_1 : decode cX3_init 1 = .ok (.invokespecial 3, 3) := by decide +kernel
theorem dX3_init_4 : decode cX3_init 4 = .ok (.aload_n 0, 1) := by decide +kernel
theorem dX3_init_5 : decode cX3_init 5 = .ok (.bipush 9, 2) := by decide +kernel
theorem dX3_init_7 : decode cX3_init 7 = .ok (.anewarray 9, 3) := by decide +kernel
theorem dX3_init_10 : decode cX3_init 10 = .ok (.putfield 11, 3) := by decide +kernel
theorem dX3_init_13 : decode cX3_init 13 = .ok (.iconst 0, 1) := by decide +kernel
theorem dX3_init_14 : decode cX3_init 14 = .ok (.istore_n 1, 1) := by decide +kernel
theorem dX3_init_15 : decode cX3_init 15 = .ok (.iload_n 1, 1) := by decide +kernel
theorem dX3_init_16 : decode cX3_init 16 = .ok (.bipush 9, 2) := by decide +kernel
theorem dX3_init_18 : decode cX3_init 18 = .ok (.if_icmp .ge 22, 3) := by decide +kernel
theorem dX3_init_21 : decode cX3_init 21 = .ok (.aload_n 0, 1) := by decide +kernel
theorem dX3_init_22 : decode cX3_init 22 = .ok (.getfield 11, 3) := by decide +kernel
theorem dX3_init_25 : decode cX3_init 25 = .ok (.iload_n 1, 1) := by decide +kernel
theorem dX3_init_26 : decode cX3_init 26 = .ok (.new 9, 3) := by decide +kernel
theorem dX3_init_29 : decode cX3_init 29 = .ok (.dup, 1) := by decide +kernel
theorem dX3_init_30 : decode cX3_init 30 = .ok (.invokespecial 17, 3) := by decide +kernel
theorem dX3_init_33 : decode cX3_init 33 = .ok (.aastore, 1) := by decide +kernel
theorem dX3_init_34 : decode cX3_init 34 = .ok (.iinc 1 1, 3) := by decide +kernel
theorem dX3_init_37 : decode cX3_init 37 = .ok (.goto (-22), 3) := by decide +kernel
theorem dX3_init_40 : decode cX3_init 40 = .ok (.return_, 1) := by decide +kernel
theorem dX3_forget_0 : decode cX3_forget 0 = .ok (.aload_n 0, 1) := by decide +kernel
theorem dX3_forget_1 : decode cX3_forget 1 = .ok (.iconst 0, 1) := by decide +kernel
theorem dX3_forget_2 : decode cX3_forget 2 = .ok (.putfield 18, 3) := by decide +kernel
theorem dX3_forget_5 : decode cX3_forget 5 = .ok (.return_, 1) := by decide +kernel
theorem dX3_note_0 : decode cX3_note 0 = .ok (.aload_n 0, 1) := by decide +kernel
theorem dX3_note_1 : decode cX3_note 1 = .ok (.getfield 11, 3) := by decide +kernel
theorem dX3_note_4 : decode cX3_note 4 = .ok (.aload_n 0, 1) := by decide +kernel
theorem dX3_note_5 : decode cX3_note 5 = .ok (.getfield 22, 3) := by decide +kernel
theorem dX3_note_8 : decode cX3_note 8 = .ok (.aaload, 1) := by decide +kernel
theorem dX3_note_9 : decode cX3_note 9 = .ok (.aload_n 1, 1) := by decide +kernel
theorem dX3_note_10 : decode cX3_note 10 = .ok (.invokevirtual 25, 3) := by decide +kernel
theorem dX3_note_13 : decode cX3_note 13 = .ok (.return_, 1) := by decide +kernel
theorem dX3_putBack_0 : decode cX3_putBack 0 = .ok (.aload_n 1, 1) := by decide +kernel
theorem dX3_putBack_1 : decode cX3_putBack 1 = .ok (.aload_n 0, 1) := by decide +kernel
theorem dX3_putBack_2 : decode cX3_putBack 2 = .ok (.getfield 11, 3) := by decide +kernel
theorem dX3_putBack_5 : decode cX3_putBack 5 = .ok (.aload_n 0, 1) := by decide +kernel
theorem dX3_putBack_6 : decode cX3_putBack 6 = .ok (.getfield 22, 3) := by decide +kernel
theorem dX3_putBack_9 : decode cX3_putBack 9 = .ok (.aaload, 1) := by decide +kernel
theorem dX3_putBack_10 : decode cX3_putBack 10 = .ok (.invokevirtual 25, 3) := by decide +kernel
theorem dX3_putBack_13 : decode cX3_putBack 13 = .ok (.return_, 1) := by decide +kernel
theorem dX3_keep_0 : decode cX3_keep 0 = .ok (.aload_n 0, 1) := by decide +kernel
theorem dX3_keep_1 : decode cX3_keep 1 = .ok (.aload_n 0, 1) := by decide +kernel
theorem dX3_keep_2 : decode cX3_keep 2 = .ok (.getfield 22, 3) := by decide +kernel
theorem dX3_keep_5 : decode cX3_keep 5 = .ok (.iconst 1, 1) := by decide +kernel
theorem dX3_keep_6 : decode cX3_keep 6 = .ok (.iadd, 1) := by decide +kernel
theorem dX3_keep_7 : decode cX3_keep 7 = .ok (.bipush 9, 2) := by decide +kernel
theorem dX3_keep_9 : decode cX3_keep 9 = .ok (.irem, 1) := by decide +kernel
theorem dX3_keep_10 : decode cX3_keep 10 = .ok (.putfield 22, 3) := by decide +kernel
theorem dX3_keep_13 : decode cX3_keep 13 = .ok (.aload_n 0, 1) := by decide +kernel
theorem dX3_keep_14 : decode cX3_keep 14 = .ok (.bipush 8, 2) := by decide +kernel
theorem dX3_keep_16 : decode cX3_keep 16 = .ok (.aload_n 0, 1) := by decide +kernel
theorem dX3_keep_17 : decode cX3_keep 17 = .ok (.getfield 18, 3) := by decide +kernel
theorem dX3_keep_20 : decode cX3_keep 20 = .ok (.iconst 1, 1) := by decide +kernel
theorem dX3_keep_21 : decode cX3_keep 21 = .ok (.iadd, 1) := by decide +kernel
theorem dX3_keep_22 : decode cX3_keep 22 = .ok (.invokestatic 29, 3) := by decide +kernel
theorem dX3_keep_25 : decode cX3_keep 25 = .ok (.putfield 18, 3) := by decide +kernel
theorem dX3_keep_28 : decode cX3_keep 28 = .ok (.return_, 1) := by decide +kernel
theorem dX3_takeBack_0 : decode cX3_takeBack 0 = .ok (.aload_n 0, 1) := by decide +kernel
theorem dX3_takeBack_1 : decode cX3_takeBack 1 = .ok (.aload_n 0, 1) := by decide +kernel
theorem dX3_takeBack_2 : decode cX3_takeBack 2 = .ok (.getfield 22, 3) := by decide +kernel
theorem dX3_takeBack_5 : decode cX3_takeBack 5 = .ok (.bipush 9, 2) := by decide +kernel
theorem dX3_takeBack_7 : decode cX3_takeBack 7 = .ok (.iadd, 1) := by decide +kernel
theorem dX3_takeBack_8 : decode cX3_takeBack 8 = .ok (.iconst 1, 1) := by decide +kernel
theorem dX3_takeBack_9 : decode cX3_takeBack 9 = .ok (.isub, 1) := by decide +kernel
theorem dX3_takeBack_10 : decode cX3_takeBack 10 = .ok (.bipush 9, 2) := by decide +kernel
theorem dX3_takeBack_12 : decode cX3_takeBack 12 = .ok (.irem, 1) := by decide +kernel
theorem dX3_takeBack_13 : decode cX3_takeBack 13 = .ok (.putfield 22, 3) := by decide +kernel
theorem dX3_takeBack_16 : decode cX3_takeBack 16 = .ok (.aload_n 0, 1) := by decide +kernel
theorem dX3_takeBack_17 : decode cX3_takeBack 17 = .ok (.dup, 1) := by decide +kernel
theorem dX3_takeBack_18 : decode cX3_takeBack 18 = .ok (.getfield 18, 3) := by decide +kernel
theorem dX3_takeBack_21 : decode cX3_takeBack 21 = .ok (.iconst 1, 1) := by decide +kernel
theorem dX3_takeBack_22 : decode cX3_takeBack 22 = .ok (.isub, 1) := by decide +kernel
theorem dX3_takeBack_23 : decode cX3_takeBack 23 = .ok (.putfield 18, 3) := by decide +kernel
theorem dX3_takeBack_26 : decode cX3_takeBack 26 = .ok (.aload_n 1, 1) := by decide +kernel
theorem dX3_takeBack_27 : decode cX3_takeBack 27 = .ok (.aload_n 0, 1) := by decide +kernel
theorem dX3_takeBack_28 : decode cX3_takeBack 28 = .ok (.getfield 11, 3) := by decide +kernel
theorem dX3_takeBack_31 : decode cX3_takeBack 31 = .ok (.aload_n 0, 1) := by decide +kernel
theorem dX3_takeBack_32 : decode cX3_takeBack 32 = .ok (.getfield 22, 3) := by decide +kernel
theorem dX3_takeBack_35 : decode cX3_takeBack 35 = .ok (.aaload, 1) := by decide +kernel
theorem dX3_takeBack_36 : decode cX3_takeBack 36 = .ok (.invokevirtual 25, 3) := by decide +kernel
theorem dX3_takeBack_39 : decode cX3_takeBack 39 = .ok (.return_, 1) := by decide +kernel
theorem dX4_init_0 : decode cX4_init 0 = .ok (.aload_n 0, 1) := by decide +kernel
theorem dX4_init_1 : decode cX4_init 1 = .ok (.invokespecial 3, 3) := by decide +kernel
theorem dX4_init_4 : decode cX4_init 4 = .ok (.aload_n 0, 1) := by decide +kernel
theorem dX4_init_5 : decode cX4_init 5 = .ok (.iconst 3, 1) := by decide +kernel
theorem dX4_init_6 : decode cX4_init 6 = .ok (.newarray .int, 2) := by decide +kernel
theorem dX4_init_8 : decode cX4_init 8 = .ok (.putfield 9, 3) := by decide +kernel
theorem dX4_init_11 : decode cX4_init 11 = .ok (.aload_n 0, 1) := by decide +kernel
theorem dX4_init_12 : decode cX4_init 12 = .ok (.iconst 3, 1) := by decide +kernel
theorem dX4_init_13 : decode cX4_init 13 = .ok (.newarray .int, 2) := by decide +kernel
theorem dX4_init_15 : decode cX4_init 15 = .ok (.putfield 15, 3) := by decide +kernel
theorem dX4_init_18 : decode cX4_init 18 = .ok (.return_, 1) := by decide +kernel
theorem dX4_empty_0 : decode cX4_empty 0 = .ok (.aload_n 0, 1) := by decide +kernel
theorem dX4_empty_1 : decode cX4_empty 1 = .ok (.iconst 0, 1) := by decide +kernel
theorem dX4_empty_2 : decode cX4_empty 2 = .ok (.putfield 18, 3) := by decide +kernel
theorem dX4_empty_5 : decode cX4_empty 5 = .ok (.return_, 1) := by decide +kernel
theorem dX4_put_0 : decode cX4_put 0 = .ok (.aload_n 0, 1) := by decide +kernel
theorem dX4_put_1 : decode cX4_put 1 = .ok (.getfield 18, 3) := by decide +kernel
theorem dX4_put_4 : decode cX4_put 4 = .ok (.iconst 3, 1) := by decide +kernel
theorem dX4_put_5 : decode cX4_put 5 = .ok (.if_icmp .ge 33, 3) := by decide +kernel
theorem dX4_put_8 : decode cX4_put 8 = .ok (.aload_n 0, 1) := by decide +kernel
theorem dX4_put_9 : decode cX4_put 9 = .ok (.getfield 9, 3) := by decide +kernel
theorem dX4_put_12 : decode cX4_put 12 = .ok (.aload_n 0, 1) := by decide +kernel
theorem dX4_put_13 : decode cX4_put 13 = .ok (.getfield 18, 3) := by decide +kernel
theorem dX4_put_16 : decode cX4_put 16 = .ok (.iload_n 1, 1) := by decide +kernel
theorem dX4_put_17 : decode cX4_put 17 = .ok (.iastore, 1) := by decide +kernel
theorem dX4_put_18 : decode cX4_put 18 = .ok (.aload_n 0, 1) := by decide +kernel
theorem dX4_put_19 : decode cX4_put 19 = .ok (.getfield 15, 3) := by decide +kernel
theorem dX4_put_22 : decode cX4_put 22 = .ok (.aload_n 0, 1) := by decide +kernel
theorem dX4_put_23 : decode cX4_put 23 = .ok (.getfield 18, 3) := by decide +kernel
theorem dX4_put_26 : decode cX4_put 26 = .ok (.iload_n 2, 1) := by decide +kernel
theorem dX4_put_27 : decode cX4_put 27 = .ok (.iastore, 1) := by decide +kernel
theorem dX4_put_28 : decode cX4_put 28 = .ok (.aload_n 0, 1) := by decide +kernel
theorem dX4_put_29 : decode cX4_put 29 = .ok (.dup, 1) := by decide +kernel
theorem dX4_put_30 : decode cX4_put 30 = .ok (.getfield 18, 3) := by decide +kernel
theorem dX4_put_33 : decode cX4_put 33 = .ok (.iconst 1, 1) := by decide +kernel
theorem dX4_put_34 : decode cX4_put 34 = .ok (.iadd, 1) := by decide +kernel
theorem dX4_put_35 : decode cX4_put 35 = .ok (.putfield 18, 3) := by decide +kernel
theorem dX4_put_38 : decode cX4_put 38 = .ok (.return_, 1) := by decide +kernel
theorem dX4_tell_0 : decode cX4_tell 0 = .ok (.iload_n 1, 1) := by decide +kernel
theorem dX4_tell_1 : decode cX4_tell 1 = .ok (.aload_n 0, 1) := by decide +kernel
theorem dX4_tell_2 : decode cX4_tell 2 = .ok (.getfield 18, 3) := by decide +kernel
theorem dX4_tell_5 : decode cX4_tell 5 = .ok (.if_icmp .lt 6, 3) := by decide +kernel
theorem dX4_tell_8 : decode cX4_tell 8 = .ok (.bipush (-4), 2) := by decide +kernel
theorem dX4_tell_10 : decode cX4_tell 10 = .ok (.ireturn, 1) := by decide +kernel
theorem dX4_tell_11 : decode cX4_tell 11 = .ok (.aload_n 0, 1) := by decide +kernel
theorem dX4_tell_12 : decode cX4_tell 12 = .ok (.getfield 18, 3) := by decide +kernel
theorem dX4_tell_15 : decode cX4_tell 15 = .ok (.iconst 1, 1) := by decide +kernel
theorem dX4_tell_16 : decode cX4_tell 16 = .ok (.isub, 1) := by decide +kernel
theorem dX4_tell_17 : decode cX4_tell 17 = .ok (.iload_n 1, 1) := by decide +kernel
theorem dX4_tell_18 : decode cX4_tell 18 = .ok (.isub, 1) := by decide +kernel
theorem dX4_tell_19 : decode cX4_tell 19 = .ok (.istore_n 3, 1) := by decide +kernel
theorem dX4_tell_20 : decode cX4_tell 20 = .ok (.iload_n 2, 1) := by decide +kernel
theorem dX4_tell_21 : decode cX4_tell 21 = .ok (.ifCond .eq 12, 3) := by decide +kernel
theorem dX4_tell_24 : decode cX4_tell 24 = .ok (.aload_n 0, 1) := by decide +kernel
theorem dX4_tell_25 : decode cX4_tell 25 = .ok (.getfield 15, 3) := by decide +kernel
theorem dX4_tell_28 : decode cX4_tell 28 = .ok (.iload_n 3, 1) := by decide +kernel
theorem dX4_tell_29 : decode cX4_tell 29 = .ok (.iaload, 1) := by decide +kernel
theorem dX4_tell_30 : decode cX4_tell 30 = .ok (.goto 9, 3) := by decide +kernel
theorem dX4_tell_33 : decode cX4_tell 33 = .ok (.aload_n 0, 1) := by decide +kernel
theorem dX4_tell_34 : decode cX4_tell 34 = .ok (.getfield 9, 3) := by decide +kernel
theorem dX4_tell_37 : decode cX4_tell 37 = .ok (.iload_n 3, 1) := by decide +kernel
theorem dX4_tell_38 : decode cX4_tell 38 = .ok (.iaload, 1) := by decide +kernel
theorem dX4_tell_39 : decode cX4_tell 39 = .ok (.ireturn, 1) := by decide +kernel
theorem dX5_init_0 : decode cX5_init 0 = .ok (.aload_n 0, 1) := by decide +kernel
theorem dX5_init_1 : decode cX5_init 1 = .ok (.invokespecial 3, 3) := by decide +kernel
theorem dX5_init_4 : decode cX5_init 4 = .ok (.aload_n 0, 1) := by decide +kernel
theorem dX5_init_5 : decode cX5_init 5 = .ok (.iconst 2, 1) := by decide +kernel
theorem dX5_init_6 : decode cX5_init 6 = .ok (.newarray .int, 2) := by decide +kernel
theorem dX5_init_8 : decode cX5_init 8 = .ok (.putfield 9, 3) := by decide +kernel
theorem dX5_init_11 : decode cX5_init 11 = .ok (.return_, 1) := by decide +kernel
theorem dX5_lay_0 : decode cX5_lay 0 = .ok (.aload_n 0, 1) := by decide +kernel
theorem dX5_lay_1 : decode cX5_lay 1 = .ok (.iload_n 1, 1) := by decide +kernel
theorem dX5_lay_2 : decode cX5_lay 2 = .ok (.putfield 15, 3) := by decide +kernel
theorem dX5_lay_5 : decode cX5_lay 5 = .ok (.aload_n 0, 1) := by decide +kernel
theorem dX5_lay_6 : decode cX5_lay 6 = .ok (.iload_n 2, 1) := by decide +kernel
theorem dX5_lay_7 : decode cX5_lay 7 = .ok (.putfield 19, 3) := by decide +kernel
theorem dX5_lay_10 : decode cX5_lay 10 = .ok (.aload_n 0, 1) := by decide +kernel
theorem dX5_lay_11 : decode cX5_lay 11 = .ok (.iconst 0, 1) := by decide +kernel
theorem dX5_lay_12 : decode cX5_lay 12 = .ok (.putfield 22, 3) := by decide +kernel
theorem dX5_lay_15 : decode cX5_lay 15 = .ok (.aload_n 0, 1) := by decide +kernel
theorem dX5_lay_16 : decode cX5_lay 16 = .ok (.iconst 0, 1) := by decide +kernel
theorem dX5_lay_17 : decode cX5_lay 17 = .ok (.putfield 25, 3) := by decide +kernel
theorem dX5_lay_20 : decode cX5_lay 20 = .ok (.aload_n 0, 1) := by decide +kernel
theorem dX5_lay_21 : decode cX5_lay 21 = .ok (.iconst 0, 1) := by decide +kernel
theorem dX5_lay_22 : decode cX5_lay 22 = .ok (.putfield 28, 3) := by decide +kernel
theorem dX5_lay_25 : decode cX5_lay 25 = .ok (.aload_n 0, 1) := by decide +kernel
theorem dX5_lay_26 : decode cX5_lay 26 = .ok (.iconst 0, 1) := by decide +kernel
theorem dX5_lay_27 : decode cX5_lay 27 = .ok (.putfield 31, 3) := by decide +kernel
theorem dX5_lay_30 : decode cX5_lay 30 = .ok (.aload_n 0, 1) := by decide +kernel
theorem dX5_lay_31 : decode cX5_lay 31 = .ok (.iconst 0, 1) := by decide +kernel
theorem dX5_lay_32 : decode cX5_lay 32 = .ok (.putfield 34, 3) := by decide +kernel
theorem dX5_lay_35 : decode cX5_lay 35 = .ok (.aload_n 0, 1) := by decide +kernel
theorem dX5_lay_36 : decode cX5_lay 36 = .ok (.iconst 0, 1) := by decide +kernel
theorem dX5_lay_37 : decode cX5_lay 37 = .ok (.putfield 37, 3) := by decide +kernel
theorem dX5_lay_40 : decode cX5_lay 40 = .ok (.aload_n 0, 1) := by decide +kernel
theorem dX5_lay_41 : decode cX5_lay 41 = .ok (.getfield 9, 3) := by decide +kernel
theorem dX5_lay_44 : decode cX5_lay 44 = .ok (.iconst 0, 1) := by decide +kernel
theorem dX5_lay_45 : decode cX5_lay 45 = .ok (.iconst 0, 1) := by decide +kernel
theorem dX5_lay_46 : decode cX5_lay 46 = .ok (.iastore, 1) := by decide +kernel
theorem dX5_lay_47 : decode cX5_lay 47 = .ok (.aload_n 0, 1) := by decide +kernel
theorem dX5_lay_48 : decode cX5_lay 48 = .ok (.getfield 9, 3) := by decide +kernel
theorem dX5_lay_51 : decode cX5_lay 51 = .ok (.iconst 1, 1) := by decide +kernel
theorem dX5_lay_52 : decode cX5_lay 52 = .ok (.iconst 0, 1) := by decide +kernel
theorem dX5_lay_53 : decode cX5_lay 53 = .ok (.iastore, 1) := by decide +kernel
theorem dX5_lay_54 : decode cX5_lay 54 = .ok (.return_, 1) := by decide +kernel
theorem dX5_become_0 : decode cX5_become 0 = .ok (.aload_n 0, 1) := by decide +kernel
theorem dX5_become_1 : decode cX5_become 1 = .ok (.aload_n 1, 1) := by decide +kernel
theorem dX5_become_2 : decode cX5_become 2 = .ok (.getfield 15, 3) := by decide +kernel
theorem dX5_become_5 : decode cX5_become 5 = .ok (.putfield 15, 3) := by decide +kernel
theorem dX5_become_8 : decode cX5_become 8 = .ok (.aload_n 0, 1) := by decide +kernel
theorem dX5_become_9 : decode cX5_become 9 = .ok (.aload_n 1, 1) := by decide +kernel
theorem dX5_become_10 : decode cX5_become 10 = .ok (.getfield 19, 3) := by decide +kernel
theorem dX5_become_13 : decode cX5_become 13 = .ok (.putfield 19, 3) := by decide +kernel
theorem dX5_become_16 : decode cX5_become 16 = .ok (.aload_n 0, 1) := by decide +kernel
theorem dX5_become_17 : decode cX5_become 17 = .ok (.aload_n 1, 1) := by decide +kernel
theorem dX5_become_18 : decode cX5_become 18 = .ok (.getfield 22, 3) := by decide +kernel
theorem dX5_become_21 : decode cX5_become 21 = .ok (.putfield 22, 3) := by decide +kernel
theorem dX5_become_24 : decode cX5_become 24 = .ok (.aload_n 0, 1) := by decide +kernel
theorem dX5_become_25 : decode cX5_become 25 = .ok (.aload_n 1, 1) := by decide +kernel
theorem dX5_become_26 : decode cX5_become 26 = .ok (.getfield 25, 3) := by decide +kernel
theorem dX5_become_29 : decode cX5_become 29 = .ok (.putfield 25, 3) := by decide +kernel
theorem dX5_become_32 : decode cX5_become 32 = .ok (.aload_n 0, 1) := by decide +kernel
theorem dX5_become_33 : decode cX5_become 33 = .ok (.aload_n 1, 1) := by decide +kernel
theorem dX5_become_34 : decode cX5_become 34 = .ok (.getfield 28, 3) := by decide +kernel
theorem dX5_become_37 : decode cX5_become 37 = .ok (.putfield 28, 3) := by decide +kernel
theorem dX5_become_40 : decode cX5_become 40 = .ok (.aload_n 0, 1) := by decide +kernel
theorem dX5_become_41 : decode cX5_become 41 = .ok (.aload_n 1, 1) := by decide +kernel
theorem dX5_become_42 : decode cX5_become 42 = .ok (.getfield 31, 3) := by decide +kernel
theorem dX5_become_45 : decode cX5_become 45 = .ok (.putfield 31, 3) := by decide +kernel
theorem dX5_become_48 : decode cX5_become 48 = .ok (.aload_n 0, 1) := by decide +kernel
theorem dX5_become_49 : decode cX5_become 49 = .ok (.aload_n 1, 1) := by decide +kernel
theorem dX5_become_50 : decode cX5_become 50 = .ok (.getfield 34, 3) := by decide +kernel
theorem dX5_become_53 : decode cX5_become 53 = .ok (.putfield 34, 3) := by decide +kernel
theorem dX5_become_56 : decode cX5_become 56 = .ok (.aload_n 0, 1) := by decide +kernel
theorem dX5_become_57 : decode cX5_become 57 = .ok (.aload_n 1, 1) := by decide +kernel
theorem dX5_become_58 : decode cX5_become 58 = .ok (.getfield 37, 3) := by decide +kernel
theorem dX5_become_61 : decode cX5_become 61 = .ok (.putfield 37, 3) := by decide +kernel
theorem dX5_become_64 : decode cX5_become 64 = .ok (.aload_n 0, 1) := by decide +kernel
theorem dX5_become_65 : decode cX5_become 65 = .ok (.getfield 9, 3) := by decide +kernel
theorem dX5_become_68 : decode cX5_become 68 = .ok (.iconst 0, 1) := by decide +kernel
theorem dX5_become_69 : decode cX5_become 69 = .ok (.aload_n 1, 1) := by decide +kernel
theorem dX5_become_70 : decode cX5_become 70 = .ok (.getfield 9, 3) := by decide +kernel
theorem dX5_become_73 : decode cX5_become 73 = .ok (.iconst 0, 1) := by decide +kernel
theorem dX5_become_74 : decode cX5_become 74 = .ok (.iaload, 1) := by decide +kernel
theorem dX5_become_75 : decode cX5_become 75 = .ok (.iastore, 1) := by decide +kernel
theorem dX5_become_76 : decode cX5_become 76 = .ok (.aload_n 0, 1) := by decide +kernel
theorem dX5_become_77 : decode cX5_become 77 = .ok (.getfield 9, 3) := by decide +kernel
theorem dX5_become_80 : decode cX5_become 80 = .ok (.iconst 1, 1) := by decide +kernel
theorem dX5_become_81 : decode cX5_become 81 = .ok (.aload_n 1, 1) := by decide +kernel
theorem dX5_become_82 : decode cX5_become 82 = .ok (.getfield 9, 3) := by decide +kernel
theorem dX5_become_85 : decode cX5_become 85 = .ok (.iconst 1, 1) := by decide +kernel
theorem dX5_become_86 : decode cX5_become 86 = .ok (.iaload, 1) := by decide +kernel
theorem dX5_become_87 : decode cX5_become 87 = .ok (.iastore, 1) := by decide +kernel
theorem dX5_become_88 : decode cX5_become 88 = .ok (.return_, 1) := by decide +kernel
theorem dX5_holds_0 : decode cX5_holds 0 = .ok (.iload_n 1, 1) := by decide +kernel
theorem dX5_holds_1 : decode cX5_holds 1 = .ok (.aload_n 0, 1) := by decide +kernel
theorem dX5_holds_2 : decode cX5_holds 2 = .ok (.getfield 15, 3) := by decide +kernel
theorem dX5_holds_5 : decode cX5_holds 5 = .ok (.if_icmp .lt 15, 3) := by decide +kernel
theorem dX5_holds_8 : decode cX5_holds 8 = .ok (.iload_n 1, 1) := by decide +kernel
theorem dX5_holds_9 : decode cX5_holds 9 = .ok (.aload_n 0, 1) := by decide +kernel
theorem dX5_holds_10 : decode cX5_holds 10 = .ok (.getfield 19, 3) := by decide +kernel
theorem dX5_holds_13 : decode cX5_holds 13 = .ok (.if_icmp .gt 7, 3) := by decide +kernel
theorem dX5_holds_16 : decode cX5_holds 16 = .ok (.iconst 1, 1) := by decide +kernel
theorem dX5_holds_17 : decode cX5_holds 17 = .ok (.goto 4, 3) := by decide +kernel
theorem dX5_holds_20 : decode cX5_holds 20 = .ok (.iconst 0, 1) := by decide +kernel
theorem dX5_holds_21 : decode cX5_holds 21 = .ok (.ireturn, 1) := by decide +kernel
theorem dX5_isPlayed_0 : decode cX5_isPlayed 0 = .ok (.aload_n 0, 1) := by decide +kernel
theorem dX5_isPlayed_1 : decode cX5_isPlayed 1 = .ok (.getfield 28, 3) := by decide +kernel
theorem dX5_isPlayed_4 : decode cX5_isPlayed 4 = .ok (.ifCond .eq 7, 3) := by decide +kernel
theorem dX5_isPlayed_7 : decode cX5_isPlayed 7 = .ok (.iconst 1, 1) := by decide +kernel
theorem dX5_isPlayed_8 : decode cX5_isPlayed 8 = .ok (.goto 4, 3) := by decide +kernel
theorem dX5_isPlayed_11 : decode cX5_isPlayed 11 = .ok (.iconst 0, 1) := by decide +kernel
theorem dX5_isPlayed_12 : decode cX5_isPlayed 12 = .ok (.ireturn, 1) := by decide +kernel
theorem dX5_startEnd_0 : decode cX5_startEnd 0 = .ok (.aload_n 0, 1) := by decide +kernel
theorem dX5_startEnd_1 : decode cX5_startEnd 1 = .ok (.iload_n 1, 1) := by decide +kernel
theorem dX5_startEnd_2 : decode cX5_startEnd 2 = .ok (.putfield 28, 3) := by decide +kernel
theorem dX5_startEnd_5 : decode cX5_startEnd 5 = .ok (.aload_n 0, 1) := by decide +kernel
theorem dX5_startEnd_6 : decode cX5_startEnd 6 = .ok (.aload_n 0, 1) := by decide +kernel
theorem dX5_startEnd_7 : decode cX5_startEnd 7 = .ok (.getfield 31, 3) := by decide +kernel
theorem dX5_startEnd_10 : decode cX5_startEnd 10 = .ok (.putfield 34, 3) := by decide +kernel
theorem dX5_startEnd_13 : decode cX5_startEnd 13 = .ok (.aload_n 0, 1) := by decide +kernel
theorem dX5_startEnd_14 : decode cX5_startEnd 14 = .ok (.getfield 9, 3) := by decide +kernel
theorem dX5_startEnd_17 : decode cX5_startEnd 17 = .ok (.iconst 0, 1) := by decide +kernel
theorem dX5_startEnd_18 : decode cX5_startEnd 18 = .ok (.iconst 0, 1) := by decide +kernel
theorem dX5_startEnd_19 : decode cX5_startEnd 19 = .ok (.iastore, 1) := by decide +kernel
theorem dX5_startEnd_20 : decode cX5_startEnd 20 = .ok (.aload_n 0, 1) := by decide +kernel
theorem dX5_startEnd_21 : decode cX5_startEnd 21 = .ok (.getfield 9, 3) := by decide +kernel
theorem dX5_startEnd_24 : decode cX5_startEnd 24 = .ok (.iconst 1, 1) := by decide +kernel
theorem dX5_startEnd_25 : decode cX5_startEnd 25 = .ok (.iconst 0, 1) := by decide +kernel
theorem dX5_startEnd_26 : decode cX5_startEnd 26 = .ok (.iastore, 1) := by decide +kernel
theorem dX5_startEnd_27 : decode cX5_startEnd 27 = .ok (.return_, 1) := by decide +kernel
theorem dX5_finishEnd_0 : decode cX5_finishEnd 0 = .ok (.aload_n 0, 1) := by decide +kernel
theorem dX5_finishEnd_1 : decode cX5_finishEnd 1 = .ok (.iconst 0, 1) := by decide +kernel
theorem dX5_finishEnd_2 : decode cX5_finishEnd 2 = .ok (.putfield 28, 3) := by decide +kernel
theorem dX5_finishEnd_5 : decode cX5_finishEnd 5 = .ok (.aload_n 0, 1) := by decide +kernel
theorem dX5_finishEnd_6 : decode cX5_finishEnd 6 = .ok (.aload_n 0, 1) := by decide +kernel
theorem dX5_finishEnd_7 : decode cX5_finishEnd 7 = .ok (.getfield 31, 3) := by decide +kernel
theorem dX5_finishEnd_10 : decode cX5_finishEnd 10 = .ok (.putfield 34, 3) := by decide +kernel
theorem dX5_finishEnd_13 : decode cX5_finishEnd 13 = .ok (.aload_n 0, 1) := by decide +kernel
theorem dX5_finishEnd_14 : decode cX5_finishEnd 14 = .ok (.dup, 1) := by decide +kernel
theorem dX5_finishEnd_15 : decode cX5_finishEnd 15 = .ok (.getfield 37, 3) := by decide +kernel
theorem dX5_finishEnd_18 : decode cX5_finishEnd 18 = .ok (.iconst 1, 1) := by decide +kernel
theorem dX5_finishEnd_19 : decode cX5_finishEnd 19 = .ok (.iadd, 1) := by decide +kernel
theorem dX5_finishEnd_20 : decode cX5_finishEnd 20 = .ok (.putfield 37, 3) := by decide +kernel
theorem dX5_finishEnd_23 : decode cX5_finishEnd 23 = .ok (.return_, 1) := by decide +kernel
theorem dX5_distance_0 : decode cX5_distance 0 = .ok (.iload_n 1, 1) := by decide +kernel
theorem dX5_distance_1 : decode cX5_distance 1 = .ok (.aload_n 0, 1) := by decide +kernel
theorem dX5_distance_2 : decode cX5_distance 2 = .ok (.getfield 15, 3) := by decide +kernel
theorem dX5_distance_5 : decode cX5_distance 5 = .ok (.aload_n 0, 1) := by decide +kernel
theorem dX5_distance_6 : decode cX5_distance 6 = .ok (.getfield 19, 3) := by decide +kernel
theorem dX5_distance_9 : decode cX5_distance 9 = .ok (.iadd, 1) := by decide +kernel
theorem dX5_distance_10 : decode cX5_distance 10 = .ok (.iconst 2, 1) := by decide +kernel
theorem dX5_distance_11 : decode cX5_distance 11 = .ok (.idiv, 1) := by decide +kernel
theorem dX5_distance_12 : decode cX5_distance 12 = .ok (.isub, 1) := by decide +kernel
theorem dX5_distance_13 : decode cX5_distance 13 = .ok (.istore_n 3, 1) := by decide +kernel
theorem dX5_distance_14 : decode cX5_distance 14 = .ok (.iload_n 2, 1) := by decide +kernel
theorem dX5_distance_15 : decode cX5_distance 15 = .ok (.aload_n 0, 1) := by decide +kernel
theorem dX5_distance_16 : decode cX5_distance 16 = .ok (.getfield 28, 3) := by decide +kernel
theorem dX5_distance_19 : decode cX5_distance 19 = .ok (.isub, 1) := by decide +kernel
theorem dX5_distance_20 : decode cX5_distance 20 = .ok (.istore 4, 2) := by decide +kernel
theorem dX5_distance_22 : decode cX5_distance 22 = .ok (.iload_n 3, 1) := by decide +kernel
theorem dX5_distance_23 : decode cX5_distance 23 = .ok (.iload_n 3, 1) := by decide +kernel
theorem dX5_distance_24 : decode cX5_distance 24 = .ok (.imul, 1) := by decide +kernel
theorem dX5_distance_25 : decode cX5_distance 25 = .ok (.iload 4, 2) := by decide +kernel
theorem dX5_distance_27 : decode cX5_distance 27 = .ok (.iload 4, 2) := by decide +kernel
theorem dX5_distance_29 : decode cX5_distance 29 = .ok (.imul, 1) := by decide +kernel
theorem dX5_distance_30 : decode cX5_distance 30 = .ok (.iadd, 1) := by decide +kernel
theorem dX5_distance_31 : decode cX5_distance 31 = .ok (.ireturn, 1) := by decide +kernel
theorem dX5_castsAfter_0 : decode cX5_castsAfter 0 = .ok (.iload_n 2, 1) := by decide +kernel
theorem dX5_castsAfter_1 : decode cX5_castsAfter 1 = .ok (.iconst 5, 1) := by decide +kernel
theorem dX5_castsAfter_2 : decode cX5_castsAfter 2 = .ok (.if_icmp .lt 19, 3) := by decide +kernel
theorem dX5_castsAfter_5 : decode cX5_castsAfter 5 = .ok (.aload_n 0, 1) := by decide +kernel
theorem dX5_castsAfter_6 : decode cX5_castsAfter 6 = .ok (.invokevirtual 40, 3) := by decide +kernel
theorem dX5_castsAfter_9 : decode cX5_castsAfter 9 = .ok (.ifCond .ne 12, 3) := by decide +kernel
theorem dX5_castsAfter_12 : decode cX5_castsAfter 12 = .ok (.bipush 9, 2) := by decide +kernel
theorem dX5_castsAfter_14 : decode cX5_castsAfter 14 = .ok (.iload_n 1, 1) := by decide +kernel
theorem dX5_castsAfter_15 : decode cX5_castsAfter 15 = .ok (.iconst 1, 1) := by decide +kernel
theorem dX5_castsAfter_16 : decode cX5_castsAfter 16 = .ok (.iadd, 1) := by decide +kernel
theorem dX5_castsAfter_17 : decode cX5_castsAfter 17 = .ok (.invokestatic 44, 3) := by decide +kernel
theorem dX5_castsAfter_20 : decode cX5_castsAfter 20 = .ok (.ireturn, 1) := by decide +kernel
theorem dX5_castsAfter_21 : decode cX5_castsAfter 21 = .ok (.iload_n 1, 1) := by decide +kernel
theorem dX5_castsAfter_22 : decode cX5_castsAfter 22 = .ok (.ireturn, 1) := by decide +kernel
theorem dX6_init_0 : decode cX6_init 0 = .ok (.aload_n 0, 1) := by decide +kernel
theorem dX6_init_1 : decode cX6_init 1 = .ok (.invokespecial 3, 3) := by decide +kernel
theorem dX6_init_4 : decode cX6_init 4 = .ok (.return_, 1) := by decide +kernel
theorem dX6_make_0 : decode cX6_make 0 = .ok (.aload_n 0, 1) := by decide +kernel
theorem dX6_make_1 : decode cX6_make 1 = .ok (.iload_n 1, 1) := by decide +kernel
theorem dX6_make_2 : decode cX6_make 2 = .ok (.putfield 9, 3) := by decide +kernel
theorem dX6_make_5 : decode cX6_make 5 = .ok (.aload_n 0, 1) := by decide +kernel
theorem dX6_make_6 : decode cX6_make 6 = .ok (.iload_n 2, 1) := by decide +kernel
theorem dX6_make_7 : decode cX6_make 7 = .ok (.putfield 15, 3) := by decide +kernel
theorem dX6_make_10 : decode cX6_make 10 = .ok (.aload_n 0, 1) := by decide +kernel
theorem dX6_make_11 : decode cX6_make 11 = .ok (.iconst 0, 1) := by decide +kernel
theorem dX6_make_12 : decode cX6_make 12 = .ok (.putfield 18, 3) := by decide +kernel
theorem dX6_make_15 : decode cX6_make 15 = .ok (.aload_n 0, 1) := by decide +kernel
theorem dX6_make_16 : decode cX6_make 16 = .ok (.iconst 0, 1) := by decide +kernel
theorem dX6_make_17 : decode cX6_make 17 = .ok (.putfield 21, 3) := by decide +kernel
theorem dX6_make_20 : decode cX6_make 20 = .ok (.aload_n 0, 1) := by decide +kernel
theorem dX6_make_21 : decode cX6_make 21 = .ok (.iconst 0, 1) := by decide +kernel
theorem dX6_make_22 : decode cX6_make 22 = .ok (.putfield 24, 3) := by decide +kernel
theorem dX6_make_25 : decode cX6_make 25 = .ok (.aload_n 0, 1) := by decide +kernel
theorem dX6_make_26 : decode cX6_make 26 = .ok (.iconst 0, 1) := by decide +kernel
theorem dX6_make_27 : decode cX6_make 27 = .ok (.putfield 27, 3) := by decide +kernel
theorem dX6_make_30 : decode cX6_make 30 = .ok (.aload_n 0, 1) := by decide +kernel
theorem dX6_make_31 : decode cX6_make 31 = .ok (.iconst 0, 1) := by decide +kernel
theorem dX6_make_32 : decode cX6_make 32 = .ok (.putfield 30, 3) := by decide +kernel
theorem dX6_make_35 : decode cX6_make 35 = .ok (.aload_n 0, 1) := by decide +kernel
theorem dX6_make_36 : decode cX6_make 36 = .ok (.iconst 0, 1) := by decide +kernel
theorem dX6_make_37 : decode cX6_make 37 = .ok (.putfield 33, 3) := by decide +kernel
theorem dX6_make_40 : decode cX6_make 40 = .ok (.return_, 1) := by decide +kernel
theorem dX6_become_0 : decode cX6_become 0 = .ok (.aload_n 0, 1) := by decide +kernel
theorem dX6_become_1 : decode cX6_become 1 = .ok (.aload_n 1, 1) := by decide +kernel
theorem dX6_become_2 : decode cX6_become 2 = .ok (.getfield 9, 3) := by decide +kernel
theorem dX6_become_5 : decode cX6_become 5 = .ok (.putfield 9, 3) := by decide +kernel
theorem dX6_become_8 : decode cX6_become 8 = .ok (.aload_n 0, 1) := by decide +kernel
theorem dX6_become_9 : decode cX6_become 9 = .ok (.aload_n 1, 1) := by decide +kernel
theorem dX6_become_10 : decode cX6_become 10 = .ok (.getfield 15, 3) := by decide +kernel
theorem dX6_become_13 : decode cX6_become 13 = .ok (.putfield 15, 3) := by decide +kernel
theorem dX6_become_16 : decode cX6_become 16 = .ok (.aload_n 0, 1) := by decide +kernel
theorem dX6_become_17 : decode cX6_become 17 = .ok (.aload_n 1, 1) := by decide +kernel
theorem dX6_become_18 : decode cX6_become 18 = .ok (.getfield 18, 3) := by decide +kernel
theorem dX6_become_21 : decode cX6_become 21 = .ok (.putfield 18, 3) := by decide +kernel
theorem dX6_become_24 : decode cX6_become 24 = .ok (.aload_n 0, 1) := by decide +kernel
theorem dX6_become_25 : decode cX6_become 25 = .ok (.aload_n 1, 1) := by decide +kernel
theorem dX6_become_26 : decode cX6_become 26 = .ok (.getfield 21, 3) := by decide +kernel
theorem dX6_become_29 : decode cX6_become 29 = .ok (.putfield 21, 3) := by decide +kernel
theorem dX6_become_32 : decode cX6_become 32 = .ok (.aload_n 0, 1) := by decide +kernel
theorem dX6_become_33 : decode cX6_become 33 = .ok (.aload_n 1, 1) := by decide +kernel
theorem dX6_become_34 : decode cX6_become 34 = .ok (.getfield 24, 3) := by decide +kernel
theorem dX6_become_37 : decode cX6_become 37 = .ok (.putfield 24, 3) := by decide +kernel
theorem dX6_become_40 : decode cX6_become 40 = .ok (.aload_n 0, 1) := by decide +kernel
theorem dX6_become_41 : decode cX6_become 41 = .ok (.aload_n 1, 1) := by decide +kernel
theorem dX6_become_42 : decode cX6_become 42 = .ok (.getfield 27, 3) := by decide +kernel
theorem dX6_become_45 : decode cX6_become 45 = .ok (.putfield 27, 3) := by decide +kernel
theorem dX6_become_48 : decode cX6_become 48 = .ok (.aload_n 0, 1) := by decide +kernel
theorem dX6_become_49 : decode cX6_become 49 = .ok (.aload_n 1, 1) := by decide +kernel
theorem dX6_become_50 : decode cX6_become 50 = .ok (.getfield 30, 3) := by decide +kernel
theorem dX6_become_53 : decode cX6_become 53 = .ok (.putfield 30, 3) := by decide +kernel
theorem dX6_become_56 : decode cX6_become 56 = .ok (.aload_n 0, 1) := by decide +kernel
theorem dX6_become_57 : decode cX6_become 57 = .ok (.aload_n 1, 1) := by decide +kernel
theorem dX6_become_58 : decode cX6_become 58 = .ok (.getfield 33, 3) := by decide +kernel
theorem dX6_become_61 : decode cX6_become 61 = .ok (.putfield 33, 3) := by decide +kernel
theorem dX6_become_64 : decode cX6_become 64 = .ok (.return_, 1) := by decide +kernel
theorem dX6_liesOn_0 : decode cX6_liesOn 0 = .ok (.aload_n 0, 1) := by decide +kernel
theorem dX6_liesOn_1 : decode cX6_liesOn 1 = .ok (.getfield 18, 3) := by decide +kernel
theorem dX6_liesOn_4 : decode cX6_liesOn 4 = .ok (.iconst 1, 1) := by decide +kernel
theorem dX6_liesOn_5 : decode cX6_liesOn 5 = .ok (.if_icmp .ne 15, 3) := by decide +kernel
theorem dX6_liesOn_8 : decode cX6_liesOn 8 = .ok (.aload_n 0, 1) := by decide +kernel
theorem dX6_liesOn_9 : decode cX6_liesOn 9 = .ok (.getfield 21, 3) := by decide +kernel
theorem dX6_liesOn_12 : decode cX6_liesOn 12 = .ok (.iload_n 1, 1) := by decide +kernel
theorem dX6_liesOn_13 : decode cX6_liesOn 13 = .ok (.if_icmp .ne 7, 3) := by decide +kernel
theorem dX6_liesOn_16 : decode cX6_liesOn 16 = .ok (.iconst 1, 1) := by decide +kernel
theorem dX6_liesOn_17 : decode cX6_liesOn 17 = .ok (.goto 4, 3) := by decide +kernel
theorem dX6_liesOn_20 : decode cX6_liesOn 20 = .ok (.iconst 0, 1) := by decide +kernel
theorem dX6_liesOn_21 : decode cX6_liesOn 21 = .ok (.ireturn, 1) := by decide +kernel
theorem dX7_init_0 : decode cX7_init 0 = .ok (.aload_n 0, 1) := by decide +kernel
theorem dX7_init_1 : decode cX7_init 1 = .ok (.invokespecial 3, 3) := by decide +kernel
theorem dX7_init_4 : decode cX7_init 4 = .ok (.aload_n 0, 1) := by decide +kernel
theorem dX7_init_5 : decode cX7_init 5 = .ok (.new 9, 3) := by decide +kernel
theorem dX7_init_8 : decode cX7_init 8 = .ok (.dup, 1) := by decide +kernel
theorem dX7_init_9 : decode cX7_init 9 = .ok (.invokespecial 11, 3) := by decide +kernel
theorem dX7_init_12 : decode cX7_init 12 = .ok (.putfield 12, 3) := by decide +kernel
theorem dX7_init_15 : decode cX7_init 15 = .ok (.aload_n 0, 1) := by decide +kernel
theorem dX7_init_16 : decode cX7_init 16 = .ok (.new 9, 3) := by decide +kernel
theorem dX7_init_19 : decode cX7_init 19 = .ok (.dup, 1) := by decide +kernel
theorem dX7_init_20 : decode cX7_init 20 = .ok (.invokespecial 11, 3) := by decide +kernel
theorem dX7_init_23 : decode cX7_init 23 = .ok (.putfield 16, 3) := by decide +kernel
theorem dX7_init_26 : decode cX7_init 26 = .ok (.aload_n 0, 1) := by decide +kernel
theorem dX7_init_27 : decode cX7_init 27 = .ok (.iconst 0, 1) := by decide +kernel
theorem dX7_init_28 : decode cX7_init 28 = .ok (.putfield 19, 3) := by decide +kernel
theorem dX7_init_31 : decode cX7_init 31 = .ok (.aload_n 0, 1) := by decide +kernel
theorem dX7_init_32 : decode cX7_init 32 = .ok (.new 23, 3) := by decide +kernel
theorem dX7_init_35 : decode cX7_init 35 = .ok (.dup, 1) := by decide +kernel
theorem dX7_init_36 : decode cX7_init 36 = .ok (.invokespecial 25, 3) := by decide +kernel
theorem dX7_init_39 : decode cX7_init 39 = .ok (.putfield 26, 3) := by decide +kernel
theorem dX7_init_42 : decode cX7_init 42 = .ok (.aload_n 0, 1) := by decide +kernel
theorem dX7_init_43 : decode cX7_init 43 = .ok (.new 30, 3) := by decide +kernel
theorem dX7_init_46 : decode cX7_init 46 = .ok (.dup, 1) := by decide +kernel
theorem dX7_init_47 : decode cX7_init 47 = .ok (.invokespecial 32, 3) := by decide +kernel
theorem dX7_init_50 : decode cX7_init 50 = .ok (.putfield 33, 3) := by decide +kernel
theorem dX7_init_53 : decode cX7_init 53 = .ok (.aload_n 0, 1) := by decide +kernel
theorem dX7_init_54 : decode cX7_init 54 = .ok (.new 37, 3) := by decide +kernel
theorem dX7_init_57 : decode cX7_init 57 = .ok (.dup, 1) := by decide +kernel
theorem dX7_init_58 : decode cX7_init 58 = .ok (.invokespecial 39, 3) := by decide +kernel
theorem dX7_init_61 : decode cX7_init 61 = .ok (.putfield 40, 3) := by decide +kernel
theorem dX7_init_64 : decode cX7_init 64 = .ok (.aload_n 0, 1) := by decide +kernel
theorem dX7_init_65 : decode cX7_init 65 = .ok (.bipush (-4), 2) := by decide +kernel
theorem dX7_init_67 : decode cX7_init 67 = .ok (.putfield 44, 3) := by decide +kernel
theorem dX7_init_70 : decode cX7_init 70 = .ok (.aload_n 0, 1) := by decide +kernel
theorem dX7_init_71 : decode cX7_init 71 = .ok (.new 48, 3) := by decide +kernel
theorem dX7_init_74 : decode cX7_init 74 = .ok (.dup, 1) := by decide +kernel
theorem dX7_init_75 : decode cX7_init 75 = .ok (.invokespecial 50, 3) := by decide +kernel
theorem dX7_init_78 : decode cX7_init 78 = .ok (.putfield 51, 3) := by decide +kernel
theorem dX7_init_81 : decode cX7_init 81 = .ok (.aload_n 0, 1) := by decide +kernel
theorem dX7_init_82 : decode cX7_init 82 = .ok (.new 30, 3) := by decide +kernel
theorem dX7_init_85 : decode cX7_init 85 = .ok (.dup, 1) := by decide +kernel
theorem dX7_init_86 : decode cX7_init 86 = .ok (.invokespecial 32, 3) := by decide +kernel
theorem dX7_init_89 : decode cX7_init 89 = .ok (.putfield 55, 3) := by decide +kernel
theorem dX7_init_92 : decode cX7_init 92 = .ok (.return_, 1) := by decide +kernel
theorem dX7_clear_0 : decode cX7_clear 0 = .ok (.aload_n 0, 1) := by decide +kernel
theorem dX7_clear_1 : decode cX7_clear 1 = .ok (.getfield 12, 3) := by decide +kernel
theorem dX7_clear_4 : decode cX7_clear 4 = .ok (.getfield 58, 3) := by decide +kernel
theorem dX7_clear_7 : decode cX7_clear 7 = .ok (.istore_n 1, 1) := by decide +kernel
theorem dX7_clear_8 : decode cX7_clear 8 = .ok (.aload_n 0, 1) := by decide +kernel
theorem dX7_clear_9 : decode cX7_clear 9 = .ok (.getfield 12, 3) := by decide +kernel
theorem dX7_clear_12 : decode cX7_clear 12 = .ok (.invokevirtual 61, 3) := by decide +kernel
theorem dX7_clear_15 : decode cX7_clear 15 = .ok (.aload_n 0, 1) := by decide +kernel
theorem dX7_clear_16 : decode cX7_clear 16 = .ok (.getfield 26, 3) := by decide +kernel
theorem dX7_clear_19 : decode cX7_clear 19 = .ok (.invokevirtual 64, 3) := by decide +kernel
theorem dX7_clear_22 : decode cX7_clear 22 = .ok (.iload_n 1, 1) := by decide +kernel
theorem dX7_clear_23 : decode cX7_clear 23 = .ok (.ireturn, 1) := by decide +kernel
theorem dX7_append_0 : decode cX7_append 0 = .ok (.iload_n 1, 1) := by decide +kernel
theorem dX7_append_1 : decode cX7_append 1 = .ok (.bipush 32, 2) := by decide +kernel
theorem dX7_append_3 : decode cX7_append 3 = .ok (.if_icmp .lt 21, 3) := by decide +kernel
theorem dX7_append_6 : decode cX7_append 6 = .ok (.iload_n 1, 1) := by decide +kernel
theorem dX7_append_7 : decode cX7_append 7 = .ok (.bipush 126, 2) := by decide +kernel
theorem dX7_append_9 : decode cX7_append 9 = .ok (.if_icmp .gt 15, 3) := by decide +kernel
theorem dX7_append_12 : decode cX7_append 12 = .ok (.aload_n 0, 1) := by decide +kernel
theorem dX7_append_13 : decode cX7_append 13 = .ok (.getfield 33, 3) := by decide +kernel
theorem dX7_append_16 : decode cX7_append 16 = .ok (.invokevirtual 67, 3) := by decide +kernel
theorem dX7_append_19 : decode cX7_append 19 = .ok (.bipush 60, 2) := by decide +kernel
theorem dX7_append_21 : decode cX7_append 21 = .ok (.if_icmp .lt 6, 3) := by decide +kernel
theorem dX7_append_24 : decode cX7_append 24 = .ok (.bipush (-2), 2) := by decide +kernel
theorem dX7_append_26 : decode cX7_append 26 = .ok (.ireturn, 1) := by decide +kernel
theorem dX7_append_27 : decode cX7_append 27 = .ok (.aload_n 0, 1) := by decide +kernel
theorem dX7_append_28 : decode cX7_append 28 = .ok (.getfield 33, 3) := by decide +kernel
theorem dX7_append_31 : decode cX7_append 31 = .ok (.iload_n 1, 1) := by decide +kernel
theorem dX7_append_32 : decode cX7_append 32 = .ok (.invokevirtual 71, 3) := by decide +kernel
theorem dX7_append_35 : decode cX7_append 35 = .ok (.pop, 1) := by decide +kernel
theorem dX7_append_36 : decode cX7_append 36 = .ok (.aload_n 0, 1) := by decide +kernel
theorem dX7_append_37 : decode cX7_append 37 = .ok (.getfield 33, 3) := by decide +kernel
theorem dX7_append_40 : decode cX7_append 40 = .ok (.invokevirtual 67, 3) := by decide +kernel
theorem dX7_append_43 : decode cX7_append 43 = .ok (.ireturn, 1) := by decide +kernel
theorem dX7_rink_0 : decode cX7_rink 0 = .ok (.aload_n 0, 1) := by decide +kernel
theorem dX7_rink_1 : decode cX7_rink 1 = .ok (.getfield 26, 3) := by decide +kernel
theorem dX7_rink_4 : decode cX7_rink 4 = .ok (.aload_n 0, 1) := by decide +kernel
theorem dX7_rink_5 : decode cX7_rink 5 = .ok (.getfield 12, 3) := by decide +kernel
theorem dX7_rink_8 : decode cX7_rink 8 = .ok (.invokevirtual 75, 3) := by decide +kernel
theorem dX7_rink_11 : decode cX7_rink 11 = .ok (.aload_n 0, 1) := by decide +kernel
theorem dX7_rink_12 : decode cX7_rink 12 = .ok (.aload_n 0, 1) := by decide +kernel
theorem dX7_rink_13 : decode cX7_rink 13 = .ok (.iload_n 1, 1) := by decide +kernel
theorem dX7_rink_14 : decode cX7_rink 14 = .ok (.iload_n 2, 1) := by decide +kernel
theorem dX7_rink_15 : decode cX7_rink 15 = .ok (.invokevirtual 79, 3) := by decide +kernel
theorem dX7_rink_18 : decode cX7_rink 18 = .ok (.invokevirtual 83, 3) := by decide +kernel
theorem dX7_rink_21 : decode cX7_rink 21 = .ok (.ireturn, 1) := by decide +kernel
theorem dX7_wood_0 : decode cX7_wood 0 = .ok (.aload_n 0, 1) := by decide +kernel
theorem dX7_wood_1 : decode cX7_wood 1 = .ok (.getfield 26, 3) := by decide +kernel
theorem dX7_wood_4 : decode cX7_wood 4 = .ok (.aload_n 0, 1) := by decide +kernel
theorem dX7_wood_5 : decode cX7_wood 5 = .ok (.getfield 12, 3) := by decide +kernel
theorem dX7_wood_8 : decode cX7_wood 8 = .ok (.invokevirtual 75, 3) := by decide +kernel
theorem dX7_wood_11 : decode cX7_wood 11 = .ok (.aload_n 0, 1) := by decide +kernel
theorem dX7_wood_12 : decode cX7_wood 12 = .ok (.aload_n 0, 1) := by decide +kernel
theorem dX7_wood_13 : decode cX7_wood 13 = .ok (.iload_n 1, 1) := by decide +kernel
theorem dX7_wood_14 : decode cX7_wood 14 = .ok (.iload_n 2, 1) := by decide +kernel
theorem dX7_wood_15 : decode cX7_wood 15 = .ok (.invokevirtual 87, 3) := by decide +kernel
theorem dX7_wood_18 : decode cX7_wood 18 = .ok (.invokevirtual 83, 3) := by decide +kernel
theorem dX7_wood_21 : decode cX7_wood 21 = .ok (.ireturn, 1) := by decide +kernel
theorem dX7_begin_0 : decode cX7_begin 0 = .ok (.aload_n 0, 1) := by decide +kernel
theorem dX7_begin_1 : decode cX7_begin 1 = .ok (.getfield 26, 3) := by decide +kernel
theorem dX7_begin_4 : decode cX7_begin 4 = .ok (.aload_n 0, 1) := by decide +kernel
theorem dX7_begin_5 : decode cX7_begin 5 = .ok (.getfield 12, 3) := by decide +kernel
theorem dX7_begin_8 : decode cX7_begin 8 = .ok (.invokevirtual 75, 3) := by decide +kernel
theorem dX7_begin_11 : decode cX7_begin 11 = .ok (.aload_n 0, 1) := by decide +kernel
theorem dX7_begin_12 : decode cX7_begin 12 = .ok (.aload_n 0, 1) := by decide +kernel
theorem dX7_begin_13 : decode cX7_begin 13 = .ok (.iload_n 1, 1) := by decide +kernel
theorem dX7_begin_14 : decode cX7_begin 14 = .ok (.iload_n 2, 1) := by decide +kernel
theorem dX7_begin_15 : decode cX7_begin 15 = .ok (.invokevirtual 90, 3) := by decide +kernel
theorem dX7_begin_18 : decode cX7_begin 18 = .ok (.invokevirtual 83, 3) := by decide +kernel
theorem dX7_begin_21 : decode cX7_begin 21 = .ok (.ireturn, 1) := by decide +kernel
theorem dX7_bowl_0 : decode cX7_bowl 0 = .ok (.aload_n 0, 1) := by decide +kernel
theorem dX7_bowl_1 : decode cX7_bowl 1 = .ok (.getfield 26, 3) := by decide +kernel
theorem dX7_bowl_4 : decode cX7_bowl 4 = .ok (.aload_n 0, 1) := by decide +kernel
theorem dX7_bowl_5 : decode cX7_bowl 5 = .ok (.getfield 12, 3) := by decide +kernel
theorem dX7_bowl_8 : decode cX7_bowl 8 = .ok (.invokevirtual 75, 3) := by decide +kernel
theorem dX7_bowl_11 : decode cX7_bowl 11 = .ok (.aload_n 0, 1) := by decide +kernel
theorem dX7_bowl_12 : decode cX7_bowl 12 = .ok (.aload_n 0, 1) := by decide +kernel
theorem dX7_bowl_13 : decode cX7_bowl 13 = .ok (.iload_n 1, 1) := by decide +kernel
theorem dX7_bowl_14 : decode cX7_bowl 14 = .ok (.iload_n 2, 1) := by decide +kernel
theorem dX7_bowl_15 : decode cX7_bowl 15 = .ok (.iload_n 3, 1) := by decide +kernel
theorem dX7_bowl_16 : decode cX7_bowl 16 = .ok (.iload 4, 2) := by decide +kernel
theorem dX7_bowl_18 : decode cX7_bowl 18 = .ok (.iload 5, 2) := by decide +kernel
theorem dX7_bowl_20 : decode cX7_bowl 20 = .ok (.invokevirtual 93, 3) := by decide +kernel
theorem dX7_bowl_23 : decode cX7_bowl 23 = .ok (.invokevirtual 83, 3) := by decide +kernel
theorem dX7_bowl_26 : decode cX7_bowl 26 = .ok (.ireturn, 1) := by decide +kernel
theorem dX7_close_0 : decode cX7_close 0 = .ok (.aload_n 0, 1) := by decide +kernel
theorem dX7_close_1 : decode cX7_close 1 = .ok (.getfield 26, 3) := by decide +kernel
theorem dX7_close_4 : decode cX7_close 4 = .ok (.aload_n 0, 1) := by decide +kernel
theorem dX7_close_5 : decode cX7_close 5 = .ok (.getfield 12, 3) := by decide +kernel
theorem dX7_close_8 : decode cX7_close 8 = .ok (.invokevirtual 75, 3) := by decide +kernel
theorem dX7_close_11 : decode cX7_close 11 = .ok (.aload_n 0, 1) := by decide +kernel
theorem dX7_close_12 : decode cX7_close 12 = .ok (.aload_n 0, 1) := by decide +kernel
theorem dX7_close_13 : decode cX7_close 13 = .ok (.iload_n 1, 1) := by decide +kernel
theorem dX7_close_14 : decode cX7_close 14 = .ok (.invokevirtual 97, 3) := by decide +kernel
theorem dX7_close_17 : decode cX7_close 17 = .ok (.invokevirtual 83, 3) := by decide +kernel
theorem dX7_close_20 : decode cX7_close 20 = .ok (.ireturn, 1) := by decide +kernel
theorem dX7_sweep_0 : decode cX7_sweep 0 = .ok (.aload_n 0, 1) := by decide +kernel
theorem dX7_sweep_1 : decode cX7_sweep 1 = .ok (.getfield 26, 3) := by decide +kernel
theorem dX7_sweep_4 : decode cX7_sweep 4 = .ok (.aload_n 0, 1) := by decide +kernel
theorem dX7_sweep_5 : decode cX7_sweep 5 = .ok (.getfield 12, 3) := by decide +kernel
theorem dX7_sweep_8 : decode cX7_sweep 8 = .ok (.invokevirtual 75, 3) := by decide +kernel
theorem dX7_sweep_11 : decode cX7_sweep 11 = .ok (.aload_n 0, 1) := by decide +kernel
theorem dX7_sweep_12 : decode cX7_sweep 12 = .ok (.aload_n 0, 1) := by decide +kernel
theorem dX7_sweep_13 : decode cX7_sweep 13 = .ok (.iload_n 1, 1) := by decide +kernel
theorem dX7_sweep_14 : decode cX7_sweep 14 = .ok (.invokevirtual 100, 3) := by decide +kernel
theorem dX7_sweep_17 : decode cX7_sweep 17 = .ok (.invokevirtual 83, 3) := by decide +kernel
theorem dX7_sweep_20 : decode cX7_sweep 20 = .ok (.ireturn, 1) := by decide +kernel
theorem dX7_rain_0 : decode cX7_rain 0 = .ok (.aload_n 0, 1) := by decide +kernel
theorem dX7_rain_1 : decode cX7_rain 1 = .ok (.getfield 26, 3) := by decide +kernel
theorem dX7_rain_4 : decode cX7_rain 4 = .ok (.aload_n 0, 1) := by decide +kernel
theorem dX7_rain_5 : decode cX7_rain 5 = .ok (.getfield 12, 3) := by decide +kernel
theorem dX7_rain_8 : decode cX7_rain 8 = .ok (.invokevirtual 75, 3) := by decide +kernel
theorem dX7_rain_11 : decode cX7_rain 11 = .ok (.aload_n 0, 1) := by decide +kernel
theorem dX7_rain_12 : decode cX7_rain 12 = .ok (.aload_n 0, 1) := by decide +kernel
theorem dX7_rain_13 : decode cX7_rain 13 = .ok (.iload_n 1, 1) := by decide +kernel
theorem dX7_rain_14 : decode cX7_rain 14 = .ok (.invokevirtual 103, 3) := by decide +kernel
theorem dX7_rain_17 : decode cX7_rain 17 = .ok (.invokevirtual 83, 3) := by decide +kernel
theorem dX7_rain_20 : decode cX7_rain 20 = .ok (.ireturn, 1) := by decide +kernel
theorem dX7_sun_0 : decode cX7_sun 0 = .ok (.aload_n 0, 1) := by decide +kernel
theorem dX7_sun_1 : decode cX7_sun 1 = .ok (.getfield 26, 3) := by decide +kernel
theorem dX7_sun_4 : decode cX7_sun 4 = .ok (.aload_n 0, 1) := by decide +kernel
theorem dX7_sun_5 : decode cX7_sun 5 = .ok (.getfield 12, 3) := by decide +kernel
theorem dX7_sun_8 : decode cX7_sun 8 = .ok (.invokevirtual 75, 3) := by decide +kernel
theorem dX7_sun_11 : decode cX7_sun 11 = .ok (.aload_n 0, 1) := by decide +kernel
theorem dX7_sun_12 : decode cX7_sun 12 = .ok (.aload_n 0, 1) := by decide +kernel
theorem dX7_sun_13 : decode cX7_sun 13 = .ok (.iload_n 1, 1) := by decide +kernel
theorem dX7_sun_14 : decode cX7_sun 14 = .ok (.invokevirtual 106, 3) := by decide +kernel
theorem dX7_sun_17 : decode cX7_sun 17 = .ok (.invokevirtual 83, 3) := by decide +kernel
theorem dX7_sun_20 : decode cX7_sun 20 = .ok (.ireturn, 1) := by decide +kernel
theorem dX7_brew_0 : decode cX7_brew 0 = .ok (.aload_n 0, 1) := by decide +kernel
theorem dX7_brew_1 : decode cX7_brew 1 = .ok (.getfield 26, 3) := by decide +kernel
theorem dX7_brew_4 : decode cX7_brew 4 = .ok (.aload_n 0, 1) := by decide +kernel
theorem dX7_brew_5 : decode cX7_brew 5 = .ok (.getfield 12, 3) := by decide +kernel
theorem dX7_brew_8 : decode cX7_brew 8 = .ok (.invokevirtual 75, 3) := by decide +kernel
theorem dX7_brew_11 : decode cX7_brew 11 = .ok (.aload_n 0, 1) := by decide +kernel
theorem dX7_brew_12 : decode cX7_brew 12 = .ok (.aload_n 0, 1) := by decide +kernel
theorem dX7_brew_13 : decode cX7_brew 13 = .ok (.iload_n 1, 1) := by decide +kernel
theorem dX7_brew_14 : decode cX7_brew 14 = .ok (.invokevirtual 109, 3) := by decide +kernel
theorem dX7_brew_17 : decode cX7_brew 17 = .ok (.invokevirtual 83, 3) := by decide +kernel
theorem dX7_brew_20 : decode cX7_brew 20 = .ok (.ireturn, 1) := by decide +kernel
theorem dX7_tea_0 : decode cX7_tea 0 = .ok (.aload_n 0, 1) := by decide +kernel
theorem dX7_tea_1 : decode cX7_tea 1 = .ok (.getfield 26, 3) := by decide +kernel
theorem dX7_tea_4 : decode cX7_tea 4 = .ok (.aload_n 0, 1) := by decide +kernel
theorem dX7_tea_5 : decode cX7_tea 5 = .ok (.getfield 12, 3) := by decide +kernel
theorem dX7_tea_8 : decode cX7_tea 8 = .ok (.invokevirtual 75, 3) := by decide +kernel
theorem dX7_tea_11 : decode cX7_tea 11 = .ok (.aload_n 0, 1) := by decide +kernel
theorem dX7_tea_12 : decode cX7_tea 12 = .ok (.aload_n 0, 1) := by decide +kernel
theorem dX7_tea_13 : decode cX7_tea 13 = .ok (.iload_n 1, 1) := by decide +kernel
theorem dX7_tea_14 : decode cX7_tea 14 = .ok (.invokevirtual 112, 3) := by decide +kernel
theorem dX7_tea_17 : decode cX7_tea 17 = .ok (.invokevirtual 83, 3) := by decide +kernel
theorem dX7_tea_20 : decode cX7_tea 20 = .ok (.ireturn, 1) := by decide +kernel
theorem dX7_hour_0 : decode cX7_hour 0 = .ok (.aload_n 0, 1) := by decide +kernel
theorem dX7_hour_1 : decode cX7_hour 1 = .ok (.getfield 26, 3) := by decide +kernel
theorem dX7_hour_4 : decode cX7_hour 4 = .ok (.aload_n 0, 1) := by decide +kernel
theorem dX7_hour_5 : decode cX7_hour 5 = .ok (.getfield 12, 3) := by decide +kernel
theorem dX7_hour_8 : decode cX7_hour 8 = .ok (.invokevirtual 75, 3) := by decide +kernel
theorem dX7_hour_11 : decode cX7_hour 11 = .ok (.aload_n 0, 1) := by decide +kernel
theorem dX7_hour_12 : decode cX7_hour 12 = .ok (.aload_n 0, 1) := by decide +kernel
theorem dX7_hour_13 : decode cX7_hour 13 = .ok (.iload_n 1, 1) := by decide +kernel
theorem dX7_hour_14 : decode cX7_hour 14 = .ok (.invokevirtual 115, 3) := by decide +kernel
theorem dX7_hour_17 : decode cX7_hour 17 = .ok (.invokevirtual 83, 3) := by decide +kernel
theorem dX7_hour_20 : decode cX7_hour 20 = .ok (.ireturn, 1) := by decide +kernel
theorem dX7_script_0 : decode cX7_script 0 = .ok (.aload_n 0, 1) := by decide +kernel
theorem dX7_script_1 : decode cX7_script 1 = .ok (.getfield 26, 3) := by decide +kernel
theorem dX7_script_4 : decode cX7_script 4 = .ok (.aload_n 0, 1) := by decide +kernel
theorem dX7_script_5 : decode cX7_script 5 = .ok (.getfield 12, 3) := by decide +kernel
theorem dX7_script_8 : decode cX7_script 8 = .ok (.invokevirtual 75, 3) := by decide +kernel
theorem dX7_script_11 : decode cX7_script 11 = .ok (.aload_n 0, 1) := by decide +kernel
theorem dX7_script_12 : decode cX7_script 12 = .ok (.getfield 40, 3) := by decide +kernel
theorem dX7_script_15 : decode cX7_script 15 = .ok (.aload_n 0, 1) := by decide +kernel
theorem dX7_script_16 : decode cX7_script 16 = .ok (.getfield 33, 3) := by decide +kernel
theorem dX7_script_19 : decode cX7_script 19 = .ok (.invokevirtual 118, 3) := by decide +kernel
theorem dX7_script_22 : decode cX7_script 22 = .ok (.ifCond .eq 10, 3) := by decide +kernel
theorem dX7_script_25 : decode cX7_script 25 = .ok (.aload_n 0, 1) := by decide +kernel
theorem dX7_script_26 : decode cX7_script 26 = .ok (.invokevirtual 122, 3) := by decide +kernel
theorem dX7_script_29 : decode cX7_script 29 = .ok (.goto 7, 3) := by decide +kernel
theorem dX7_script_32 : decode cX7_script 32 = .ok (.aload_n 0, 1) := by decide +kernel
theorem dX7_script_33 : decode cX7_script 33 = .ok (.invokevirtual 125, 3) := by decide +kernel
theorem dX7_script_36 : decode cX7_script 36 = .ok (.istore_n 1, 1) := by decide +kernel
theorem dX7_script_37 : decode cX7_script 37 = .ok (.aload_n 0, 1) := by decide +kernel
theorem dX7_script_38 : decode cX7_script 38 = .ok (.getfield 33, 3) := by decide +kernel
theorem dX7_script_41 : decode cX7_script 41 = .ok (.iconst 0, 1) := by decide +kernel
theorem dX7_script_42 : decode cX7_script 42 = .ok (.invokevirtual 128, 3) := by decide +kernel
theorem dX7_script_45 : decode cX7_script 45 = .ok (.aload_n 0, 1) := by decide +kernel
theorem dX7_script_46 : decode cX7_script 46 = .ok (.iload_n 1, 1) := by decide +kernel
theorem dX7_script_47 : decode cX7_script 47 = .ok (.invokevirtual 83, 3) := by decide +kernel
theorem dX7_script_50 : decode cX7_script 50 = .ok (.ireturn, 1) := by decide +kernel
theorem dX7_settle_0 : decode cX7_settle 0 = .ok (.iload_n 1, 1) := by decide +kernel
theorem dX7_settle_1 : decode cX7_settle 1 = .ok (.invokestatic 132, 3) := by decide +kernel
theorem dX7_settle_4 : decode cX7_settle 4 = .ok (.ifCond .ne 10, 3) := by decide +kernel
theorem dX7_settle_7 : decode cX7_settle 7 = .ok (.aload_n 0, 1) := by decide +kernel
theorem dX7_settle_8 : decode cX7_settle 8 = .ok (.getfield 26, 3) := by decide +kernel
theorem dX7_settle_11 : decode cX7_settle 11 = .ok (.invokevirtual 136, 3) := by decide +kernel
theorem dX7_settle_14 : decode cX7_settle 14 = .ok (.iload_n 1, 1) := by decide +kernel
theorem dX7_settle_15 : decode cX7_settle 15 = .ok (.ireturn, 1) := by decide +kernel
theorem dX7_isCode_0 : decode cX7_isCode 0 = .ok (.iload_n 0, 1) := by decide +kernel
theorem dX7_isCode_1 : decode cX7_isCode 1 = .ok (.iconst (-1), 1) := by decide +kernel
theorem dX7_isCode_2 : decode cX7_isCode 2 = .ok (.if_icmp .eq 15, 3) := by decide +kernel
theorem dX7_isCode_5 : decode cX7_isCode 5 = .ok (.iload_n 0, 1) := by decide +kernel
theorem dX7_isCode_6 : decode cX7_isCode 6 = .ok (.bipush (-2), 2) := by decide +kernel
theorem dX7_isCode_8 : decode cX7_isCode 8 = .ok (.if_icmp .eq 9, 3) := by decide +kernel
theorem dX7_isCode_11 : decode cX7_isCode 11 = .ok (.iload_n 0, 1) := by decide +kernel
theorem dX7_isCode_12 : decode cX7_isCode 12 = .ok (.bipush (-3), 2) := by decide +kernel
theorem dX7_isCode_14 : decode cX7_isCode 14 = .ok (.if_icmp .ne 7, 3) := by decide +kernel
theorem dX7_isCode_17 : decode cX7_isCode 17 = .ok (.iconst 1, 1) := by decide +kernel
theorem dX7_isCode_18 : decode cX7_isCode 18 = .ok (.goto 4, 3) := by decide +kernel
theorem dX7_isCode_21 : decode cX7_isCode 21 = .ok (.iconst 0, 1) := by decide +kernel
theorem dX7_isCode_22 : decode cX7_isCode 22 = .ok (.ireturn, 1) := by decide +kernel
theorem dX7_refuse_0 : decode cX7_refuse 0 = .ok (.aload_n 0, 1) := by decide +kernel
theorem dX7_refuse_1 : decode cX7_refuse 1 = .ok (.getfield 51, 3) := by decide +kernel
theorem dX7_refuse_4 : decode cX7_refuse 4 = .ok (.invokevirtual 139, 3) := by decide +kernel
theorem dX7_refuse_7 : decode cX7_refuse 7 = .ok (.aload_n 0, 1) := by decide +kernel
theorem dX7_refuse_8 : decode cX7_refuse 8 = .ok (.getfield 51, 3) := by decide +kernel
theorem dX7_refuse_11 : decode cX7_refuse 11 = .ok (.iload_n 1, 1) := by decide +kernel
theorem dX7_refuse_12 : decode cX7_refuse 12 = .ok (.iload_n 2, 1) := by decide +kernel
theorem dX7_refuse_13 : decode cX7_refuse 13 = .ok (.invokevirtual 142, 3) := by decide +kernel
theorem dX7_refuse_16 : decode cX7_refuse 16 = .ok (.bipush (-3), 2) := by decide +kernel
theorem dX7_refuse_18 : decode cX7_refuse 18 = .ok (.ireturn, 1) := by decide +kernel
theorem dX7_layRink_0 : decode cX7_layRink 0 = .ok (.iload_n 1, 1) := by decide +kernel
theorem dX7_layRink_1 : decode cX7_layRink 1 = .ok (.ifCond .lt 19, 3) := by decide +kernel
theorem dX7_layRink_4 : decode cX7_layRink 4 = .ok (.iload_n 1, 1) := by decide +kernel
theorem dX7_layRink_5 : decode cX7_layRink 5 = .ok (.bipush 29, 2) := by decide +kernel
theorem dX7_layRink_7 : decode cX7_layRink 7 = .ok (.if_icmp .gt 13, 3) := by decide +kernel
theorem dX7_layRink_10 : decode cX7_layRink 10 = .ok (.iload_n 2, 1) := by decide +kernel
theorem dX7_layRink_11 : decode cX7_layRink 11 = .ok (.ifCond .lt 9, 3) := by decide +kernel
theorem dX7_layRink_14 : decode cX7_layRink 14 = .ok (.iload_n 2, 1) := by decide +kernel
theorem dX7_layRink_15 : decode cX7_layRink 15 = .ok (.bipush 29, 2) := by decide +kernel
theorem dX7_layRink_17 : decode cX7_layRink 17 = .ok (.if_icmp .le 6, 3) := by decide +kernel
theorem dX7_layRink_20 : decode cX7_layRink 20 = .ok (.bipush (-2), 2) := by decide +kernel
theorem dX7_layRink_22 : decode cX7_layRink 22 = .ok (.ireturn, 1) := by decide +kernel
theorem dX7_layRink_23 : decode cX7_layRink 23 = .ok (.iload_n 2, 1) := by decide +kernel
theorem dX7_layRink_24 : decode cX7_layRink 24 = .ok (.iload_n 1, 1) := by decide +kernel
theorem dX7_layRink_25 : decode cX7_layRink 25 = .ok (.isub, 1) := by decide +kernel
theorem dX7_layRink_26 : decode cX7_layRink 26 = .ok (.iconst 1, 1) := by decide +kernel
theorem dX7_layRink_27 : decode cX7_layRink 27 = .ok (.iadd, 1) := by decide +kernel
theorem dX7_layRink_28 : decode cX7_layRink 28 = .ok (.istore_n 3, 1) := by decide +kernel
theorem dX7_layRink_29 : decode cX7_layRink 29 = .ok (.iload_n 3, 1) := by decide +kernel
theorem dX7_layRink_30 : decode cX7_layRink 30 = .ok (.iconst 3, 1) := by decide +kernel
theorem dX7_layRink_31 : decode cX7_layRink 31 = .ok (.if_icmp .lt 9, 3) := by decide +kernel
theorem dX7_layRink_34 : decode cX7_layRink 34 = .ok (.iload_n 3, 1) := by decide +kernel
theorem dX7_layRink_35 : decode cX7_layRink 35 = .ok (.bipush 10, 2) := by decide +kernel
theorem dX7_layRink_37 : decode cX7_layRink 37 = .ok (.if_icmp .le 6, 3) := by decide +kernel
theorem dX7_layRink_40 : decode cX7_layRink 40 = .ok (.bipush (-2), 2) := by decide +kernel
theorem dX7_layRink_42 : decode cX7_layRink 42 = .ok (.ireturn, 1) := by decide +kernel
theorem dX7_layRink_43 : decode cX7_layRink 43 = .ok (.aload_n 0, 1) := by decide +kernel
theorem dX7_layRink_44 : decode cX7_layRink 44 = .ok (.getfield 12, 3) := by decide +kernel
theorem dX7_layRink_47 : decode cX7_layRink 47 = .ok (.getfield 146, 3) := by decide +kernel
theorem dX7_layRink_50 : decode cX7_layRink 50 = .ok (.iconst 4, 1) := by decide +kernel
theorem dX7_layRink_51 : decode cX7_layRink 51 = .ok (.if_icmp .lt 10, 3) := by decide +kernel
theorem dX7_layRink_54 : decode cX7_layRink 54 = .ok (.aload_n 0, 1) := by decide +kernel
theorem dX7_layRink_55 : decode cX7_layRink 55 = .ok (.iconst 1, 1) := by decide +kernel
theorem dX7_layRink_56 : decode cX7_layRink 56 = .ok (.iconst 4, 1) := by decide +kernel
theorem dX7_layRink_57 : decode cX7_layRink 57 = .ok (.invokevirtual 149, 3) := by decide +kernel
theorem dX7_layRink_60 : decode cX7_layRink 60 = .ok (.ireturn, 1) := by decide +kernel
theorem dX7_layRink_61 : decode cX7_layRink 61 = .ok (.aload_n 0, 1) := by decide +kernel
theorem dX7_layRink_62 : decode cX7_layRink 62 = .ok (.getfield 12, 3) := by decide +kernel
theorem dX7_layRink_65 : decode cX7_layRink 65 = .ok (.iload_n 1, 1) := by decide +kernel
theorem dX7_layRink_66 : decode cX7_layRink 66 = .ok (.iload_n 2, 1) := by decide +kernel
theorem dX7_layRink_67 : decode cX7_layRink 67 = .ok (.invokevirtual 152, 3) := by decide +kernel
theorem dX7_layRink_70 : decode cX7_layRink 70 = .ok (.istore 4, 2) := by decide +kernel
theorem dX7_layRink_72 : decode cX7_layRink 72 = .ok (.iload 4, 2) := by decide +kernel
theorem dX7_layRink_74 : decode cX7_layRink 74 = .ok (.iconst (-1), 1) := by decide +kernel
theorem dX7_layRink_75 : decode cX7_layRink 75 = .ok (.if_icmp .eq 11, 3) := by decide +kernel
theorem dX7_layRink_78 : decode cX7_layRink 78 = .ok (.aload_n 0, 1) := by decide +kernel
theorem dX7_layRink_79 : decode cX7_layRink 79 = .ok (.iconst 2, 1) := by decide +kernel
theorem dX7_layRink_80 : decode cX7_layRink 80 = .ok (.iload 4, 2) := by decide +kernel
theorem dX7_layRink_82 : decode cX7_layRink 82 = .ok (.invokevirtual 149, 3) := by decide +kernel
theorem dX7_layRink_85 : decode cX7_layRink 85 = .ok (.ireturn, 1) := by decide +kernel
theorem dX7_layRink_86 : decode cX7_layRink 86 = .ok (.aload_n 0, 1) := by decide +kernel
theorem dX7_layRink_87 : decode cX7_layRink 87 = .ok (.getfield 12, 3) := by decide +kernel
theorem dX7_layRink_90 : decode cX7_layRink 90 = .ok (.getfield 146, 3) := by decide +kernel
theorem dX7_layRink_93 : decode cX7_layRink 93 = .ok (.istore 5, 2) := by decide +kernel
theorem dX7_layRink_95 : decode cX7_layRink 95 = .ok (.aload_n 0, 1) := by decide +kernel
theorem dX7_layRink_96 : decode cX7_layRink 96 = .ok (.getfield 12, 3) := by decide +kernel
theorem dX7_layRink_99 : decode cX7_layRink 99 = .ok (.getfield 155, 3) := by decide +kernel
theorem dX7_layRink_102 : decode cX7_layRink 102 = .ok (.iload 5, 2) := by decide +kernel
theorem dX7_layRink_104 : decode cX7_layRink 104 = .ok (.aaload, 1) := by decide +kernel
theorem dX7_layRink_105 : decode cX7_layRink 105 = .ok (.iload_n 1, 1) := by decide +kernel
theorem dX7_layRink_106 : decode cX7_layRink 106 = .ok (.iload_n 2, 1) := by decide +kernel
theorem dX7_layRink_107 : decode cX7_layRink 107 = .ok (.invokevirtual 159, 3) := by decide +kernel
theorem dX7_layRink_110 : decode cX7_layRink 110 = .ok (.aload_n 0, 1) := by decide +kernel
theorem dX7_layRink_111 : decode cX7_layRink 111 = .ok (.getfield 12, 3) := by decide +kernel
theorem dX7_layRink_114 : decode cX7_layRink 114 = .ok (.dup, 1) := by decide +kernel
theorem dX7_layRink_115 : decode cX7_layRink 115 = .ok (.getfield 146, 3) := by decide +kernel
theorem dX7_layRink_118 : decode cX7_layRink 118 = .ok (.iconst 1, 1) := by decide +kernel
theorem dX7_layRink_119 : decode cX7_layRink 119 = .ok (.iadd, 1) := by decide +kernel
theorem dX7_layRink_120 : decode cX7_layRink 120 = .ok (.putfield 146, 3) := by decide +kernel
theorem dX7_layRink_123 : decode cX7_layRink 123 = .ok (.iload 5, 2) := by decide +kernel
theorem dX7_layRink_125 : decode cX7_layRink 125 = .ok (.ireturn, 1) := by decide +kernel
theorem dX7_addWood_0 : decode cX7_addWood 0 = .ok (.iload_n 1, 1) := by decide +kernel
theorem dX7_addWood_1 : decode cX7_addWood 1 = .ok (.invokestatic 164, 3) := by decide +kernel
theorem dX7_addWood_4 : decode cX7_addWood 4 = .ok (.ifCond .ne 5, 3) := by decide +kernel
theorem dX7_addWood_7 : decode cX7_addWood 7 = .ok (.iconst (-1), 1) := by decide +kernel
theorem dX7_addWood_8 : decode cX7_addWood 8 = .ok (.ireturn, 1) := by decide +kernel
theorem dX7_addWood_9 : decode cX7_addWood 9 = .ok (.iload_n 2, 1) := by decide +kernel
theorem dX7_addWood_10 : decode cX7_addWood 10 = .ok (.ifCond .lt 9, 3) := by decide +kernel
theorem dX7_addWood_13 : decode cX7_addWood 13 = .ok (.iload_n 2, 1) := by decide +kernel
theorem dX7_addWood_14 : decode cX7_addWood 14 = .ok (.bipush 9, 2) := by decide +kernel
theorem dX7_addWood_16 : decode cX7_addWood 16 = .ok (.if_icmp .le 6, 3) := by decide +kernel
theorem dX7_addWood_19 : decode cX7_addWood 19 = .ok (.bipush (-2), 2) := by decide +kernel
theorem dX7_addWood_21 : decode cX7_addWood 21 = .ok (.ireturn, 1) := by decide +kernel
theorem dX7_addWood_22 : decode cX7_addWood 22 = .ok (.aload_n 0, 1) := by decide +kernel
theorem dX7_addWood_23 : decode cX7_addWood 23 = .ok (.getfield 12, 3) := by decide +kernel
theorem dX7_addWood_26 : decode cX7_addWood 26 = .ok (.getfield 167, 3) := by decide +kernel
theorem dX7_addWood_29 : decode cX7_addWood 29 = .ok (.bipush 16, 2) := by decide +kernel
theorem dX7_addWood_31 : decode cX7_addWood 31 = .ok (.if_icmp .lt 11, 3) := by decide +kernel
theorem dX7_addWood_34 : decode cX7_addWood 34 = .ok (.aload_n 0, 1) := by decide +kernel
theorem dX7_addWood_35 : decode cX7_addWood 35 = .ok (.iconst 1, 1) := by decide +kernel
theorem dX7_addWood_36 : decode cX7_addWood 36 = .ok (.bipush 16, 2) := by decide +kernel
theorem dX7_addWood_38 : decode cX7_addWood 38 = .ok (.invokevirtual 149, 3) := by decide +kernel
theorem dX7_addWood_41 : decode cX7_addWood 41 = .ok (.ireturn, 1) := by decide +kernel
theorem dX7_addWood_42 : decode cX7_addWood 42 = .ok (.aload_n 0, 1) := by decide +kernel
theorem dX7_addWood_43 : decode cX7_addWood 43 = .ok (.getfield 12, 3) := by decide +kernel
theorem dX7_addWood_46 : decode cX7_addWood 46 = .ok (.getfield 167, 3) := by decide +kernel
theorem dX7_addWood_49 : decode cX7_addWood 49 = .ok (.istore_n 3, 1) := by decide +kernel
theorem dX7_addWood_50 : decode cX7_addWood 50 = .ok (.aload_n 0, 1) := by decide +kernel
theorem dX7_addWood_51 : decode cX7_addWood 51 = .ok (.getfield 12, 3) := by decide +kernel
theorem dX7_addWood_54 : decode cX7_addWood 54 = .ok (.getfield 170, 3) := by decide +kernel
theorem dX7_addWood_57 : decode cX7_addWood 57 = .ok (.iload_n 3, 1) := by decide +kernel
theorem dX7_addWood_58 : decode cX7_addWood 58 = .ok (.aaload, 1) := by decide +kernel
theorem dX7_addWood_59 : decode cX7_addWood 59 = .ok (.iload_n 1, 1) := by decide +kernel
theorem dX7_addWood_60 : decode cX7_addWood 60 = .ok (.iload_n 2, 1) := by decide +kernel
theorem dX7_addWood_61 : decode cX7_addWood 61 = .ok (.invokevirtual 174, 3) := by decide +kernel
theorem dX7_addWood_64 : decode cX7_addWood 64 = .ok (.aload_n 0, 1) := by decide +kernel
theorem dX7_addWood_65 : decode cX7_addWood 65 = .ok (.getfield 12, 3) := by decide +kernel
theorem dX7_addWood_68 : decode cX7_addWood 68 = .ok (.dup, 1) := by decide +kernel
theorem dX7_addWood_69 : decode cX7_addWood 69 = .ok (.getfield 167, 3) := by decide +kernel
theorem dX7_addWood_72 : decode cX7_addWood 72 = .ok (.iconst 1, 1) := by decide +kernel
theorem dX7_addWood_73 : decode cX7_addWood 73 = .ok (.iadd, 1) := by decide +kernel
theorem dX7_addWood_74 : decode cX7_addWood 74 = .ok (.putfield 167, 3) := by decide +kernel
theorem dX7_addWood_77 : decode cX7_addWood 77 = .ok (.iload_n 3, 1) := by decide +kernel
theorem dX7_addWood_78 : decode cX7_addWood 78 = .ok (.ireturn, 1) := by decide +kernel
theorem dX7_beginEnd_0 : decode cX7_beginEnd 0 = .ok (.aload_n 0, 1) := by decide +kernel
theorem dX7_beginEnd_1 : decode cX7_beginEnd 1 = .ok (.getfield 12, 3) := by decide +kernel
theorem dX7_beginEnd_4 : decode cX7_beginEnd 4 = .ok (.iload_n 1, 1) := by decide +kernel
theorem dX7_beginEnd_5 : decode cX7_beginEnd 5 = .ok (.invokevirtual 179, 3) := by decide +kernel
theorem dX7_beginEnd_8 : decode cX7_beginEnd 8 = .ok (.ifCond .ne 5, 3) := by decide +kernel
theorem dX7_beginEnd_11 : decode cX7_beginEnd 11 = .ok (.iconst (-1), 1) := by decide +kernel
theorem dX7_beginEnd_12 : decode cX7_beginEnd 12 = .ok (.ireturn, 1) := by decide +kernel
theorem dX7_beginEnd_13 : decode cX7_beginEnd 13 = .ok (.iload_n 2, 1) := by decide +kernel
theorem dX7_beginEnd_14 : decode cX7_beginEnd 14 = .ok (.bipush 20, 2) := by decide +kernel
theorem dX7_beginEnd_16 : decode cX7_beginEnd 16 = .ok (.if_icmp .lt 9, 3) := by decide +kernel
theorem dX7_beginEnd_19 : decode cX7_beginEnd 19 = .ok (.iload_n 2, 1) := by decide +kernel
theorem dX7_beginEnd_20 : decode cX7_beginEnd 20 = .ok (.bipush 40, 2) := by decide +kernel
theorem dX7_beginEnd_22 : decode cX7_beginEnd 22 = .ok (.if_icmp .le 6, 3) := by decide +kernel
theorem dX7_beginEnd_25 : decode cX7_beginEnd 25 = .ok (.bipush (-2), 2) := by decide +kernel
theorem dX7_beginEnd_27 : decode cX7_beginEnd 27 = .ok (.ireturn, 1) := by decide +kernel
theorem dX7_beginEnd_28 : decode cX7_beginEnd 28 = .ok (.aload_n 0, 1) := by decide +kernel
theorem dX7_beginEnd_29 : decode cX7_beginEnd 29 = .ok (.getfield 12, 3) := by decide +kernel
theorem dX7_beginEnd_32 : decode cX7_beginEnd 32 = .ok (.getfield 155, 3) := by decide +kernel
theorem dX7_beginEnd_35 : decode cX7_beginEnd 35 = .ok (.iload_n 1, 1) := by decide +kernel
theorem dX7_beginEnd_36 : decode cX7_beginEnd 36 = .ok (.aaload, 1) := by decide +kernel
theorem dX7_beginEnd_37 : decode cX7_beginEnd 37 = .ok (.astore_n 3, 1) := by decide +kernel
theorem dX7_beginEnd_38 : decode cX7_beginEnd 38 = .ok (.aload_n 3, 1) := by decide +kernel
theorem dX7_beginEnd_39 : decode cX7_beginEnd 39 = .ok (.invokevirtual 182, 3) := by decide +kernel
theorem dX7_beginEnd_42 : decode cX7_beginEnd 42 = .ok (.ifCond .eq 13, 3) := by decide +kernel
theorem dX7_beginEnd_45 : decode cX7_beginEnd 45 = .ok (.aload_n 0, 1) := by decide +kernel
theorem dX7_beginEnd_46 : decode cX7_beginEnd 46 = .ok (.iconst 4, 1) := by decide +kernel
theorem dX7_beginEnd_47 : decode cX7_beginEnd 47 = .ok (.aload_n 3, 1) := by decide +kernel
theorem dX7_beginEnd_48 : decode cX7_beginEnd 48 = .ok (.getfield 186, 3) := by decide +kernel
theorem dX7_beginEnd_51 : decode cX7_beginEnd 51 = .ok (.invokevirtual 149, 3) := by decide +kernel
theorem dX7_beginEnd_54 : decode cX7_beginEnd 54 = .ok (.ireturn, 1) := by decide +kernel
theorem dX7_beginEnd_55 : decode cX7_beginEnd 55 = .ok (.aload_n 3, 1) := by decide +kernel
theorem dX7_beginEnd_56 : decode cX7_beginEnd 56 = .ok (.getfield 189, 3) := by decide +kernel
theorem dX7_beginEnd_59 : decode cX7_beginEnd 59 = .ok (.bipush 8, 2) := by decide +kernel
theorem dX7_beginEnd_61 : decode cX7_beginEnd 61 = .ok (.if_icmp .lt 20, 3) := by decide +kernel
theorem dX7_beginEnd_64 : decode cX7_beginEnd 64 = .ok (.aload_n 0, 1) := by decide +kernel
theorem dX7_beginEnd_65 : decode cX7_beginEnd 65 = .ok (.aload_n 3, 1) := by decide +kernel
theorem dX7_beginEnd_66 : decode cX7_beginEnd 66 = .ok (.getfield 189, 3) := by decide +kernel
theorem dX7_beginEnd_69 : decode cX7_beginEnd 69 = .ok (.aload_n 0, 1) := by decide +kernel
theorem dX7_beginEnd_70 : decode cX7_beginEnd 70 = .ok (.getfield 12, 3) := by decide +kernel
theorem dX7_beginEnd_73 : decode cX7_beginEnd 73 = .ok (.iload_n 1, 1) := by decide +kernel
theorem dX7_beginEnd_74 : decode cX7_beginEnd 74 = .ok (.invokevirtual 192, 3) := by decide +kernel
theorem dX7_beginEnd_77 : decode cX7_beginEnd 77 = .ok (.invokevirtual 195, 3) := by decide +kernel
theorem dX7_beginEnd_80 : decode cX7_beginEnd 80 = .ok (.ireturn, 1) := by decide +kernel
theorem dX7_beginEnd_81 : decode cX7_beginEnd 81 = .ok (.aload_n 3, 1) := by decide +kernel
theorem dX7_beginEnd_82 : decode cX7_beginEnd 82 = .ok (.iload_n 2, 1) := by decide +kernel
theorem dX7_beginEnd_83 : decode cX7_beginEnd 83 = .ok (.invokevirtual 198, 3) := by decide +kernel
theorem dX7_beginEnd_86 : decode cX7_beginEnd 86 = .ok (.aload_n 3, 1) := by decide +kernel
theorem dX7_beginEnd_87 : decode cX7_beginEnd 87 = .ok (.getfield 201, 3) := by decide +kernel
theorem dX7_beginEnd_90 : decode cX7_beginEnd 90 = .ok (.ireturn, 1) := by decide +kernel
theorem dX7_refuseWetRink_0 : decode cX7_refuseWetRink 0 = .ok (.aload_n 0, 1) := by decide +kernel
theorem dX7_refuseWetRink_1 : decode cX7_refuseWetRink 1 = .ok (.getfield 51, 3) := by decide +kernel
theorem dX7_refuseWetRink_4 : decode cX7_refuseWetRink 4 = .ok (.invokevirtual 139, 3) := by decide +kernel
theorem dX7_refuseWetRink_7 : decode cX7_refuseWetRink 7 = .ok (.aload_n 0, 1) := by decide +kernel
theorem dX7_refuseWetRink_8 : decode cX7_refuseWetRink 8 = .ok (.getfield 51, 3) := by decide +kernel
theorem dX7_refuseWetRink_11 : decode cX7_refuseWetRink 11 = .ok (.bipush 13, 2) := by decide +kernel
theorem dX7_refuseWetRink_13 : decode cX7_refuseWetRink 13 = .ok (.iload_n 2, 1) := by decide +kernel
theorem dX7_refuseWetRink_14 : decode cX7_refuseWetRink 14 = .ok (.invokevirtual 142, 3) := by decide +kernel
theorem dX7_refuseWetRink_17 : decode cX7_refuseWetRink 17 = .ok (.aload_n 0, 1) := by decide +kernel
theorem dX7_refuseWetRink_18 : decode cX7_refuseWetRink 18 = .ok (.getfield 51, 3) := by decide +kernel
theorem dX7_refuseWetRink_21 : decode cX7_refuseWetRink 21 = .ok (.iconst 3, 1) := by decide +kernel
theorem dX7_refuseWetRink_22 : decode cX7_refuseWetRink 22 = .ok (.iload_n 1, 1) := by decide +kernel
theorem dX7_refuseWetRink_23 : decode cX7_refuseWetRink 23 = .ok (.invokevirtual 142, 3) := by decide +kernel
theorem dX7_refuseWetRink_26 : decode cX7_refuseWetRink 26 = .ok (.bipush (-3), 2) := by decide +kernel
theorem dX7_refuseWetRink_28 : decode cX7_refuseWetRink 28 = .ok (.ireturn, 1) := by decide +kernel
theorem dX7_bowlWood_0 : decode cX7_bowlWood 0 = .ok (.aload_n 0, 1) := by decide +kernel
theorem dX7_bowlWood_1 : decode cX7_bowlWood 1 = .ok (.getfield 12, 3) := by decide +kernel
theorem dX7_bowlWood_4 : decode cX7_bowlWood 4 = .ok (.iload_n 1, 1) := by decide +kernel
theorem dX7_bowlWood_5 : decode cX7_bowlWood 5 = .ok (.invokevirtual 179, 3) := by decide +kernel
theorem dX7_bowlWood_8 : decode cX7_bowlWood 8 = .ok (.ifCond .eq 14, 3) := by decide +kernel
theorem dX7_bowlWood_11 : decode cX7_bowlWood 11 = .ok (.aload_n 0, 1) := by decide +kernel
theorem dX7_bowlWood_12 : decode cX7_bowlWood 12 = .ok (.getfield 12, 3) := by decide +kernel
theorem dX7_bowlWood_15 : decode cX7_bowlWood 15 = .ok (.iload_n 2, 1) := by decide +kernel
theorem dX7_bowlWood_16 : decode cX7_bowlWood 16 = .ok (.invokevirtual 204, 3) := by decide +kernel
theorem dX7_bowlWood_19 : decode cX7_bowlWood 19 = .ok (.ifCond .ne 5, 3) := by decide +kernel
theorem dX7_bowlWood_22 : decode cX7_bowlWood 22 = .ok (.iconst (-1), 1) := by decide +kernel
theorem dX7_bowlWood_23 : decode cX7_bowlWood 23 = .ok (.ireturn, 1) := by decide +kernel
theorem dX7_bowlWood_24 : decode cX7_bowlWood 24 = .ok (.aload_n 0, 1) := by decide +kernel
theorem dX7_bowlWood_25 : decode cX7_bowlWood 25 = .ok (.getfield 12, 3) := by decide +kernel
theorem dX7_bowlWood_28 : decode cX7_bowlWood 28 = .ok (.getfield 155, 3) := by decide +kernel
theorem dX7_bowlWood_31 : decode cX7_bowlWood 31 = .ok (.iload_n 1, 1) := by decide +kernel
theorem dX7_bowlWood_32 : decode cX7_bowlWood 32 = .ok (.aaload, 1) := by decide +kernel
theorem dX7_bowlWood_33 : decode cX7_bowlWood 33 = .ok (.iload_n 3, 1) := by decide +kernel
theorem dX7_bowlWood_34 : decode cX7_bowlWood 34 = .ok (.invokevirtual 207, 3) := by decide +kernel
theorem dX7_bowlWood_37 : decode cX7_bowlWood 37 = .ok (.ifCond .eq 11, 3) := by decide +kernel
theorem dX7_bowlWood_40 : decode cX7_bowlWood 40 = .ok (.iload 4, 2) := by decide +kernel
theorem dX7_bowlWood_42 : decode cX7_bowlWood 42 = .ok (.invokestatic 210, 3) := by decide +kernel
theorem dX7_bowlWood_45 : decode cX7_bowlWood 45 = .ok (.ifCond .ne 6, 3) := by decide +kernel
theorem dX7_bowlWood_48 : decode cX7_bowlWood 48 = .ok (.bipush (-2), 2) := by decide +kernel
theorem dX7_bowlWood_50 : decode cX7_bowlWood 50 = .ok (.ireturn, 1) := by decide +kernel
theorem dX7_bowlWood_51 : decode cX7_bowlWood 51 = .ok (.aload_n 0, 1) := by decide +kernel
theorem dX7_bowlWood_52 : decode cX7_bowlWood 52 = .ok (.iload_n 1, 1) := by decide +kernel
theorem dX7_bowlWood_53 : decode cX7_bowlWood 53 = .ok (.iload_n 2, 1) := by decide +kernel
theorem dX7_bowlWood_54 : decode cX7_bowlWood 54 = .ok (.invokevirtual 213, 3) := by decide +kernel
theorem dX7_bowlWood_57 : decode cX7_bowlWood 57 = .ok (.ifCond .eq 6, 3) := by decide +kernel
theorem dX7_bowlWood_60 : decode cX7_bowlWood 60 = .ok (.bipush (-3), 2) := by decide +kernel
theorem dX7_bowlWood_62 : decode cX7_bowlWood 62 = .ok (.ireturn, 1) := by decide +kernel
theorem dX7_bowlWood_63 : decode cX7_bowlWood 63 = .ok (.aload_n 0, 1) := by decide +kernel
theorem dX7_bowlWood_64 : decode cX7_bowlWood 64 = .ok (.getfield 12, 3) := by decide +kernel
theorem dX7_bowlWood_67 : decode cX7_bowlWood 67 = .ok (.getfield 155, 3) := by decide +kernel
theorem dX7_bowlWood_70 : decode cX7_bowlWood 70 = .ok (.iload_n 1, 1) := by decide +kernel
theorem dX7_bowlWood_71 : decode cX7_bowlWood 71 = .ok (.aaload, 1) := by decide +kernel
theorem dX7_bowlWood_72 : decode cX7_bowlWood 72 = .ok (.astore 6, 2) := by decide +kernel
theorem dX7_bowlWood_74 : decode cX7_bowlWood 74 = .ok (.aload_n 0, 1) := by decide +kernel
theorem dX7_bowlWood_75 : decode cX7_bowlWood 75 = .ok (.getfield 12, 3) := by decide +kernel
theorem dX7_bowlWood_78 : decode cX7_bowlWood 78 = .ok (.getfield 170, 3) := by decide +kernel
theorem dX7_bowlWood_81 : decode cX7_bowlWood 81 = .ok (.iload_n 2, 1) := by decide +kernel
theorem dX7_bowlWood_82 : decode cX7_bowlWood 82 = .ok (.aaload, 1) := by decide +kernel
theorem dX7_bowlWood_83 : decode cX7_bowlWood 83 = .ok (.astore 7, 2) := by decide +kernel
theorem dX7_bowlWood_85 : decode cX7_bowlWood 85 = .ok (.aload_n 0, 1) := by decide +kernel
theorem dX7_bowlWood_86 : decode cX7_bowlWood 86 = .ok (.getfield 12, 3) := by decide +kernel
theorem dX7_bowlWood_89 : decode cX7_bowlWood 89 = .ok (.iload_n 1, 1) := by decide +kernel
theorem dX7_bowlWood_90 : decode cX7_bowlWood 90 = .ok (.iload_n 2, 1) := by decide +kernel
theorem dX7_bowlWood_91 : decode cX7_bowlWood 91 = .ok (.iload_n 3, 1) := by decide +kernel
theorem dX7_bowlWood_92 : decode cX7_bowlWood 92 = .ok (.iload 4, 2) := by decide +kernel
theorem dX7_bowlWood_94 : decode cX7_bowlWood 94 = .ok (.iload 5, 2) := by decide +kernel
theorem dX7_bowlWood_96 : decode cX7_bowlWood 96 = .ok (.invokevirtual 217, 3) := by decide +kernel
theorem dX7_bowlWood_99 : decode cX7_bowlWood 99 = .ok (.istore 8, 2) := by decide +kernel
theorem dX7_bowlWood_101 : decode cX7_bowlWood 101 = .ok (.aload 6, 2) := by decide +kernel
theorem dX7_bowlWood_103 : decode cX7_bowlWood 103 = .ok (.getfield 220, 3) := by decide +kernel
theorem dX7_bowlWood_106 : decode cX7_bowlWood 106 = .ok (.aload 7, 2) := by decide +kernel
theorem dX7_bowlWood_108 : decode cX7_bowlWood 108 = .ok (.getfield 224, 3) := by decide +kernel
theorem dX7_bowlWood_111 : decode cX7_bowlWood 111 = .ok (.dup2, 1) := by decide +kernel
theorem dX7_bowlWood_112 : decode cX7_bowlWood 112 = .ok (.iaload, 1) := by decide +kernel
theorem dX7_bowlWood_113 : decode cX7_bowlWood 113 = .ok (.iconst 1, 1) := by decide +kernel
theorem dX7_bowlWood_114 : decode cX7_bowlWood 114 = .ok (.iadd, 1) := by decide +kernel
theorem dX7_bowlWood_115 : decode cX7_bowlWood 115 = .ok (.iastore, 1) := by decide +kernel
theorem dX7_bowlWood_116 : decode cX7_bowlWood 116 = .ok (.aload 6, 2) := by decide +kernel
theorem dX7_bowlWood_118 : decode cX7_bowlWood 118 = .ok (.aload 6, 2) := by decide +kernel
theorem dX7_bowlWood_120 : decode cX7_bowlWood 120 = .ok (.getfield 201, 3) := by decide +kernel
theorem dX7_bowlWood_123 : decode cX7_bowlWood 123 = .ok (.invokestatic 227, 3) := by decide +kernel
theorem dX7_bowlWood_126 : decode cX7_bowlWood 126 = .ok (.putfield 201, 3) := by decide +kernel
theorem dX7_bowlWood_129 : decode cX7_bowlWood 129 = .ok (.aload 7, 2) := by decide +kernel
theorem dX7_bowlWood_131 : decode cX7_bowlWood 131 = .ok (.dup, 1) := by decide +kernel
theorem dX7_bowlWood_132 : decode cX7_bowlWood 132 = .ok (.getfield 230, 3) := by decide +kernel
theorem dX7_bowlWood_135 : decode cX7_bowlWood 135 = .ok (.iconst 1, 1) := by decide +kernel
theorem dX7_bowlWood_136 : decode cX7_bowlWood 136 = .ok (.iadd, 1) := by decide +kernel
theorem dX7_bowlWood_137 : decode cX7_bowlWood 137 = .ok (.putfield 230, 3) := by decide +kernel
theorem dX7_bowlWood_140 : decode cX7_bowlWood 140 = .ok (.aload 7, 2) := by decide +kernel
theorem dX7_bowlWood_142 : decode cX7_bowlWood 142 = .ok (.iload_n 1, 1) := by decide +kernel
theorem dX7_bowlWood_143 : decode cX7_bowlWood 143 = .ok (.putfield 232, 3) := by decide +kernel
theorem dX7_bowlWood_146 : decode cX7_bowlWood 146 = .ok (.iload 8, 2) := by decide +kernel
theorem dX7_bowlWood_148 : decode cX7_bowlWood 148 = .ok (.bipush (-4), 2) := by decide +kernel
theorem dX7_bowlWood_150 : decode cX7_bowlWood 150 = .ok (.if_icmp .ne 12, 3) := by decide +kernel
theorem dX7_bowlWood_153 : decode cX7_bowlWood 153 = .ok (.aload 7, 2) := by decide +kernel
theorem dX7_bowlWood_155 : decode cX7_bowlWood 155 = .ok (.iconst 2, 1) := by decide +kernel
theorem dX7_bowlWood_156 : decode cX7_bowlWood 156 = .ok (.putfield 235, 3) := by decide +kernel
theorem dX7_bowlWood_159 : decode cX7_bowlWood 159 = .ok (.bipush (-4), 2) := by decide +kernel
theorem dX7_bowlWood_161 : decode cX7_bowlWood 161 = .ok (.ireturn, 1) := by decide +kernel
theorem dX7_bowlWood_162 : decode cX7_bowlWood 162 = .ok (.aload 7, 2) := by decide +kernel
theorem dX7_bowlWood_164 : decode cX7_bowlWood 164 = .ok (.iconst 1, 1) := by decide +kernel
theorem dX7_bowlWood_165 : decode cX7_bowlWood 165 = .ok (.putfield 235, 3) := by decide +kernel
theorem dX7_bowlWood_168 : decode cX7_bowlWood 168 = .ok (.aload 7, 2) := by decide +kernel
theorem dX7_bowlWood_170 : decode cX7_bowlWood 170 = .ok (.iload 8, 2) := by decide +kernel
theorem dX7_bowlWood_172 : decode cX7_bowlWood 172 = .ok (.bipush 100, 2) := by decide +kernel
theorem dX7_bowlWood_174 : decode cX7_bowlWood 174 = .ok (.idiv, 1) := by decide +kernel
theorem dX7_bowlWood_175 : decode cX7_bowlWood 175 = .ok (.putfield 238, 3) := by decide +kernel
theorem dX7_bowlWood_178 : decode cX7_bowlWood 178 = .ok (.aload 7, 2) := by decide +kernel
theorem dX7_bowlWood_180 : decode cX7_bowlWood 180 = .ok (.iload 8, 2) := by decide +kernel
theorem dX7_bowlWood_182 : decode cX7_bowlWood 182 = .ok (.bipush 100, 2) := by decide +kernel
theorem dX7_bowlWood_184 : decode cX7_bowlWood 184 = .ok (.irem, 1) := by decide +kernel
theorem dX7_bowlWood_185 : decode cX7_bowlWood 185 = .ok (.putfield 241, 3) := by decide +kernel
theorem dX7_bowlWood_188 : decode cX7_bowlWood 188 = .ok (.aload 7, 2) := by decide +kernel
theorem dX7_bowlWood_190 : decode cX7_bowlWood 190 = .ok (.aload 6, 2) := by decide +kernel
end
section
theorem dX7_bowlWood_192 : decode cX7_bowlWood 192 = .ok (.aload 7, 2) := by decide +kernel
theorem dX7_bowlWood_194 : decode cX7_bowlWood 194 = .ok (.getfield 238, 3) := by decide +kernel
theorem dX7_bowlWood_197 : decode cX7_bowlWood 197 = .ok (.aload 7, 2) := by decide +kernel
theorem dX7_bowlWood_199 : decode cX7_bowlWood 199 = .ok (.getfield 241, 3) := by decide +kernel
theorem dX7_bowlWood_202 : decode cX7_bowlWood 202 = .ok (.invokevirtual 243, 3) := by decide +kernel
theorem dX7_bowlWood_205 : decode cX7_bowlWood 205 = .ok (.putfield 246, 3) := by decide +kernel
theorem dX7_bowlWood_208 : decode cX7_bowlWood 208 = .ok (.aload 7, 2) := by decide +kernel
theorem dX7_bowlWood_210 : decode cX7_bowlWood 210 = .ok (.getfield 246, 3) := by decide +kernel
theorem dX7_bowlWood_213 : decode cX7_bowlWood 213 = .ok (.ireturn, 1) := by decide +kernel
theorem dX7_isBowlRefused_0 : decode cX7_isBowlRefused 0 = .ok (.aload_n 0, 1) := by decide +kernel
theorem dX7_isBowlRefused_1 : decode cX7_isBowlRefused 1 = .ok (.getfield 12, 3) := by decide +kernel
theorem dX7_isBowlRefused_4 : decode cX7_isBowlRefused 4 = .ok (.getfield 155, 3) := by decide +kernel
theorem dX7_isBowlRefused_7 : decode cX7_isBowlRefused 7 = .ok (.iload_n 1, 1) := by decide +kernel
theorem dX7_isBowlRefused_8 : decode cX7_isBowlRefused 8 = .ok (.aaload, 1) := by decide +kernel
theorem dX7_isBowlRefused_9 : decode cX7_isBowlRefused 9 = .ok (.astore_n 3, 1) := by decide +kernel
theorem dX7_isBowlRefused_10 : decode cX7_isBowlRefused 10 = .ok (.aload_n 0, 1) := by decide +kernel
theorem dX7_isBowlRefused_11 : decode cX7_isBowlRefused 11 = .ok (.getfield 12, 3) := by decide +kernel
theorem dX7_isBowlRefused_14 : decode cX7_isBowlRefused 14 = .ok (.getfield 170, 3) := by decide +kernel
theorem dX7_isBowlRefused_17 : decode cX7_isBowlRefused 17 = .ok (.iload_n 2, 1) := by decide +kernel
theorem dX7_isBowlRefused_18 : decode cX7_isBowlRefused 18 = .ok (.aaload, 1) := by decide +kernel
theorem dX7_isBowlRefused_19 : decode cX7_isBowlRefused 19 = .ok (.astore 4, 2) := by decide +kernel
theorem dX7_isBowlRefused_21 : decode cX7_isBowlRefused 21 = .ok (.iconst 0, 1) := by decide +kernel
theorem dX7_isBowlRefused_22 : decode cX7_isBowlRefused 22 = .ok (.istore 5, 2) := by decide +kernel
theorem dX7_isBowlRefused_24 : decode cX7_isBowlRefused 24 = .ok (.aload_n 3, 1) := by decide +kernel
theorem dX7_isBowlRefused_25 : decode cX7_isBowlRefused 25 = .ok (.invokevirtual 182, 3) := by decide +kernel
theorem dX7_isBowlRefused_28 : decode cX7_isBowlRefused 28 = .ok (.ifCond .ne 14, 3) := by decide +kernel
theorem dX7_isBowlRefused_31 : decode cX7_isBowlRefused 31 = .ok (.aload_n 0, 1) := by decide +kernel
theorem dX7_isBowlRefused_32 : decode cX7_isBowlRefused 32 = .ok (.iconst 5, 1) := by decide +kernel
theorem dX7_isBowlRefused_33 : decode cX7_isBowlRefused 33 = .ok (.iload_n 1, 1) := by decide +kernel
theorem dX7_isBowlRefused_34 : decode cX7_isBowlRefused 34 = .ok (.invokevirtual 149, 3) := by decide +kernel
theorem dX7_isBowlRefused_37 : decode cX7_isBowlRefused 37 = .ok (.istore 5, 2) := by decide +kernel
theorem dX7_isBowlRefused_39 : decode cX7_isBowlRefused 39 = .ok (.goto 77, 3) := by decide +kernel
theorem dX7_isBowlRefused_42 : decode cX7_isBowlRefused 42 = .ok (.aload 4, 2) := by decide +kernel
theorem dX7_isBowlRefused_44 : decode cX7_isBowlRefused 44 = .ok (.getfield 235, 3) := by decide +kernel
theorem dX7_isBowlRefused_47 : decode cX7_isBowlRefused 47 = .ok (.ifCond .eq 19, 3) := by decide +kernel
theorem dX7_isBowlRefused_50 : decode cX7_isBowlRefused 50 = .ok (.aload_n 0, 1) := by decide +kernel
theorem dX7_isBowlRefused_51 : decode cX7_isBowlRefused 51 = .ok (.bipush 7, 2) := by decide +kernel
theorem dX7_isBowlRefused_53 : decode cX7_isBowlRefused 53 = .ok (.aload 4, 2) := by decide +kernel
theorem dX7_isBowlRefused_55 : decode cX7_isBowlRefused 55 = .ok (.getfield 232, 3) := by decide +kernel
theorem dX7_isBowlRefused_58 : decode cX7_isBowlRefused 58 = .ok (.invokevirtual 149, 3) := by decide +kernel
theorem dX7_isBowlRefused_61 : decode cX7_isBowlRefused 61 = .ok (.istore 5, 2) := by decide +kernel
theorem dX7_isBowlRefused_63 : decode cX7_isBowlRefused 63 = .ok (.goto 53, 3) := by decide +kernel
theorem dX7_isBowlRefused_66 : decode cX7_isBowlRefused 66 = .ok (.aload_n 3, 1) := by decide +kernel
theorem dX7_isBowlRefused_67 : decode cX7_isBowlRefused 67 = .ok (.getfield 220, 3) := by decide +kernel
theorem dX7_isBowlRefused_70 : decode cX7_isBowlRefused 70 = .ok (.aload 4, 2) := by decide +kernel
theorem dX7_isBowlRefused_72 : decode cX7_isBowlRefused 72 = .ok (.getfield 224, 3) := by decide +kernel
theorem dX7_isBowlRefused_75 : decode cX7_isBowlRefused 75 = .ok (.iaload, 1) := by decide +kernel
theorem dX7_isBowlRefused_76 : decode cX7_isBowlRefused 76 = .ok (.iconst 4, 1) := by decide +kernel
theorem dX7_isBowlRefused_77 : decode cX7_isBowlRefused 77 = .ok (.if_icmp .lt 15, 3) := by decide +kernel
theorem dX7_isBowlRefused_80 : decode cX7_isBowlRefused 80 = .ok (.aload_n 0, 1) := by decide +kernel
theorem dX7_isBowlRefused_81 : decode cX7_isBowlRefused 81 = .ok (.bipush 8, 2) := by decide +kernel
theorem dX7_isBowlRefused_83 : decode cX7_isBowlRefused 83 = .ok (.iconst 4, 1) := by decide +kernel
theorem dX7_isBowlRefused_84 : decode cX7_isBowlRefused 84 = .ok (.invokevirtual 149, 3) := by decide +kernel
theorem dX7_isBowlRefused_87 : decode cX7_isBowlRefused 87 = .ok (.istore 5, 2) := by decide +kernel
theorem dX7_isBowlRefused_89 : decode cX7_isBowlRefused 89 = .ok (.goto 27, 3) := by decide +kernel
theorem dX7_isBowlRefused_92 : decode cX7_isBowlRefused 92 = .ok (.aload_n 3, 1) := by decide +kernel
theorem dX7_isBowlRefused_93 : decode cX7_isBowlRefused 93 = .ok (.getfield 201, 3) := by decide +kernel
theorem dX7_isBowlRefused_96 : decode cX7_isBowlRefused 96 = .ok (.aload 4, 2) := by decide +kernel
theorem dX7_isBowlRefused_98 : decode cX7_isBowlRefused 98 = .ok (.getfield 224, 3) := by decide +kernel
theorem dX7_isBowlRefused_101 : decode cX7_isBowlRefused 101 = .ok (.if_icmp .eq 15, 3) := by decide +kernel
theorem dX7_isBowlRefused_104 : decode cX7_isBowlRefused 104 = .ok (.aload_n 0, 1) := by decide +kernel
theorem dX7_isBowlRefused_105 : decode cX7_isBowlRefused 105 = .ok (.bipush 6, 2) := by decide +kernel
theorem dX7_isBowlRefused_107 : decode cX7_isBowlRefused 107 = .ok (.aload_n 3, 1) := by decide +kernel
theorem dX7_isBowlRefused_108 : decode cX7_isBowlRefused 108 = .ok (.getfield 201, 3) := by decide +kernel
theorem dX7_isBowlRefused_111 : decode cX7_isBowlRefused 111 = .ok (.invokevirtual 149, 3) := by decide +kernel
theorem dX7_isBowlRefused_114 : decode cX7_isBowlRefused 114 = .ok (.istore 5, 2) := by decide +kernel
theorem dX7_isBowlRefused_116 : decode cX7_isBowlRefused 116 = .ok (.iload 5, 2) := by decide +kernel
theorem dX7_isBowlRefused_118 : decode cX7_isBowlRefused 118 = .ok (.bipush (-3), 2) := by decide +kernel
theorem dX7_isBowlRefused_120 : decode cX7_isBowlRefused 120 = .ok (.if_icmp .ne 7, 3) := by decide +kernel
theorem dX7_isBowlRefused_123 : decode cX7_isBowlRefused 123 = .ok (.iconst 1, 1) := by decide +kernel
theorem dX7_isBowlRefused_124 : decode cX7_isBowlRefused 124 = .ok (.goto 4, 3) := by decide +kernel
theorem dX7_isBowlRefused_127 : decode cX7_isBowlRefused 127 = .ok (.iconst 0, 1) := by decide +kernel
theorem dX7_isBowlRefused_128 : decode cX7_isBowlRefused 128 = .ok (.ireturn, 1) := by decide +kernel
theorem dX7_closeEnd_0 : decode cX7_closeEnd 0 = .ok (.aload_n 0, 1) := by decide +kernel
theorem dX7_closeEnd_1 : decode cX7_closeEnd 1 = .ok (.getfield 12, 3) := by decide +kernel
theorem dX7_closeEnd_4 : decode cX7_closeEnd 4 = .ok (.iload_n 1, 1) := by decide +kernel
theorem dX7_closeEnd_5 : decode cX7_closeEnd 5 = .ok (.invokevirtual 179, 3) := by decide +kernel
theorem dX7_closeEnd_8 : decode cX7_closeEnd 8 = .ok (.ifCond .ne 5, 3) := by decide +kernel
theorem dX7_closeEnd_11 : decode cX7_closeEnd 11 = .ok (.iconst (-1), 1) := by decide +kernel
theorem dX7_closeEnd_12 : decode cX7_closeEnd 12 = .ok (.ireturn, 1) := by decide +kernel
theorem dX7_closeEnd_13 : decode cX7_closeEnd 13 = .ok (.aload_n 0, 1) := by decide +kernel
theorem dX7_closeEnd_14 : decode cX7_closeEnd 14 = .ok (.getfield 12, 3) := by decide +kernel
theorem dX7_closeEnd_17 : decode cX7_closeEnd 17 = .ok (.getfield 155, 3) := by decide +kernel
theorem dX7_closeEnd_20 : decode cX7_closeEnd 20 = .ok (.iload_n 1, 1) := by decide +kernel
theorem dX7_closeEnd_21 : decode cX7_closeEnd 21 = .ok (.aaload, 1) := by decide +kernel
theorem dX7_closeEnd_22 : decode cX7_closeEnd 22 = .ok (.astore_n 2, 1) := by decide +kernel
theorem dX7_closeEnd_23 : decode cX7_closeEnd 23 = .ok (.aload_n 2, 1) := by decide +kernel
theorem dX7_closeEnd_24 : decode cX7_closeEnd 24 = .ok (.invokevirtual 182, 3) := by decide +kernel
theorem dX7_closeEnd_27 : decode cX7_closeEnd 27 = .ok (.ifCond .ne 10, 3) := by decide +kernel
theorem dX7_closeEnd_30 : decode cX7_closeEnd 30 = .ok (.aload_n 0, 1) := by decide +kernel
theorem dX7_closeEnd_31 : decode cX7_closeEnd 31 = .ok (.iconst 5, 1) := by decide +kernel
theorem dX7_closeEnd_32 : decode cX7_closeEnd 32 = .ok (.iload_n 1, 1) := by decide +kernel
theorem dX7_closeEnd_33 : decode cX7_closeEnd 33 = .ok (.invokevirtual 149, 3) := by decide +kernel
theorem dX7_closeEnd_36 : decode cX7_closeEnd 36 = .ok (.ireturn, 1) := by decide +kernel
theorem dX7_closeEnd_37 : decode cX7_closeEnd 37 = .ok (.aload_n 0, 1) := by decide +kernel
theorem dX7_closeEnd_38 : decode cX7_closeEnd 38 = .ok (.getfield 12, 3) := by decide +kernel
theorem dX7_closeEnd_41 : decode cX7_closeEnd 41 = .ok (.iload_n 1, 1) := by decide +kernel
theorem dX7_closeEnd_42 : decode cX7_closeEnd 42 = .ok (.invokevirtual 248, 3) := by decide +kernel
theorem dX7_closeEnd_45 : decode cX7_closeEnd 45 = .ok (.istore_n 3, 1) := by decide +kernel
theorem dX7_closeEnd_46 : decode cX7_closeEnd 46 = .ok (.iload_n 3, 1) := by decide +kernel
theorem dX7_closeEnd_47 : decode cX7_closeEnd 47 = .ok (.ifCond .le 63, 3) := by decide +kernel
theorem dX7_closeEnd_50 : decode cX7_closeEnd 50 = .ok (.iload_n 3, 1) := by decide +kernel
theorem dX7_closeEnd_51 : decode cX7_closeEnd 51 = .ok (.bipush 10, 2) := by decide +kernel
theorem dX7_closeEnd_53 : decode cX7_closeEnd 53 = .ok (.if_icmp .le 7, 3) := by decide +kernel
theorem dX7_closeEnd_56 : decode cX7_closeEnd 56 = .ok (.iconst 1, 1) := by decide +kernel
theorem dX7_closeEnd_57 : decode cX7_closeEnd 57 = .ok (.goto 4, 3) := by decide +kernel
theorem dX7_closeEnd_60 : decode cX7_closeEnd 60 = .ok (.iconst 0, 1) := by decide +kernel
theorem dX7_closeEnd_61 : decode cX7_closeEnd 61 = .ok (.istore 4, 2) := by decide +kernel
theorem dX7_closeEnd_63 : decode cX7_closeEnd 63 = .ok (.aload_n 0, 1) := by decide +kernel
theorem dX7_closeEnd_64 : decode cX7_closeEnd 64 = .ok (.getfield 12, 3) := by decide +kernel
theorem dX7_closeEnd_67 : decode cX7_closeEnd 67 = .ok (.getfield 251, 3) := by decide +kernel
theorem dX7_closeEnd_70 : decode cX7_closeEnd 70 = .ok (.iload 4, 2) := by decide +kernel
theorem dX7_closeEnd_72 : decode cX7_closeEnd 72 = .ok (.aaload, 1) := by decide +kernel
theorem dX7_closeEnd_73 : decode cX7_closeEnd 73 = .ok (.dup, 1) := by decide +kernel
theorem dX7_closeEnd_74 : decode cX7_closeEnd 74 = .ok (.getfield 255, 3) := by decide +kernel
theorem dX7_closeEnd_77 : decode cX7_closeEnd 77 = .ok (.iload_n 3, 1) := by decide +kernel
theorem dX7_closeEnd_78 : decode cX7_closeEnd 78 = .ok (.bipush 10, 2) := by decide +kernel
theorem dX7_closeEnd_80 : decode cX7_closeEnd 80 = .ok (.irem, 1) := by decide +kernel
theorem dX7_closeEnd_81 : decode cX7_closeEnd 81 = .ok (.iadd, 1) := by decide +kernel
theorem dX7_closeEnd_82 : decode cX7_closeEnd 82 = .ok (.putfield 255, 3) := by decide +kernel
theorem dX7_closeEnd_85 : decode cX7_closeEnd 85 = .ok (.aload_n 0, 1) := by decide +kernel
theorem dX7_closeEnd_86 : decode cX7_closeEnd 86 = .ok (.getfield 12, 3) := by decide +kernel
theorem dX7_closeEnd_89 : decode cX7_closeEnd 89 = .ok (.getfield 251, 3) := by decide +kernel
theorem dX7_closeEnd_92 : decode cX7_closeEnd 92 = .ok (.iload 4, 2) := by decide +kernel
theorem dX7_closeEnd_94 : decode cX7_closeEnd 94 = .ok (.aaload, 1) := by decide +kernel
theorem dX7_closeEnd_95 : decode cX7_closeEnd 95 = .ok (.dup, 1) := by decide +kernel
theorem dX7_closeEnd_96 : decode cX7_closeEnd 96 = .ok (.getfield 260, 3) := by decide +kernel
theorem dX7_closeEnd_99 : decode cX7_closeEnd 99 = .ok (.iconst 1, 1) := by decide +kernel
theorem dX7_closeEnd_100 : decode cX7_closeEnd 100 = .ok (.iadd, 1) := by decide +kernel
theorem dX7_closeEnd_101 : decode cX7_closeEnd 101 = .ok (.putfield 260, 3) := by decide +kernel
theorem dX7_closeEnd_104 : decode cX7_closeEnd 104 = .ok (.aload_n 2, 1) := by decide +kernel
theorem dX7_closeEnd_105 : decode cX7_closeEnd 105 = .ok (.iload 4, 2) := by decide +kernel
theorem dX7_closeEnd_107 : decode cX7_closeEnd 107 = .ok (.putfield 263, 3) := by decide +kernel
theorem dX7_closeEnd_110 : decode cX7_closeEnd 110 = .ok (.aload_n 2, 1) := by decide +kernel
theorem dX7_closeEnd_111 : decode cX7_closeEnd 111 = .ok (.invokevirtual 266, 3) := by decide +kernel
theorem dX7_closeEnd_114 : decode cX7_closeEnd 114 = .ok (.aload_n 0, 1) := by decide +kernel
theorem dX7_closeEnd_115 : decode cX7_closeEnd 115 = .ok (.getfield 12, 3) := by decide +kernel
theorem dX7_closeEnd_118 : decode cX7_closeEnd 118 = .ok (.iload_n 1, 1) := by decide +kernel
theorem dX7_closeEnd_119 : decode cX7_closeEnd 119 = .ok (.invokevirtual 269, 3) := by decide +kernel
theorem dX7_closeEnd_122 : decode cX7_closeEnd 122 = .ok (.iload_n 3, 1) := by decide +kernel
theorem dX7_closeEnd_123 : decode cX7_closeEnd 123 = .ok (.ireturn, 1) := by decide +kernel
theorem dX7_sweepRink_0 : decode cX7_sweepRink 0 = .ok (.aload_n 0, 1) := by decide +kernel
theorem dX7_sweepRink_1 : decode cX7_sweepRink 1 = .ok (.getfield 12, 3) := by decide +kernel
theorem dX7_sweepRink_4 : decode cX7_sweepRink 4 = .ok (.iload_n 1, 1) := by decide +kernel
theorem dX7_sweepRink_5 : decode cX7_sweepRink 5 = .ok (.invokevirtual 179, 3) := by decide +kernel
theorem dX7_sweepRink_8 : decode cX7_sweepRink 8 = .ok (.ifCond .ne 5, 3) := by decide +kernel
theorem dX7_sweepRink_11 : decode cX7_sweepRink 11 = .ok (.iconst (-1), 1) := by decide +kernel
theorem dX7_sweepRink_12 : decode cX7_sweepRink 12 = .ok (.ireturn, 1) := by decide +kernel
theorem dX7_sweepRink_13 : decode cX7_sweepRink 13 = .ok (.aload_n 0, 1) := by decide +kernel
theorem dX7_sweepRink_14 : decode cX7_sweepRink 14 = .ok (.getfield 12, 3) := by decide +kernel
theorem dX7_sweepRink_17 : decode cX7_sweepRink 17 = .ok (.getfield 155, 3) := by decide +kernel
theorem dX7_sweepRink_20 : decode cX7_sweepRink 20 = .ok (.iload_n 1, 1) := by decide +kernel
theorem dX7_sweepRink_21 : decode cX7_sweepRink 21 = .ok (.aaload, 1) := by decide +kernel
theorem dX7_sweepRink_22 : decode cX7_sweepRink 22 = .ok (.getfield 272, 3) := by decide +kernel
theorem dX7_sweepRink_25 : decode cX7_sweepRink 25 = .ok (.istore_n 2, 1) := by decide +kernel
theorem dX7_sweepRink_26 : decode cX7_sweepRink 26 = .ok (.iload_n 2, 1) := by decide +kernel
theorem dX7_sweepRink_27 : decode cX7_sweepRink 27 = .ok (.ifCond .ne 11, 3) := by decide +kernel
theorem dX7_sweepRink_30 : decode cX7_sweepRink 30 = .ok (.aload_n 0, 1) := by decide +kernel
theorem dX7_sweepRink_31 : decode cX7_sweepRink 31 = .ok (.bipush 9, 2) := by decide +kernel
theorem dX7_sweepRink_33 : decode cX7_sweepRink 33 = .ok (.iload_n 1, 1) := by decide +kernel
theorem dX7_sweepRink_34 : decode cX7_sweepRink 34 = .ok (.invokevirtual 149, 3) := by decide +kernel
theorem dX7_sweepRink_37 : decode cX7_sweepRink 37 = .ok (.ireturn, 1) := by decide +kernel
theorem dX7_sweepRink_38 : decode cX7_sweepRink 38 = .ok (.iload_n 2, 1) := by decide +kernel
theorem dX7_sweepRink_39 : decode cX7_sweepRink 39 = .ok (.iconst 3, 1) := by decide +kernel
theorem dX7_sweepRink_40 : decode cX7_sweepRink 40 = .ok (.iadd, 1) := by decide +kernel
theorem dX7_sweepRink_41 : decode cX7_sweepRink 41 = .ok (.iconst 1, 1) := by decide +kernel
theorem dX7_sweepRink_42 : decode cX7_sweepRink 42 = .ok (.isub, 1) := by decide +kernel
theorem dX7_sweepRink_43 : decode cX7_sweepRink 43 = .ok (.iconst 3, 1) := by decide +kernel
theorem dX7_sweepRink_44 : decode cX7_sweepRink 44 = .ok (.idiv, 1) := by decide +kernel
theorem dX7_sweepRink_45 : decode cX7_sweepRink 45 = .ok (.istore_n 3, 1) := by decide +kernel
theorem dX7_sweepRink_46 : decode cX7_sweepRink 46 = .ok (.iload_n 3, 1) := by decide +kernel
theorem dX7_sweepRink_47 : decode cX7_sweepRink 47 = .ok (.aload_n 0, 1) := by decide +kernel
theorem dX7_sweepRink_48 : decode cX7_sweepRink 48 = .ok (.getfield 12, 3) := by decide +kernel
theorem dX7_sweepRink_51 : decode cX7_sweepRink 51 = .ok (.getfield 275, 3) := by decide +kernel
theorem dX7_sweepRink_54 : decode cX7_sweepRink 54 = .ok (.if_icmp .le 19, 3) := by decide +kernel
theorem dX7_sweepRink_57 : decode cX7_sweepRink 57 = .ok (.aload_n 0, 1) := by decide +kernel
theorem dX7_sweepRink_58 : decode cX7_sweepRink 58 = .ok (.bipush 10, 2) := by decide +kernel
theorem dX7_sweepRink_60 : decode cX7_sweepRink 60 = .ok (.iload_n 3, 1) := by decide +kernel
theorem dX7_sweepRink_61 : decode cX7_sweepRink 61 = .ok (.aload_n 0, 1) := by decide +kernel
theorem dX7_sweepRink_62 : decode cX7_sweepRink 62 = .ok (.getfield 12, 3) := by decide +kernel
theorem dX7_sweepRink_65 : decode cX7_sweepRink 65 = .ok (.getfield 275, 3) := by decide +kernel
theorem dX7_sweepRink_68 : decode cX7_sweepRink 68 = .ok (.isub, 1) := by decide +kernel
theorem dX7_sweepRink_69 : decode cX7_sweepRink 69 = .ok (.invokevirtual 149, 3) := by decide +kernel
theorem dX7_sweepRink_72 : decode cX7_sweepRink 72 = .ok (.ireturn, 1) := by decide +kernel
theorem dX7_sweepRink_73 : decode cX7_sweepRink 73 = .ok (.aload_n 0, 1) := by decide +kernel
theorem dX7_sweepRink_74 : decode cX7_sweepRink 74 = .ok (.getfield 12, 3) := by decide +kernel
theorem dX7_sweepRink_77 : decode cX7_sweepRink 77 = .ok (.iload_n 3, 1) := by decide +kernel
theorem dX7_sweepRink_78 : decode cX7_sweepRink 78 = .ok (.invokevirtual 278, 3) := by decide +kernel
theorem dX7_sweepRink_81 : decode cX7_sweepRink 81 = .ok (.aload_n 0, 1) := by decide +kernel
theorem dX7_sweepRink_82 : decode cX7_sweepRink 82 = .ok (.getfield 12, 3) := by decide +kernel
theorem dX7_sweepRink_85 : decode cX7_sweepRink 85 = .ok (.getfield 155, 3) := by decide +kernel
theorem dX7_sweepRink_88 : decode cX7_sweepRink 88 = .ok (.iload_n 1, 1) := by decide +kernel
theorem dX7_sweepRink_89 : decode cX7_sweepRink 89 = .ok (.aaload, 1) := by decide +kernel
theorem dX7_sweepRink_90 : decode cX7_sweepRink 90 = .ok (.iconst 0, 1) := by decide +kernel
theorem dX7_sweepRink_91 : decode cX7_sweepRink 91 = .ok (.putfield 272, 3) := by decide +kernel
theorem dX7_sweepRink_94 : decode cX7_sweepRink 94 = .ok (.aload_n 0, 1) := by decide +kernel
theorem dX7_sweepRink_95 : decode cX7_sweepRink 95 = .ok (.getfield 12, 3) := by decide +kernel
theorem dX7_sweepRink_98 : decode cX7_sweepRink 98 = .ok (.dup, 1) := by decide +kernel
theorem dX7_sweepRink_99 : decode cX7_sweepRink 99 = .ok (.getfield 281, 3) := by decide +kernel
theorem dX7_sweepRink_102 : decode cX7_sweepRink 102 = .ok (.iload_n 2, 1) := by decide +kernel
theorem dX7_sweepRink_103 : decode cX7_sweepRink 103 = .ok (.iadd, 1) := by decide +kernel
theorem dX7_sweepRink_104 : decode cX7_sweepRink 104 = .ok (.putfield 281, 3) := by decide +kernel
theorem dX7_sweepRink_107 : decode cX7_sweepRink 107 = .ok (.iload_n 2, 1) := by decide +kernel
theorem dX7_sweepRink_108 : decode cX7_sweepRink 108 = .ok (.ireturn, 1) := by decide +kernel
theorem dX7_setRain_0 : decode cX7_setRain 0 = .ok (.iload_n 1, 1) := by decide +kernel
theorem dX7_setRain_1 : decode cX7_setRain 1 = .ok (.invokestatic 284, 3) := by decide +kernel
theorem dX7_setRain_4 : decode cX7_setRain 4 = .ok (.ifCond .ne 6, 3) := by decide +kernel
theorem dX7_setRain_7 : decode cX7_setRain 7 = .ok (.bipush (-2), 2) := by decide +kernel
theorem dX7_setRain_9 : decode cX7_setRain 9 = .ok (.ireturn, 1) := by decide +kernel
theorem dX7_setRain_10 : decode cX7_setRain 10 = .ok (.aload_n 0, 1) := by decide +kernel
theorem dX7_setRain_11 : decode cX7_setRain 11 = .ok (.getfield 12, 3) := by decide +kernel
theorem dX7_setRain_14 : decode cX7_setRain 14 = .ok (.getfield 287, 3) := by decide +kernel
theorem dX7_setRain_17 : decode cX7_setRain 17 = .ok (.istore_n 2, 1) := by decide +kernel
theorem dX7_setRain_18 : decode cX7_setRain 18 = .ok (.aload_n 0, 1) := by decide +kernel
theorem dX7_setRain_19 : decode cX7_setRain 19 = .ok (.getfield 12, 3) := by decide +kernel
theorem dX7_setRain_22 : decode cX7_setRain 22 = .ok (.iload_n 1, 1) := by decide +kernel
theorem dX7_setRain_23 : decode cX7_setRain 23 = .ok (.putfield 287, 3) := by decide +kernel
theorem dX7_setRain_26 : decode cX7_setRain 26 = .ok (.iload_n 2, 1) := by decide +kernel
theorem dX7_setRain_27 : decode cX7_setRain 27 = .ok (.ireturn, 1) := by decide +kernel
theorem dX7_setSun_0 : decode cX7_setSun 0 = .ok (.iload_n 1, 1) := by decide +kernel
theorem dX7_setSun_1 : decode cX7_setSun 1 = .ok (.invokestatic 284, 3) := by decide +kernel
theorem dX7_setSun_4 : decode cX7_setSun 4 = .ok (.ifCond .ne 6, 3) := by decide +kernel
theorem dX7_setSun_7 : decode cX7_setSun 7 = .ok (.bipush (-2), 2) := by decide +kernel
theorem dX7_setSun_9 : decode cX7_setSun 9 = .ok (.ireturn, 1) := by decide +kernel
theorem dX7_setSun_10 : decode cX7_setSun 10 = .ok (.aload_n 0, 1) := by decide +kernel
theorem dX7_setSun_11 : decode cX7_setSun 11 = .ok (.getfield 12, 3) := by decide +kernel
theorem dX7_setSun_14 : decode cX7_setSun 14 = .ok (.getfield 290, 3) := by decide +kernel
theorem dX7_setSun_17 : decode cX7_setSun 17 = .ok (.istore_n 2, 1) := by decide +kernel
theorem dX7_setSun_18 : decode cX7_setSun 18 = .ok (.aload_n 0, 1) := by decide +kernel
theorem dX7_setSun_19 : decode cX7_setSun 19 = .ok (.getfield 12, 3) := by decide +kernel
theorem dX7_setSun_22 : decode cX7_setSun 22 = .ok (.iload_n 1, 1) := by decide +kernel
theorem dX7_setSun_23 : decode cX7_setSun 23 = .ok (.putfield 290, 3) := by decide +kernel
theorem dX7_setSun_26 : decode cX7_setSun 26 = .ok (.iload_n 2, 1) := by decide +kernel
theorem dX7_setSun_27 : decode cX7_setSun 27 = .ok (.ireturn, 1) := by decide +kernel
theorem dX7_brewCups_0 : decode cX7_brewCups 0 = .ok (.iload_n 1, 1) := by decide +kernel
theorem dX7_brewCups_1 : decode cX7_brewCups 1 = .ok (.iconst 1, 1) := by decide +kernel
theorem dX7_brewCups_2 : decode cX7_brewCups 2 = .ok (.if_icmp .lt 9, 3) := by decide +kernel
theorem dX7_brewCups_5 : decode cX7_brewCups 5 = .ok (.iload_n 1, 1) := by decide +kernel
theorem dX7_brewCups_6 : decode cX7_brewCups 6 = .ok (.bipush 20, 2) := by decide +kernel
theorem dX7_brewCups_8 : decode cX7_brewCups 8 = .ok (.if_icmp .le 6, 3) := by decide +kernel
theorem dX7_brewCups_11 : decode cX7_brewCups 11 = .ok (.bipush (-2), 2) := by decide +kernel
theorem dX7_brewCups_13 : decode cX7_brewCups 13 = .ok (.ireturn, 1) := by decide +kernel
theorem dX7_brewCups_14 : decode cX7_brewCups 14 = .ok (.aload_n 0, 1) := by decide +kernel
theorem dX7_brewCups_15 : decode cX7_brewCups 15 = .ok (.getfield 12, 3) := by decide +kernel
theorem dX7_brewCups_18 : decode cX7_brewCups 18 = .ok (.bipush 40, 2) := by decide +kernel
theorem dX7_brewCups_20 : decode cX7_brewCups 20 = .ok (.aload_n 0, 1) := by decide +kernel
theorem dX7_brewCups_21 : decode cX7_brewCups 21 = .ok (.getfield 12, 3) := by decide +kernel
theorem dX7_brewCups_24 : decode cX7_brewCups 24 = .ok (.getfield 275, 3) := by decide +kernel
theorem dX7_brewCups_27 : decode cX7_brewCups 27 = .ok (.iload_n 1, 1) := by decide +kernel
theorem dX7_brewCups_28 : decode cX7_brewCups 28 = .ok (.iadd, 1) := by decide +kernel
theorem dX7_brewCups_29 : decode cX7_brewCups 29 = .ok (.invokestatic 293, 3) := by decide +kernel
theorem dX7_brewCups_32 : decode cX7_brewCups 32 = .ok (.putfield 275, 3) := by decide +kernel
theorem dX7_brewCups_35 : decode cX7_brewCups 35 = .ok (.aload_n 0, 1) := by decide +kernel
theorem dX7_brewCups_36 : decode cX7_brewCups 36 = .ok (.getfield 12, 3) := by decide +kernel
theorem dX7_brewCups_39 : decode cX7_brewCups 39 = .ok (.getfield 275, 3) := by decide +kernel
theorem dX7_brewCups_42 : decode cX7_brewCups 42 = .ok (.ireturn, 1) := by decide +kernel
theorem dX7_giveTea_0 : decode cX7_giveTea 0 = .ok (.iload_n 1, 1) := by decide +kernel
theorem dX7_giveTea_1 : decode cX7_giveTea 1 = .ok (.invokestatic 164, 3) := by decide +kernel
theorem dX7_giveTea_4 : decode cX7_giveTea 4 = .ok (.ifCond .ne 5, 3) := by decide +kernel
theorem dX7_giveTea_7 : decode cX7_giveTea 7 = .ok (.iconst (-1), 1) := by decide +kernel
theorem dX7_giveTea_8 : decode cX7_giveTea 8 = .ok (.ireturn, 1) := by decide +kernel
theorem dX7_giveTea_9 : decode cX7_giveTea 9 = .ok (.aload_n 0, 1) := by decide +kernel
theorem dX7_giveTea_10 : decode cX7_giveTea 10 = .ok (.getfield 12, 3) := by decide +kernel
theorem dX7_giveTea_13 : decode cX7_giveTea 13 = .ok (.getfield 275, 3) := by decide +kernel
theorem dX7_giveTea_16 : decode cX7_giveTea 16 = .ok (.iconst 1, 1) := by decide +kernel
theorem dX7_giveTea_17 : decode cX7_giveTea 17 = .ok (.if_icmp .ge 19, 3) := by decide +kernel
theorem dX7_giveTea_20 : decode cX7_giveTea 20 = .ok (.aload_n 0, 1) := by decide +kernel
theorem dX7_giveTea_21 : decode cX7_giveTea 21 = .ok (.bipush 10, 2) := by decide +kernel
theorem dX7_giveTea_23 : decode cX7_giveTea 23 = .ok (.iconst 1, 1) := by decide +kernel
theorem dX7_giveTea_24 : decode cX7_giveTea 24 = .ok (.aload_n 0, 1) := by decide +kernel
theorem dX7_giveTea_25 : decode cX7_giveTea 25 = .ok (.getfield 12, 3) := by decide +kernel
theorem dX7_giveTea_28 : decode cX7_giveTea 28 = .ok (.getfield 275, 3) := by decide +kernel
theorem dX7_giveTea_31 : decode cX7_giveTea 31 = .ok (.isub, 1) := by decide +kernel
theorem dX7_giveTea_32 : decode cX7_giveTea 32 = .ok (.invokevirtual 149, 3) := by decide +kernel
theorem dX7_giveTea_35 : decode cX7_giveTea 35 = .ok (.ireturn, 1) := by decide +kernel
theorem dX7_giveTea_36 : decode cX7_giveTea 36 = .ok (.aload_n 0, 1) := by decide +kernel
theorem dX7_giveTea_37 : decode cX7_giveTea 37 = .ok (.getfield 12, 3) := by decide +kernel
theorem dX7_giveTea_40 : decode cX7_giveTea 40 = .ok (.getfield 251, 3) := by decide +kernel
theorem dX7_giveTea_43 : decode cX7_giveTea 43 = .ok (.iload_n 1, 1) := by decide +kernel
theorem dX7_giveTea_44 : decode cX7_giveTea 44 = .ok (.aaload, 1) := by decide +kernel
theorem dX7_giveTea_45 : decode cX7_giveTea 45 = .ok (.astore_n 2, 1) := by decide +kernel
theorem dX7_giveTea_46 : decode cX7_giveTea 46 = .ok (.aload_n 2, 1) := by decide +kernel
theorem dX7_giveTea_47 : decode cX7_giveTea 47 = .ok (.getfield 298, 3) := by decide +kernel
theorem dX7_giveTea_50 : decode cX7_giveTea 50 = .ok (.iconst 1, 1) := by decide +kernel
theorem dX7_giveTea_51 : decode cX7_giveTea 51 = .ok (.if_icmp .ge 11, 3) := by decide +kernel
theorem dX7_giveTea_54 : decode cX7_giveTea 54 = .ok (.aload_n 0, 1) := by decide +kernel
theorem dX7_giveTea_55 : decode cX7_giveTea 55 = .ok (.bipush 11, 2) := by decide +kernel
theorem dX7_giveTea_57 : decode cX7_giveTea 57 = .ok (.iload_n 1, 1) := by decide +kernel
theorem dX7_giveTea_58 : decode cX7_giveTea 58 = .ok (.invokevirtual 149, 3) := by decide +kernel
theorem dX7_giveTea_61 : decode cX7_giveTea 61 = .ok (.ireturn, 1) := by decide +kernel
theorem dX7_giveTea_62 : decode cX7_giveTea 62 = .ok (.aload_n 0, 1) := by decide +kernel
theorem dX7_giveTea_63 : decode cX7_giveTea 63 = .ok (.getfield 12, 3) := by decide +kernel
theorem dX7_giveTea_66 : decode cX7_giveTea 66 = .ok (.iconst 1, 1) := by decide +kernel
theorem dX7_giveTea_67 : decode cX7_giveTea 67 = .ok (.invokevirtual 278, 3) := by decide +kernel
theorem dX7_giveTea_70 : decode cX7_giveTea 70 = .ok (.aload_n 2, 1) := by decide +kernel
theorem dX7_giveTea_71 : decode cX7_giveTea 71 = .ok (.dup, 1) := by decide +kernel
theorem dX7_giveTea_72 : decode cX7_giveTea 72 = .ok (.getfield 298, 3) := by decide +kernel
theorem dX7_giveTea_75 : decode cX7_giveTea 75 = .ok (.iconst 1, 1) := by decide +kernel
theorem dX7_giveTea_76 : decode cX7_giveTea 76 = .ok (.isub, 1) := by decide +kernel
theorem dX7_giveTea_77 : decode cX7_giveTea 77 = .ok (.putfield 298, 3) := by decide +kernel
theorem dX7_giveTea_80 : decode cX7_giveTea 80 = .ok (.aload_n 2, 1) := by decide +kernel
theorem dX7_giveTea_81 : decode cX7_giveTea 81 = .ok (.dup, 1) := by decide +kernel
theorem dX7_giveTea_82 : decode cX7_giveTea 82 = .ok (.getfield 301, 3) := by decide +kernel
theorem dX7_giveTea_85 : decode cX7_giveTea 85 = .ok (.iconst 1, 1) := by decide +kernel
theorem dX7_giveTea_86 : decode cX7_giveTea 86 = .ok (.iadd, 1) := by decide +kernel
theorem dX7_giveTea_87 : decode cX7_giveTea 87 = .ok (.putfield 301, 3) := by decide +kernel
theorem dX7_giveTea_90 : decode cX7_giveTea 90 = .ok (.aload_n 2, 1) := by decide +kernel
theorem dX7_giveTea_91 : decode cX7_giveTea 91 = .ok (.getfield 301, 3) := by decide +kernel
theorem dX7_giveTea_94 : decode cX7_giveTea 94 = .ok (.ireturn, 1) := by decide +kernel
theorem dX7_passHours_0 : decode cX7_passHours 0 = .ok (.iload_n 1, 1) := by decide +kernel
theorem dX7_passHours_1 : decode cX7_passHours 1 = .ok (.iconst 1, 1) := by decide +kernel
theorem dX7_passHours_2 : decode cX7_passHours 2 = .ok (.if_icmp .lt 9, 3) := by decide +kernel
theorem dX7_passHours_5 : decode cX7_passHours 5 = .ok (.iload_n 1, 1) := by decide +kernel
theorem dX7_passHours_6 : decode cX7_passHours 6 = .ok (.bipush 24, 2) := by decide +kernel
theorem dX7_passHours_8 : decode cX7_passHours 8 = .ok (.if_icmp .le 6, 3) := by decide +kernel
theorem dX7_passHours_11 : decode cX7_passHours 11 = .ok (.bipush (-2), 2) := by decide +kernel
theorem dX7_passHours_13 : decode cX7_passHours 13 = .ok (.ireturn, 1) := by decide +kernel
theorem dX7_passHours_14 : decode cX7_passHours 14 = .ok (.iconst 0, 1) := by decide +kernel
theorem dX7_passHours_15 : decode cX7_passHours 15 = .ok (.istore_n 2, 1) := by decide +kernel
theorem dX7_passHours_16 : decode cX7_passHours 16 = .ok (.iload_n 2, 1) := by decide +kernel
theorem dX7_passHours_17 : decode cX7_passHours 17 = .ok (.iload_n 1, 1) := by decide +kernel
theorem dX7_passHours_18 : decode cX7_passHours 18 = .ok (.if_icmp .ge 16, 3) := by decide +kernel
theorem dX7_passHours_21 : decode cX7_passHours 21 = .ok (.aload_n 0, 1) := by decide +kernel
theorem dX7_passHours_22 : decode cX7_passHours 22 = .ok (.getfield 12, 3) := by decide +kernel
theorem dX7_passHours_25 : decode cX7_passHours 25 = .ok (.invokevirtual 304, 3) := by decide +kernel
theorem dX7_passHours_28 : decode cX7_passHours 28 = .ok (.iinc 2 1, 3) := by decide +kernel
theorem dX7_passHours_31 : decode cX7_passHours 31 = .ok (.goto (-15), 3) := by decide +kernel
theorem dX7_passHours_34 : decode cX7_passHours 34 = .ok (.aload_n 0, 1) := by decide +kernel
theorem dX7_passHours_35 : decode cX7_passHours 35 = .ok (.getfield 12, 3) := by decide +kernel
theorem dX7_passHours_38 : decode cX7_passHours 38 = .ok (.invokevirtual 307, 3) := by decide +kernel
theorem dX7_passHours_41 : decode cX7_passHours 41 = .ok (.ireturn, 1) := by decide +kernel
theorem dX7_keepFault_0 : decode cX7_keepFault 0 = .ok (.aload_n 0, 1) := by decide +kernel
theorem dX7_keepFault_1 : decode cX7_keepFault 1 = .ok (.aload_n 0, 1) := by decide +kernel
theorem dX7_keepFault_2 : decode cX7_keepFault 2 = .ok (.getfield 40, 3) := by decide +kernel
theorem dX7_keepFault_5 : decode cX7_keepFault 5 = .ok (.getfield 310, 3) := by decide +kernel
theorem dX7_keepFault_8 : decode cX7_keepFault 8 = .ok (.putfield 44, 3) := by decide +kernel
theorem dX7_keepFault_11 : decode cX7_keepFault 11 = .ok (.bipush (-2), 2) := by decide +kernel
theorem dX7_keepFault_13 : decode cX7_keepFault 13 = .ok (.ireturn, 1) := by decide +kernel
theorem dX7_carryOutOrders_0 : decode cX7_carryOutOrders 0 = .ok (.iconst 0, 1) := by decide +kernel
theorem dX7_carryOutOrders_1 : decode cX7_carryOutOrders 1 = .ok (.istore_n 1, 1) := by decide +kernel
theorem dX7_carryOutOrders_2 : decode cX7_carryOutOrders 2 = .ok (.iload_n 1, 1) := by decide +kernel
theorem dX7_carryOutOrders_3 : decode cX7_carryOutOrders 3 = .ok (.aload_n 0, 1) := by decide +kernel
theorem dX7_carryOutOrders_4 : decode cX7_carryOutOrders 4 = .ok (.getfield 40, 3) := by decide +kernel
theorem dX7_carryOutOrders_7 : decode cX7_carryOutOrders 7 = .ok (.getfield 313, 3) := by decide +kernel
theorem dX7_carryOutOrders_10 : decode cX7_carryOutOrders 10 = .ok (.if_icmp .ge 40, 3) := by decide +kernel
theorem dX7_carryOutOrders_13 : decode cX7_carryOutOrders 13 = .ok (.aload_n 0, 1) := by decide +kernel
theorem dX7_carryOutOrders_14 : decode cX7_carryOutOrders 14 = .ok (.iload_n 1, 1) := by decide +kernel
theorem dX7_carryOutOrders_15 : decode cX7_carryOutOrders 15 = .ok (.invokevirtual 316, 3) := by decide +kernel
theorem dX7_carryOutOrders_18 : decode cX7_carryOutOrders 18 = .ok (.istore_n 2, 1) := by decide +kernel
theorem dX7_carryOutOrders_19 : decode cX7_carryOutOrders 19 = .ok (.iload_n 2, 1) := by decide +kernel
theorem dX7_carryOutOrders_20 : decode cX7_carryOutOrders 20 = .ok (.invokestatic 132, 3) := by decide +kernel
theorem dX7_carryOutOrders_23 : decode cX7_carryOutOrders 23 = .ok (.ifCond .eq 21, 3) := by decide +kernel
theorem dX7_carryOutOrders_26 : decode cX7_carryOutOrders 26 = .ok (.aload_n 0, 1) := by decide +kernel
theorem dX7_carryOutOrders_27 : decode cX7_carryOutOrders 27 = .ok (.getfield 26, 3) := by decide +kernel
theorem dX7_carryOutOrders_30 : decode cX7_carryOutOrders 30 = .ok (.aload_n 0, 1) := by decide +kernel
theorem dX7_carryOutOrders_31 : decode cX7_carryOutOrders 31 = .ok (.getfield 12, 3) := by decide +kernel
theorem dX7_carryOutOrders_34 : decode cX7_carryOutOrders 34 = .ok (.invokevirtual 319, 3) := by decide +kernel
theorem dX7_carryOutOrders_37 : decode cX7_carryOutOrders 37 = .ok (.aload_n 0, 1) := by decide +kernel
theorem dX7_carryOutOrders_38 : decode cX7_carryOutOrders 38 = .ok (.iload_n 1, 1) := by decide +kernel
theorem dX7_carryOutOrders_39 : decode cX7_carryOutOrders 39 = .ok (.iload_n 2, 1) := by decide +kernel
theorem dX7_carryOutOrders_40 : decode cX7_carryOutOrders 40 = .ok (.invokevirtual 322, 3) := by decide +kernel
theorem dX7_carryOutOrders_43 : decode cX7_carryOutOrders 43 = .ok (.ireturn, 1) := by decide +kernel
theorem dX7_carryOutOrders_44 : decode cX7_carryOutOrders 44 = .ok (.iinc 1 1, 3) := by decide +kernel
theorem dX7_carryOutOrders_47 : decode cX7_carryOutOrders 47 = .ok (.goto (-45), 3) := by decide +kernel
theorem dX7_carryOutOrders_50 : decode cX7_carryOutOrders 50 = .ok (.aload_n 0, 1) := by decide +kernel
theorem dX7_carryOutOrders_51 : decode cX7_carryOutOrders 51 = .ok (.getfield 40, 3) := by decide +kernel
theorem dX7_carryOutOrders_54 : decode cX7_carryOutOrders 54 = .ok (.getfield 313, 3) := by decide +kernel
theorem dX7_carryOutOrders_57 : decode cX7_carryOutOrders 57 = .ok (.ireturn, 1) := by decide +kernel
theorem dX7_carryOut_0 : decode cX7_carryOut 0 = .ok (.aload_n 0, 1) := by decide +kernel
theorem dX7_carryOut_1 : decode cX7_carryOut 1 = .ok (.getfield 40, 3) := by decide +kernel
theorem dX7_carryOut_4 : decode cX7_carryOut 4 = .ok (.iload_n 1, 1) := by decide +kernel
theorem dX7_carryOut_5 : decode cX7_carryOut 5 = .ok (.iconst 0, 1) := by decide +kernel
theorem dX7_carryOut_6 : decode cX7_carryOut 6 = .ok (.invokevirtual 325, 3) := by decide +kernel
theorem dX7_carryOut_9 : decode cX7_carryOut 9 = .ok (.istore_n 2, 1) := by decide +kernel
theorem dX7_carryOut_10 : decode cX7_carryOut 10 = .ok (.aload_n 0, 1) := by decide +kernel
theorem dX7_carryOut_11 : decode cX7_carryOut 11 = .ok (.getfield 40, 3) := by decide +kernel
theorem dX7_carryOut_14 : decode cX7_carryOut 14 = .ok (.iload_n 1, 1) := by decide +kernel
theorem dX7_carryOut_15 : decode cX7_carryOut 15 = .ok (.iconst 1, 1) := by decide +kernel
theorem dX7_carryOut_16 : decode cX7_carryOut 16 = .ok (.invokevirtual 325, 3) := by decide +kernel
theorem dX7_carryOut_19 : decode cX7_carryOut 19 = .ok (.istore_n 3, 1) := by decide +kernel
theorem dX7_carryOut_20 : decode cX7_carryOut 20 = .ok (.aload_n 0, 1) := by decide +kernel
theorem dX7_carryOut_21 : decode cX7_carryOut 21 = .ok (.getfield 40, 3) := by decide +kernel
theorem dX7_carryOut_24 : decode cX7_carryOut 24 = .ok (.getfield 328, 3) := by decide +kernel
theorem dX7_carryOut_27 : decode cX7_carryOut 27 = .ok (.iload_n 1, 1) := by decide +kernel
theorem dX7_carryOut_28 : decode cX7_carryOut 28 = .ok (.iaload, 1) := by decide +kernel
theorem dX7_carryOut_29 : decode cX7_carryOut 29 = .ok (.tableswitch 183 98 119 #[110, 153, 183, 103, 183, 183, 183, 183, 183, 183, 183, 183, 183, 183, 183, 183, 165, 171, 177, 183, 183, 159], 103) := by decide +kernel
theorem dX7_carryOut_132 : decode cX7_carryOut 132 = .ok (.aload_n 0, 1) := by decide +kernel
theorem dX7_carryOut_133 : decode cX7_carryOut 133 = .ok (.iload_n 2, 1) := by decide +kernel
theorem dX7_carryOut_134 : decode cX7_carryOut 134 = .ok (.iload_n 3, 1) := by decide +kernel
theorem dX7_carryOut_135 : decode cX7_carryOut 135 = .ok (.invokevirtual 90, 3) := by decide +kernel
theorem dX7_carryOut_138 : decode cX7_carryOut 138 = .ok (.ireturn, 1) := by decide +kernel
theorem dX7_carryOut_139 : decode cX7_carryOut 139 = .ok (.aload_n 0, 1) := by decide +kernel
theorem dX7_carryOut_140 : decode cX7_carryOut 140 = .ok (.iload_n 2, 1) := by decide +kernel
theorem dX7_carryOut_141 : decode cX7_carryOut 141 = .ok (.iload_n 3, 1) := by decide +kernel
theorem dX7_carryOut_142 : decode cX7_carryOut 142 = .ok (.aload_n 0, 1) := by decide +kernel
theorem dX7_carryOut_143 : decode cX7_carryOut 143 = .ok (.getfield 40, 3) := by decide +kernel
theorem dX7_carryOut_146 : decode cX7_carryOut 146 = .ok (.iload_n 1, 1) := by decide +kernel
theorem dX7_carryOut_147 : decode cX7_carryOut 147 = .ok (.iconst 2, 1) := by decide +kernel
theorem dX7_carryOut_148 : decode cX7_carryOut 148 = .ok (.invokevirtual 325, 3) := by decide +kernel
theorem dX7_carryOut_151 : decode cX7_carryOut 151 = .ok (.aload_n 0, 1) := by decide +kernel
theorem dX7_carryOut_152 : decode cX7_carryOut 152 = .ok (.getfield 40, 3) := by decide +kernel
theorem dX7_carryOut_155 : decode cX7_carryOut 155 = .ok (.iload_n 1, 1) := by decide +kernel
theorem dX7_carryOut_156 : decode cX7_carryOut 156 = .ok (.iconst 3, 1) := by decide +kernel
theorem dX7_carryOut_157 : decode cX7_carryOut 157 = .ok (.invokevirtual 325, 3) := by decide +kernel
theorem dX7_carryOut_160 : decode cX7_carryOut 160 = .ok (.aload_n 0, 1) := by decide +kernel
theorem dX7_carryOut_161 : decode cX7_carryOut 161 = .ok (.getfield 40, 3) := by decide +kernel
theorem dX7_carryOut_164 : decode cX7_carryOut 164 = .ok (.iload_n 1, 1) := by decide +kernel
theorem dX7_carryOut_165 : decode cX7_carryOut 165 = .ok (.iconst 4, 1) := by decide +kernel
theorem dX7_carryOut_166 : decode cX7_carryOut 166 = .ok (.invokevirtual 325, 3) := by decide +kernel
theorem dX7_carryOut_169 : decode cX7_carryOut 169 = .ok (.iconst 1, 1) := by decide +kernel
theorem dX7_carryOut_170 : decode cX7_carryOut 170 = .ok (.if_icmp .ne 7, 3) := by decide +kernel
theorem dX7_carryOut_173 : decode cX7_carryOut 173 = .ok (.iconst 1, 1) := by decide +kernel
theorem dX7_carryOut_174 : decode cX7_carryOut 174 = .ok (.goto 4, 3) := by decide +kernel
theorem dX7_carryOut_177 : decode cX7_carryOut 177 = .ok (.iconst 0, 1) := by decide +kernel
theorem dX7_carryOut_178 : decode cX7_carryOut 178 = .ok (.invokevirtual 93, 3) := by decide +kernel
theorem dX7_carryOut_181 : decode cX7_carryOut 181 = .ok (.ireturn, 1) := by decide +kernel
theorem dX7_carryOut_182 : decode cX7_carryOut 182 = .ok (.aload_n 0, 1) := by decide +kernel
theorem dX7_carryOut_183 : decode cX7_carryOut 183 = .ok (.iload_n 2, 1) := by decide +kernel
theorem dX7_carryOut_184 : decode cX7_carryOut 184 = .ok (.invokevirtual 97, 3) := by decide +kernel
theorem dX7_carryOut_187 : decode cX7_carryOut 187 = .ok (.ireturn, 1) := by decide +kernel
theorem dX7_carryOut_188 : decode cX7_carryOut 188 = .ok (.aload_n 0, 1) := by decide +kernel
theorem dX7_carryOut_189 : decode cX7_carryOut 189 = .ok (.iload_n 2, 1) := by decide +kernel
theorem dX7_carryOut_190 : decode cX7_carryOut 190 = .ok (.invokevirtual 100, 3) := by decide +kernel
theorem dX7_carryOut_193 : decode cX7_carryOut 193 = .ok (.ireturn, 1) := by decide +kernel
theorem dX7_carryOut_194 : decode cX7_carryOut 194 = .ok (.aload_n 0, 1) := by decide +kernel
theorem dX7_carryOut_195 : decode cX7_carryOut 195 = .ok (.iload_n 2, 1) := by decide +kernel
theorem dX7_carryOut_196 : decode cX7_carryOut 196 = .ok (.invokevirtual 103, 3) := by decide +kernel
theorem dX7_carryOut_199 : decode cX7_carryOut 199 = .ok (.ireturn, 1) := by decide +kernel
theorem dX7_carryOut_200 : decode cX7_carryOut 200 = .ok (.aload_n 0, 1) := by decide +kernel
theorem dX7_carryOut_201 : decode cX7_carryOut 201 = .ok (.iload_n 2, 1) := by decide +kernel
theorem dX7_carryOut_202 : decode cX7_carryOut 202 = .ok (.invokevirtual 106, 3) := by decide +kernel
theorem dX7_carryOut_205 : decode cX7_carryOut 205 = .ok (.ireturn, 1) := by decide +kernel
theorem dX7_carryOut_206 : decode cX7_carryOut 206 = .ok (.aload_n 0, 1) := by decide +kernel
theorem dX7_carryOut_207 : decode cX7_carryOut 207 = .ok (.iload_n 2, 1) := by decide +kernel
theorem dX7_carryOut_208 : decode cX7_carryOut 208 = .ok (.invokevirtual 112, 3) := by decide +kernel
theorem dX7_carryOut_211 : decode cX7_carryOut 211 = .ok (.ireturn, 1) := by decide +kernel
theorem dX7_carryOut_212 : decode cX7_carryOut 212 = .ok (.aload_n 0, 1) := by decide +kernel
theorem dX7_carryOut_213 : decode cX7_carryOut 213 = .ok (.iload_n 2, 1) := by decide +kernel
theorem dX7_carryOut_214 : decode cX7_carryOut 214 = .ok (.invokevirtual 115, 3) := by decide +kernel
theorem dX7_carryOut_217 : decode cX7_carryOut 217 = .ok (.ireturn, 1) := by decide +kernel
theorem dX7_refuseScript_0 : decode cX7_refuseScript 0 = .ok (.iload_n 2, 1) := by decide +kernel
theorem dX7_refuseScript_1 : decode cX7_refuseScript 1 = .ok (.bipush (-3), 2) := by decide +kernel
theorem dX7_refuseScript_3 : decode cX7_refuseScript 3 = .ok (.if_icmp .eq 10, 3) := by decide +kernel
theorem dX7_refuseScript_6 : decode cX7_refuseScript 6 = .ok (.aload_n 0, 1) := by decide +kernel
theorem dX7_refuseScript_7 : decode cX7_refuseScript 7 = .ok (.getfield 51, 3) := by decide +kernel
theorem dX7_refuseScript_10 : decode cX7_refuseScript 10 = .ok (.invokevirtual 139, 3) := by decide +kernel
theorem dX7_refuseScript_13 : decode cX7_refuseScript 13 = .ok (.aload_n 0, 1) := by decide +kernel
theorem dX7_refuseScript_14 : decode cX7_refuseScript 14 = .ok (.getfield 51, 3) := by decide +kernel
theorem dX7_refuseScript_17 : decode cX7_refuseScript 17 = .ok (.bipush 12, 2) := by decide +kernel
theorem dX7_refuseScript_19 : decode cX7_refuseScript 19 = .ok (.iload_n 1, 1) := by decide +kernel
theorem dX7_refuseScript_20 : decode cX7_refuseScript 20 = .ok (.invokevirtual 142, 3) := by decide +kernel
theorem dX7_refuseScript_23 : decode cX7_refuseScript 23 = .ok (.bipush (-3), 2) := by decide +kernel
theorem dX7_refuseScript_25 : decode cX7_refuseScript 25 = .ok (.ireturn, 1) := by decide +kernel
theorem dX7_fault_0 : decode cX7_fault 0 = .ok (.aload_n 0, 1) := by decide +kernel
theorem dX7_fault_1 : decode cX7_fault 1 = .ok (.getfield 44, 3) := by decide +kernel
theorem dX7_fault_4 : decode cX7_fault 4 = .ok (.ireturn, 1) := by decide +kernel
theorem dX7_reason_0 : decode cX7_reason 0 = .ok (.iload_n 1, 1) := by decide +kernel
theorem dX7_reason_1 : decode cX7_reason 1 = .ok (.ifCond .ge 6, 3) := by decide +kernel
theorem dX7_reason_4 : decode cX7_reason 4 = .ok (.bipush (-2), 2) := by decide +kernel
theorem dX7_reason_6 : decode cX7_reason 6 = .ok (.ireturn, 1) := by decide +kernel
theorem dX7_reason_7 : decode cX7_reason 7 = .ok (.aload_n 0, 1) := by decide +kernel
theorem dX7_reason_8 : decode cX7_reason 8 = .ok (.getfield 51, 3) := by decide +kernel
theorem dX7_reason_11 : decode cX7_reason 11 = .ok (.iload_n 1, 1) := by decide +kernel
theorem dX7_reason_12 : decode cX7_reason 12 = .ok (.iload_n 2, 1) := by decide +kernel
theorem dX7_reason_13 : decode cX7_reason 13 = .ok (.invokevirtual 331, 3) := by decide +kernel
theorem dX7_reason_16 : decode cX7_reason 16 = .ok (.ireturn, 1) := by decide +kernel
theorem dX7_rinkOf_0 : decode cX7_rinkOf 0 = .ok (.aload_n 0, 1) := by decide +kernel
theorem dX7_rinkOf_1 : decode cX7_rinkOf 1 = .ok (.getfield 12, 3) := by decide +kernel
theorem dX7_rinkOf_4 : decode cX7_rinkOf 4 = .ok (.iload_n 1, 1) := by decide +kernel
theorem dX7_rinkOf_5 : decode cX7_rinkOf 5 = .ok (.invokevirtual 179, 3) := by decide +kernel
theorem dX7_rinkOf_8 : decode cX7_rinkOf 8 = .ok (.ifCond .ne 5, 3) := by decide +kernel
theorem dX7_rinkOf_11 : decode cX7_rinkOf 11 = .ok (.iconst (-1), 1) := by decide +kernel
theorem dX7_rinkOf_12 : decode cX7_rinkOf 12 = .ok (.ireturn, 1) := by decide +kernel
theorem dX7_rinkOf_13 : decode cX7_rinkOf 13 = .ok (.aload_n 0, 1) := by decide +kernel
theorem dX7_rinkOf_14 : decode cX7_rinkOf 14 = .ok (.getfield 12, 3) := by decide +kernel
theorem dX7_rinkOf_17 : decode cX7_rinkOf 17 = .ok (.getfield 155, 3) := by decide +kernel
theorem dX7_rinkOf_20 : decode cX7_rinkOf 20 = .ok (.iload_n 1, 1) := by decide +kernel
theorem dX7_rinkOf_21 : decode cX7_rinkOf 21 = .ok (.aaload, 1) := by decide +kernel
theorem dX7_rinkOf_22 : decode cX7_rinkOf 22 = .ok (.astore_n 3, 1) := by decide +kernel
theorem dX7_rinkOf_23 : decode cX7_rinkOf 23 = .ok (.iload_n 2, 1) := by decide +kernel
theorem dX7_rinkOf_24 : decode cX7_rinkOf 24 = .ok (.tableswitch 107 0 8 #[52, 57, 62, 67, 72, 77, 82, 92, 102], 52) := by decide +kernel
theorem dX7_rinkOf_76 : decode cX7_rinkOf 76 = .ok (.aload_n 3, 1) := by decide +kernel
theorem dX7_rinkOf_77 : decode cX7_rinkOf 77 = .ok (.getfield 335, 3) := by decide +kernel
theorem dX7_rinkOf_80 : decode cX7_rinkOf 80 = .ok (.ireturn, 1) := by decide +kernel
theorem dX7_rinkOf_81 : decode cX7_rinkOf 81 = .ok (.aload_n 3, 1) := by decide +kernel
theorem dX7_rinkOf_82 : decode cX7_rinkOf 82 = .ok (.getfield 338, 3) := by decide +kernel
theorem dX7_rinkOf_85 : decode cX7_rinkOf 85 = .ok (.ireturn, 1) := by decide +kernel
theorem dX7_rinkOf_86 : decode cX7_rinkOf 86 = .ok (.aload_n 3, 1) := by decide +kernel
theorem dX7_rinkOf_87 : decode cX7_rinkOf 87 = .ok (.getfield 189, 3) := by decide +kernel
theorem dX7_rinkOf_90 : decode cX7_rinkOf 90 = .ok (.ireturn, 1) := by decide +kernel
theorem dX7_rinkOf_91 : decode cX7_rinkOf 91 = .ok (.aload_n 3, 1) := by decide +kernel
theorem dX7_rinkOf_92 : decode cX7_rinkOf 92 = .ok (.getfield 272, 3) := by decide +kernel
theorem dX7_rinkOf_95 : decode cX7_rinkOf 95 = .ok (.ireturn, 1) := by decide +kernel
theorem dX7_rinkOf_96 : decode cX7_rinkOf 96 = .ok (.aload_n 3, 1) := by decide +kernel
theorem dX7_rinkOf_97 : decode cX7_rinkOf 97 = .ok (.getfield 186, 3) := by decide +kernel
theorem dX7_rinkOf_100 : decode cX7_rinkOf 100 = .ok (.ireturn, 1) := by decide +kernel
theorem dX7_rinkOf_101 : decode cX7_rinkOf 101 = .ok (.aload_n 3, 1) := by decide +kernel
theorem dX7_rinkOf_102 : decode cX7_rinkOf 102 = .ok (.getfield 201, 3) := by decide +kernel
theorem dX7_rinkOf_105 : decode cX7_rinkOf 105 = .ok (.ireturn, 1) := by decide +kernel
theorem dX7_rinkOf_106 : decode cX7_rinkOf 106 = .ok (.aload_n 0, 1) := by decide +kernel
theorem dX7_rinkOf_107 : decode cX7_rinkOf 107 = .ok (.getfield 12, 3) := by decide +kernel
theorem dX7_rinkOf_110 : decode cX7_rinkOf 110 = .ok (.iload_n 1, 1) := by decide +kernel
theorem dX7_rinkOf_111 : decode cX7_rinkOf 111 = .ok (.iconst 1, 1) := by decide +kernel
theorem dX7_rinkOf_112 : decode cX7_rinkOf 112 = .ok (.invokevirtual 341, 3) := by decide +kernel
theorem dX7_rinkOf_115 : decode cX7_rinkOf 115 = .ok (.ireturn, 1) := by decide +kernel
theorem dX7_rinkOf_116 : decode cX7_rinkOf 116 = .ok (.aload_n 0, 1) := by decide +kernel
theorem dX7_rinkOf_117 : decode cX7_rinkOf 117 = .ok (.getfield 12, 3) := by decide +kernel
theorem dX7_rinkOf_120 : decode cX7_rinkOf 120 = .ok (.iload_n 1, 1) := by decide +kernel
theorem dX7_rinkOf_121 : decode cX7_rinkOf 121 = .ok (.iconst 2, 1) := by decide +kernel
theorem dX7_rinkOf_122 : decode cX7_rinkOf 122 = .ok (.invokevirtual 341, 3) := by decide +kernel
theorem dX7_rinkOf_125 : decode cX7_rinkOf 125 = .ok (.ireturn, 1) := by decide +kernel
theorem dX7_rinkOf_126 : decode cX7_rinkOf 126 = .ok (.aload_n 3, 1) := by decide +kernel
theorem dX7_rinkOf_127 : decode cX7_rinkOf 127 = .ok (.getfield 344, 3) := by decide +kernel
theorem dX7_rinkOf_130 : decode cX7_rinkOf 130 = .ok (.ireturn, 1) := by decide +kernel
theorem dX7_rinkOf_131 : decode cX7_rinkOf 131 = .ok (.bipush (-2), 2) := by decide +kernel
theorem dX7_rinkOf_133 : decode cX7_rinkOf 133 = .ok (.ireturn, 1) := by decide +kernel
theorem dX7_woodOf_0 : decode cX7_woodOf 0 = .ok (.aload_n 0, 1) := by decide +kernel
theorem dX7_woodOf_1 : decode cX7_woodOf 1 = .ok (.getfield 12, 3) := by decide +kernel
theorem dX7_woodOf_4 : decode cX7_woodOf 4 = .ok (.iload_n 1, 1) := by decide +kernel
theorem dX7_woodOf_5 : decode cX7_woodOf 5 = .ok (.invokevirtual 204, 3) := by decide +kernel
theorem dX7_woodOf_8 : decode cX7_woodOf 8 = .ok (.ifCond .ne 5, 3) := by decide +kernel
theorem dX7_woodOf_11 : decode cX7_woodOf 11 = .ok (.iconst (-1), 1) := by decide +kernel
theorem dX7_woodOf_12 : decode cX7_woodOf 12 = .ok (.ireturn, 1) := by decide +kernel
theorem dX7_woodOf_13 : decode cX7_woodOf 13 = .ok (.aload_n 0, 1) := by decide +kernel
theorem dX7_woodOf_14 : decode cX7_woodOf 14 = .ok (.getfield 12, 3) := by decide +kernel
theorem dX7_woodOf_17 : decode cX7_woodOf 17 = .ok (.getfield 170, 3) := by decide +kernel
theorem dX7_woodOf_20 : decode cX7_woodOf 20 = .ok (.iload_n 1, 1) := by decide +kernel
theorem dX7_woodOf_21 : decode cX7_woodOf 21 = .ok (.aaload, 1) := by decide +kernel
theorem dX7_woodOf_22 : decode cX7_woodOf 22 = .ok (.astore_n 3, 1) := by decide +kernel
theorem dX7_woodOf_23 : decode cX7_woodOf 23 = .ok (.aload_n 3, 1) := by decide +kernel
theorem dX7_woodOf_24 : decode cX7_woodOf 24 = .ok (.getfield 235, 3) := by decide +kernel
theorem dX7_woodOf_27 : decode cX7_woodOf 27 = .ok (.iconst 1, 1) := by decide +kernel
theorem dX7_woodOf_28 : decode cX7_woodOf 28 = .ok (.if_icmp .ne 7, 3) := by decide +kernel
theorem dX7_woodOf_31 : decode cX7_woodOf 31 = .ok (.iconst 1, 1) := by decide +kernel
theorem dX7_woodOf_32 : decode cX7_woodOf 32 = .ok (.goto 4, 3) := by decide +kernel
theorem dX7_woodOf_35 : decode cX7_woodOf 35 = .ok (.iconst 0, 1) := by decide +kernel
theorem dX7_woodOf_36 : decode cX7_woodOf 36 = .ok (.istore 4, 2) := by decide +kernel
theorem dX7_woodOf_38 : decode cX7_woodOf 38 = .ok (.iload_n 2, 1) := by decide +kernel
theorem dX7_woodOf_39 : decode cX7_woodOf 39 = .ok (.tableswitch 127 0 7 #[45, 50, 55, 60, 77, 92, 107, 122], 45) := by decide +kernel
theorem dX7_woodOf_84 : decode cX7_woodOf 84 = .ok (.aload_n 3, 1) := by decide +kernel
theorem dX7_woodOf_85 : decode cX7_woodOf 85 = .ok (.getfield 224, 3) := by decide +kernel
theorem dX7_woodOf_88 : decode cX7_woodOf 88 = .ok (.ireturn, 1) := by decide +kernel
theorem dX7_woodOf_89 : decode cX7_woodOf 89 = .ok (.aload_n 3, 1) := by decide +kernel
theorem dX7_woodOf_90 : decode cX7_woodOf 90 = .ok (.getfield 347, 3) := by decide +kernel
theorem dX7_woodOf_93 : decode cX7_woodOf 93 = .ok (.ireturn, 1) := by decide +kernel
theorem dX7_woodOf_94 : decode cX7_woodOf 94 = .ok (.aload_n 3, 1) := by decide +kernel
theorem dX7_woodOf_95 : decode cX7_woodOf 95 = .ok (.getfield 235, 3) := by decide +kernel
theorem dX7_woodOf_98 : decode cX7_woodOf 98 = .ok (.ireturn, 1) := by decide +kernel
theorem dX7_woodOf_99 : decode cX7_woodOf 99 = .ok (.aload_n 3, 1) := by decide +kernel
theorem dX7_woodOf_100 : decode cX7_woodOf 100 = .ok (.getfield 235, 3) := by decide +kernel
theorem dX7_woodOf_103 : decode cX7_woodOf 103 = .ok (.ifCond .ne 8, 3) := by decide +kernel
theorem dX7_woodOf_106 : decode cX7_woodOf 106 = .ok (.bipush (-4), 2) := by decide +kernel
theorem dX7_woodOf_108 : decode cX7_woodOf 108 = .ok (.goto 7, 3) := by decide +kernel
theorem dX7_woodOf_111 : decode cX7_woodOf 111 = .ok (.aload_n 3, 1) := by decide +kernel
theorem dX7_woodOf_112 : decode cX7_woodOf 112 = .ok (.getfield 232, 3) := by decide +kernel
theorem dX7_woodOf_115 : decode cX7_woodOf 115 = .ok (.ireturn, 1) := by decide +kernel
theorem dX7_woodOf_116 : decode cX7_woodOf 116 = .ok (.iload 4, 2) := by decide +kernel
theorem dX7_woodOf_118 : decode cX7_woodOf 118 = .ok (.ifCond .eq 10, 3) := by decide +kernel
theorem dX7_woodOf_121 : decode cX7_woodOf 121 = .ok (.aload_n 3, 1) := by decide +kernel
theorem dX7_woodOf_122 : decode cX7_woodOf 122 = .ok (.getfield 238, 3) := by decide +kernel
theorem dX7_woodOf_125 : decode cX7_woodOf 125 = .ok (.goto 5, 3) := by decide +kernel
theorem dX7_woodOf_128 : decode cX7_woodOf 128 = .ok (.bipush (-4), 2) := by decide +kernel
theorem dX7_woodOf_130 : decode cX7_woodOf 130 = .ok (.ireturn, 1) := by decide +kernel
theorem dX7_woodOf_131 : decode cX7_woodOf 131 = .ok (.iload 4, 2) := by decide +kernel
theorem dX7_woodOf_133 : decode cX7_woodOf 133 = .ok (.ifCond .eq 10, 3) := by decide +kernel
theorem dX7_woodOf_136 : decode cX7_woodOf 136 = .ok (.aload_n 3, 1) := by decide +kernel
theorem dX7_woodOf_137 : decode cX7_woodOf 137 = .ok (.getfield 241, 3) := by decide +kernel
theorem dX7_woodOf_140 : decode cX7_woodOf 140 = .ok (.goto 5, 3) := by decide +kernel
theorem dX7_woodOf_143 : decode cX7_woodOf 143 = .ok (.bipush (-4), 2) := by decide +kernel
theorem dX7_woodOf_145 : decode cX7_woodOf 145 = .ok (.ireturn, 1) := by decide +kernel
theorem dX7_woodOf_146 : decode cX7_woodOf 146 = .ok (.iload 4, 2) := by decide +kernel
theorem dX7_woodOf_148 : decode cX7_woodOf 148 = .ok (.ifCond .eq 10, 3) := by decide +kernel
theorem dX7_woodOf_151 : decode cX7_woodOf 151 = .ok (.aload_n 3, 1) := by decide +kernel
theorem dX7_woodOf_152 : decode cX7_woodOf 152 = .ok (.getfield 246, 3) := by decide +kernel
theorem dX7_woodOf_155 : decode cX7_woodOf 155 = .ok (.goto 5, 3) := by decide +kernel
theorem dX7_woodOf_158 : decode cX7_woodOf 158 = .ok (.bipush (-4), 2) := by decide +kernel
theorem dX7_woodOf_160 : decode cX7_woodOf 160 = .ok (.ireturn, 1) := by decide +kernel
theorem dX7_woodOf_161 : decode cX7_woodOf 161 = .ok (.aload_n 3, 1) := by decide +kernel
theorem dX7_woodOf_162 : decode cX7_woodOf 162 = .ok (.getfield 230, 3) := by decide +kernel
theorem dX7_woodOf_165 : decode cX7_woodOf 165 = .ok (.ireturn, 1) := by decide +kernel
theorem dX7_woodOf_166 : decode cX7_woodOf 166 = .ok (.bipush (-2), 2) := by decide +kernel
theorem dX7_woodOf_168 : decode cX7_woodOf 168 = .ok (.ireturn, 1) := by decide +kernel
theorem dX7_clubOf_0 : decode cX7_clubOf 0 = .ok (.iload_n 1, 1) := by decide +kernel
theorem dX7_clubOf_1 : decode cX7_clubOf 1 = .ok (.invokestatic 164, 3) := by decide +kernel
theorem dX7_clubOf_4 : decode cX7_clubOf 4 = .ok (.ifCond .ne 5, 3) := by decide +kernel
theorem dX7_clubOf_7 : decode cX7_clubOf 7 = .ok (.iconst (-1), 1) := by decide +kernel
theorem dX7_clubOf_8 : decode cX7_clubOf 8 = .ok (.ireturn, 1) := by decide +kernel
theorem dX7_clubOf_9 : decode cX7_clubOf 9 = .ok (.aload_n 0, 1) := by decide +kernel
theorem dX7_clubOf_10 : decode cX7_clubOf 10 = .ok (.getfield 12, 3) := by decide +kernel
theorem dX7_clubOf_13 : decode cX7_clubOf 13 = .ok (.getfield 251, 3) := by decide +kernel
theorem dX7_clubOf_16 : decode cX7_clubOf 16 = .ok (.iload_n 1, 1) := by decide +kernel
theorem dX7_clubOf_17 : decode cX7_clubOf 17 = .ok (.aaload, 1) := by decide +kernel
theorem dX7_clubOf_18 : decode cX7_clubOf 18 = .ok (.astore_n 3, 1) := by decide +kernel
theorem dX7_clubOf_19 : decode cX7_clubOf 19 = .ok (.iload_n 2, 1) := by decide +kernel
theorem dX7_clubOf_20 : decode cX7_clubOf 20 = .ok (.tableswitch 78 0 5 #[40, 45, 50, 55, 60, 69], 40) := by decide +kernel
theorem dX7_clubOf_60 : decode cX7_clubOf 60 = .ok (.aload_n 3, 1) := by decide +kernel
theorem dX7_clubOf_61 : decode cX7_clubOf 61 = .ok (.getfield 255, 3) := by decide +kernel
theorem dX7_clubOf_64 : decode cX7_clubOf 64 = .ok (.ireturn, 1) := by decide +kernel
theorem dX7_clubOf_65 : decode cX7_clubOf 65 = .ok (.aload_n 3, 1) := by decide +kernel
theorem dX7_clubOf_66 : decode cX7_clubOf 66 = .ok (.getfield 260, 3) := by decide +kernel
theorem dX7_clubOf_69 : decode cX7_clubOf 69 = .ok (.ireturn, 1) := by decide +kernel
theorem dX7_clubOf_70 : decode cX7_clubOf 70 = .ok (.aload_n 3, 1) := by decide +kernel
theorem dX7_clubOf_71 : decode cX7_clubOf 71 = .ok (.getfield 298, 3) := by decide +kernel
theorem dX7_clubOf_74 : decode cX7_clubOf 74 = .ok (.ireturn, 1) := by decide +kernel
theorem dX7_clubOf_75 : decode cX7_clubOf 75 = .ok (.aload_n 3, 1) := by decide +kernel
theorem dX7_clubOf_76 : decode cX7_clubOf 76 = .ok (.getfield 301, 3) := by decide +kernel
theorem dX7_clubOf_79 : decode cX7_clubOf 79 = .ok (.ireturn, 1) := by decide +kernel
theorem dX7_clubOf_80 : decode cX7_clubOf 80 = .ok (.aload_n 0, 1) := by decide +kernel
theorem dX7_clubOf_81 : decode cX7_clubOf 81 = .ok (.getfield 12, 3) := by decide +kernel
theorem dX7_clubOf_84 : decode cX7_clubOf 84 = .ok (.iload_n 1, 1) := by decide +kernel
theorem dX7_clubOf_85 : decode cX7_clubOf 85 = .ok (.invokevirtual 350, 3) := by decide +kernel
theorem dX7_clubOf_88 : decode cX7_clubOf 88 = .ok (.ireturn, 1) := by decide +kernel
theorem dX7_clubOf_89 : decode cX7_clubOf 89 = .ok (.aload_n 0, 1) := by decide +kernel
theorem dX7_clubOf_90 : decode cX7_clubOf 90 = .ok (.getfield 12, 3) := by decide +kernel
theorem dX7_clubOf_93 : decode cX7_clubOf 93 = .ok (.iload_n 1, 1) := by decide +kernel
theorem dX7_clubOf_94 : decode cX7_clubOf 94 = .ok (.invokevirtual 353, 3) := by decide +kernel
theorem dX7_clubOf_97 : decode cX7_clubOf 97 = .ok (.ireturn, 1) := by decide +kernel
theorem dX7_clubOf_98 : decode cX7_clubOf 98 = .ok (.bipush (-2), 2) := by decide +kernel
theorem dX7_clubOf_100 : decode cX7_clubOf 100 = .ok (.ireturn, 1) := by decide +kernel
theorem dX7_rinkAt_0 : decode cX7_rinkAt 0 = .ok (.aload_n 0, 1) := by decide +kernel
theorem dX7_rinkAt_1 : decode cX7_rinkAt 1 = .ok (.getfield 12, 3) := by decide +kernel
theorem dX7_rinkAt_4 : decode cX7_rinkAt 4 = .ok (.iload_n 1, 1) := by decide +kernel
theorem dX7_rinkAt_5 : decode cX7_rinkAt 5 = .ok (.invokevirtual 356, 3) := by decide +kernel
theorem dX7_rinkAt_8 : decode cX7_rinkAt 8 = .ok (.ireturn, 1) := by decide +kernel
theorem dX7_nearest_0 : decode cX7_nearest 0 = .ok (.aload_n 0, 1) := by decide +kernel
theorem dX7_nearest_1 : decode cX7_nearest 1 = .ok (.getfield 12, 3) := by decide +kernel
theorem dX7_nearest_4 : decode cX7_nearest 4 = .ok (.iload_n 1, 1) := by decide +kernel
theorem dX7_nearest_5 : decode cX7_nearest 5 = .ok (.invokevirtual 179, 3) := by decide +kernel
theorem dX7_nearest_8 : decode cX7_nearest 8 = .ok (.ifCond .ne 5, 3) := by decide +kernel
theorem dX7_nearest_11 : decode cX7_nearest 11 = .ok (.iconst (-1), 1) := by decide +kernel
theorem dX7_nearest_12 : decode cX7_nearest 12 = .ok (.ireturn, 1) := by decide +kernel
theorem dX7_nearest_13 : decode cX7_nearest 13 = .ok (.aload_n 0, 1) := by decide +kernel
theorem dX7_nearest_14 : decode cX7_nearest 14 = .ok (.getfield 12, 3) := by decide +kernel
theorem dX7_nearest_17 : decode cX7_nearest 17 = .ok (.iload_n 1, 1) := by decide +kernel
theorem dX7_nearest_18 : decode cX7_nearest 18 = .ok (.iload_n 2, 1) := by decide +kernel
theorem dX7_nearest_19 : decode cX7_nearest 19 = .ok (.invokevirtual 359, 3) := by decide +kernel
theorem dX7_nearest_22 : decode cX7_nearest 22 = .ok (.ireturn, 1) := by decide +kernel
theorem dX7_shots_0 : decode cX7_shots 0 = .ok (.aload_n 0, 1) := by decide +kernel
theorem dX7_shots_1 : decode cX7_shots 1 = .ok (.getfield 12, 3) := by decide +kernel
theorem dX7_shots_4 : decode cX7_shots 4 = .ok (.iload_n 1, 1) := by decide +kernel
theorem dX7_shots_5 : decode cX7_shots 5 = .ok (.invokevirtual 179, 3) := by decide +kernel
theorem dX7_shots_8 : decode cX7_shots 8 = .ok (.ifCond .ne 5, 3) := by decide +kernel
theorem dX7_shots_11 : decode cX7_shots 11 = .ok (.iconst (-1), 1) := by decide +kernel
theorem dX7_shots_12 : decode cX7_shots 12 = .ok (.ireturn, 1) := by decide +kernel
theorem dX7_shots_13 : decode cX7_shots 13 = .ok (.aload_n 0, 1) := by decide +kernel
theorem dX7_shots_14 : decode cX7_shots 14 = .ok (.getfield 12, 3) := by decide +kernel
theorem dX7_shots_17 : decode cX7_shots 17 = .ok (.getfield 155, 3) := by decide +kernel
theorem dX7_shots_20 : decode cX7_shots 20 = .ok (.iload_n 1, 1) := by decide +kernel
theorem dX7_shots_21 : decode cX7_shots 21 = .ok (.aaload, 1) := by decide +kernel
theorem dX7_shots_22 : decode cX7_shots 22 = .ok (.invokevirtual 182, 3) := by decide +kernel
theorem dX7_shots_25 : decode cX7_shots 25 = .ok (.ifCond .ne 6, 3) := by decide +kernel
theorem dX7_shots_28 : decode cX7_shots 28 = .ok (.bipush (-4), 2) := by decide +kernel
theorem dX7_shots_30 : decode cX7_shots 30 = .ok (.ireturn, 1) := by decide +kernel
theorem dX7_shots_31 : decode cX7_shots 31 = .ok (.iload_n 2, 1) := by decide +kernel
theorem dX7_shots_32 : decode cX7_shots 32 = .ok (.ifCond .eq 14, 3) := by decide +kernel
theorem dX7_shots_35 : decode cX7_shots 35 = .ok (.aload_n 0, 1) := by decide +kernel
theorem dX7_shots_36 : decode cX7_shots 36 = .ok (.getfield 12, 3) := by decide +kernel
theorem dX7_shots_39 : decode cX7_shots 39 = .ok (.iload_n 1, 1) := by decide +kernel
theorem dX7_shots_40 : decode cX7_shots 40 = .ok (.invokevirtual 362, 3) := by decide +kernel
theorem dX7_shots_43 : decode cX7_shots 43 = .ok (.goto 11, 3) := by decide +kernel
theorem dX7_shots_46 : decode cX7_shots 46 = .ok (.aload_n 0, 1) := by decide +kernel
theorem dX7_shots_47 : decode cX7_shots 47 = .ok (.getfield 12, 3) := by decide +kernel
theorem dX7_shots_50 : decode cX7_shots 50 = .ok (.iload_n 1, 1) := by decide +kernel
theorem dX7_shots_51 : decode cX7_shots 51 = .ok (.invokevirtual 248, 3) := by decide +kernel
theorem dX7_shots_54 : decode cX7_shots 54 = .ok (.ireturn, 1) := by decide +kernel
theorem dX7_would_0 : decode cX7_would 0 = .ok (.aload_n 0, 1) := by decide +kernel
theorem dX7_would_1 : decode cX7_would 1 = .ok (.getfield 12, 3) := by decide +kernel
theorem dX7_would_4 : decode cX7_would 4 = .ok (.iload_n 1, 1) := by decide +kernel
theorem dX7_would_5 : decode cX7_would 5 = .ok (.invokevirtual 179, 3) := by decide +kernel
theorem dX7_would_8 : decode cX7_would 8 = .ok (.ifCond .eq 14, 3) := by decide +kernel
theorem dX7_would_11 : decode cX7_would 11 = .ok (.aload_n 0, 1) := by decide +kernel
theorem dX7_would_12 : decode cX7_would 12 = .ok (.getfield 12, 3) := by decide +kernel
theorem dX7_would_15 : decode cX7_would 15 = .ok (.iload_n 2, 1) := by decide +kernel
theorem dX7_would_16 : decode cX7_would 16 = .ok (.invokevirtual 204, 3) := by decide +kernel
theorem dX7_would_19 : decode cX7_would 19 = .ok (.ifCond .ne 5, 3) := by decide +kernel
theorem dX7_would_22 : decode cX7_would 22 = .ok (.iconst (-1), 1) := by decide +kernel
theorem dX7_would_23 : decode cX7_would 23 = .ok (.ireturn, 1) := by decide +kernel
theorem dX7_would_24 : decode cX7_would 24 = .ok (.aload_n 0, 1) := by decide +kernel
theorem dX7_would_25 : decode cX7_would 25 = .ok (.getfield 12, 3) := by decide +kernel
theorem dX7_would_28 : decode cX7_would 28 = .ok (.getfield 155, 3) := by decide +kernel
theorem dX7_would_31 : decode cX7_would 31 = .ok (.iload_n 1, 1) := by decide +kernel
theorem dX7_would_32 : decode cX7_would 32 = .ok (.aaload, 1) := by decide +kernel
theorem dX7_would_33 : decode cX7_would 33 = .ok (.iload_n 3, 1) := by decide +kernel
theorem dX7_would_34 : decode cX7_would 34 = .ok (.invokevirtual 207, 3) := by decide +kernel
theorem dX7_would_37 : decode cX7_would 37 = .ok (.ifCond .eq 11, 3) := by decide +kernel
theorem dX7_would_40 : decode cX7_would 40 = .ok (.iload 4, 2) := by decide +kernel
theorem dX7_would_42 : decode cX7_would 42 = .ok (.invokestatic 210, 3) := by decide +kernel
theorem dX7_would_45 : decode cX7_would 45 = .ok (.ifCond .ne 6, 3) := by decide +kernel
theorem dX7_would_48 : decode cX7_would 48 = .ok (.bipush (-2), 2) := by decide +kernel
theorem dX7_would_50 : decode cX7_would 50 = .ok (.ireturn, 1) := by decide +kernel
theorem dX7_would_51 : decode cX7_would 51 = .ok (.aload_n 0, 1) := by decide +kernel
theorem dX7_would_52 : decode cX7_would 52 = .ok (.getfield 12, 3) := by decide +kernel
theorem dX7_would_55 : decode cX7_would 55 = .ok (.iload_n 1, 1) := by decide +kernel
theorem dX7_would_56 : decode cX7_would 56 = .ok (.iload_n 2, 1) := by decide +kernel
theorem dX7_would_57 : decode cX7_would 57 = .ok (.iload_n 3, 1) := by decide +kernel
theorem dX7_would_58 : decode cX7_would 58 = .ok (.iload 4, 2) := by decide +kernel
theorem dX7_would_60 : decode cX7_would 60 = .ok (.iload 5, 2) := by decide +kernel
theorem dX7_would_62 : decode cX7_would 62 = .ok (.invokevirtual 217, 3) := by decide +kernel
theorem dX7_would_65 : decode cX7_would 65 = .ok (.ireturn, 1) := by decide +kernel
theorem dX7_bestStrength_0 : decode cX7_bestStrength 0 = .ok (.aload_n 0, 1) := by decide +kernel
theorem dX7_bestStrength_1 : decode cX7_bestStrength 1 = .ok (.getfield 12, 3) := by decide +kernel
theorem dX7_bestStrength_4 : decode cX7_bestStrength 4 = .ok (.iload_n 1, 1) := by decide +kernel
theorem dX7_bestStrength_5 : decode cX7_bestStrength 5 = .ok (.invokevirtual 179, 3) := by decide +kernel
theorem dX7_bestStrength_8 : decode cX7_bestStrength 8 = .ok (.ifCond .eq 14, 3) := by decide +kernel
theorem dX7_bestStrength_11 : decode cX7_bestStrength 11 = .ok (.aload_n 0, 1) := by decide +kernel
theorem dX7_bestStrength_12 : decode cX7_bestStrength 12 = .ok (.getfield 12, 3) := by decide +kernel
theorem dX7_bestStrength_15 : decode cX7_bestStrength 15 = .ok (.iload_n 2, 1) := by decide +kernel
theorem dX7_bestStrength_16 : decode cX7_bestStrength 16 = .ok (.invokevirtual 204, 3) := by decide +kernel
theorem dX7_bestStrength_19 : decode cX7_bestStrength 19 = .ok (.ifCond .ne 5, 3) := by decide +kernel
theorem dX7_bestStrength_22 : decode cX7_bestStrength 22 = .ok (.iconst (-1), 1) := by decide +kernel
theorem dX7_bestStrength_23 : decode cX7_bestStrength 23 = .ok (.ireturn, 1) := by decide +kernel
theorem dX7_bestStrength_24 : decode cX7_bestStrength 24 = .ok (.aload_n 0, 1) := by decide +kernel
theorem dX7_bestStrength_25 : decode cX7_bestStrength 25 = .ok (.getfield 12, 3) := by decide +kernel
theorem dX7_bestStrength_28 : decode cX7_bestStrength 28 = .ok (.getfield 155, 3) := by decide +kernel
theorem dX7_bestStrength_31 : decode cX7_bestStrength 31 = .ok (.iload_n 1, 1) := by decide +kernel
theorem dX7_bestStrength_32 : decode cX7_bestStrength 32 = .ok (.aaload, 1) := by decide +kernel
theorem dX7_bestStrength_33 : decode cX7_bestStrength 33 = .ok (.astore 5, 2) := by decide +kernel
theorem dX7_bestStrength_35 : decode cX7_bestStrength 35 = .ok (.aload 5, 2) := by decide +kernel
theorem dX7_bestStrength_37 : decode cX7_bestStrength 37 = .ok (.iload_n 3, 1) := by decide +kernel
theorem dX7_bestStrength_38 : decode cX7_bestStrength 38 = .ok (.invokevirtual 207, 3) := by decide +kernel
theorem dX7_bestStrength_41 : decode cX7_bestStrength 41 = .ok (.ifCond .ne 6, 3) := by decide +kernel
theorem dX7_bestStrength_44 : decode cX7_bestStrength 44 = .ok (.bipush (-2), 2) := by decide +kernel
theorem dX7_bestStrength_46 : decode cX7_bestStrength 46 = .ok (.ireturn, 1) := by decide +kernel
theorem dX7_bestStrength_47 : decode cX7_bestStrength 47 = .ok (.aload 5, 2) := by decide +kernel
theorem dX7_bestStrength_49 : decode cX7_bestStrength 49 = .ok (.invokevirtual 182, 3) := by decide +kernel
theorem dX7_bestStrength_52 : decode cX7_bestStrength 52 = .ok (.ifCond .ne 6, 3) := by decide +kernel
theorem dX7_bestStrength_55 : decode cX7_bestStrength 55 = .ok (.bipush (-4), 2) := by decide +kernel
theorem dX7_bestStrength_57 : decode cX7_bestStrength 57 = .ok (.ireturn, 1) := by decide +kernel
theorem dX7_bestStrength_58 : decode cX7_bestStrength 58 = .ok (.bipush (-4), 2) := by decide +kernel
theorem dX7_bestStrength_60 : decode cX7_bestStrength 60 = .ok (.istore 6, 2) := by decide +kernel
theorem dX7_bestStrength_62 : decode cX7_bestStrength 62 = .ok (.ldc_w 365, 3) := by decide +kernel
theorem dX7_bestStrength_65 : decode cX7_bestStrength 65 = .ok (.istore 7, 2) := by decide +kernel
theorem dX7_bestStrength_67 : decode cX7_bestStrength 67 = .ok (.iconst 1, 1) := by decide +kernel
theorem dX7_bestStrength_68 : decode cX7_bestStrength 68 = .ok (.istore 8, 2) := by decide +kernel
theorem dX7_bestStrength_70 : decode cX7_bestStrength 70 = .ok (.iload 8, 2) := by decide +kernel
theorem dX7_bestStrength_72 : decode cX7_bestStrength 72 = .ok (.bipush 20, 2) := by decide +kernel
theorem dX7_bestStrength_74 : decode cX7_bestStrength 74 = .ok (.if_icmp .gt 64, 3) := by decide +kernel
theorem dX7_bestStrength_77 : decode cX7_bestStrength 77 = .ok (.aload_n 0, 1) := by decide +kernel
theorem dX7_bestStrength_78 : decode cX7_bestStrength 78 = .ok (.getfield 12, 3) := by decide +kernel
theorem dX7_bestStrength_81 : decode cX7_bestStrength 81 = .ok (.iload_n 1, 1) := by decide +kernel
theorem dX7_bestStrength_82 : decode cX7_bestStrength 82 = .ok (.iload_n 2, 1) := by decide +kernel
theorem dX7_bestStrength_83 : decode cX7_bestStrength 83 = .ok (.iload_n 3, 1) := by decide +kernel
theorem dX7_bestStrength_84 : decode cX7_bestStrength 84 = .ok (.iload 8, 2) := by decide +kernel
theorem dX7_bestStrength_86 : decode cX7_bestStrength 86 = .ok (.iload 4, 2) := by decide +kernel
theorem dX7_bestStrength_88 : decode cX7_bestStrength 88 = .ok (.invokevirtual 217, 3) := by decide +kernel
theorem dX7_bestStrength_91 : decode cX7_bestStrength 91 = .ok (.istore 9, 2) := by decide +kernel
theorem dX7_bestStrength_93 : decode cX7_bestStrength 93 = .ok (.iload 9, 2) := by decide +kernel
theorem dX7_bestStrength_95 : decode cX7_bestStrength 95 = .ok (.bipush (-4), 2) := by decide +kernel
theorem dX7_bestStrength_97 : decode cX7_bestStrength 97 = .ok (.if_icmp .eq 35, 3) := by decide +kernel
theorem dX7_bestStrength_100 : decode cX7_bestStrength 100 = .ok (.aload 5, 2) := by decide +kernel
theorem dX7_bestStrength_102 : decode cX7_bestStrength 102 = .ok (.iload 9, 2) := by decide +kernel
theorem dX7_bestStrength_104 : decode cX7_bestStrength 104 = .ok (.bipush 100, 2) := by decide +kernel
theorem dX7_bestStrength_106 : decode cX7_bestStrength 106 = .ok (.idiv, 1) := by decide +kernel
theorem dX7_bestStrength_107 : decode cX7_bestStrength 107 = .ok (.iload 9, 2) := by decide +kernel
theorem dX7_bestStrength_109 : decode cX7_bestStrength 109 = .ok (.bipush 100, 2) := by decide +kernel
theorem dX7_bestStrength_111 : decode cX7_bestStrength 111 = .ok (.irem, 1) := by decide +kernel
theorem dX7_bestStrength_112 : decode cX7_bestStrength 112 = .ok (.invokevirtual 243, 3) := by decide +kernel
theorem dX7_bestStrength_115 : decode cX7_bestStrength 115 = .ok (.istore 10, 2) := by decide +kernel
theorem dX7_bestStrength_117 : decode cX7_bestStrength 117 = .ok (.iload 10, 2) := by decide +kernel
theorem dX7_bestStrength_119 : decode cX7_bestStrength 119 = .ok (.iload 7, 2) := by decide +kernel
theorem dX7_bestStrength_121 : decode cX7_bestStrength 121 = .ok (.if_icmp .ge 11, 3) := by decide +kernel
theorem dX7_bestStrength_124 : decode cX7_bestStrength 124 = .ok (.iload 10, 2) := by decide +kernel
theorem dX7_bestStrength_126 : decode cX7_bestStrength 126 = .ok (.istore 7, 2) := by decide +kernel
theorem dX7_bestStrength_128 : decode cX7_bestStrength 128 = .ok (.iload 8, 2) := by decide +kernel
theorem dX7_bestStrength_130 : decode cX7_bestStrength 130 = .ok (.istore 6, 2) := by decide +kernel
theorem dX7_bestStrength_132 : decode cX7_bestStrength 132 = .ok (.iinc 8 1, 3) := by decide +kernel
theorem dX7_bestStrength_135 : decode cX7_bestStrength 135 = .ok (.goto (-65), 3) := by decide +kernel
theorem dX7_bestStrength_138 : decode cX7_bestStrength 138 = .ok (.iload 6, 2) := by decide +kernel
theorem dX7_bestStrength_140 : decode cX7_bestStrength 140 = .ok (.ireturn, 1) := by decide +kernel
theorem dX7_wetIn_0 : decode cX7_wetIn 0 = .ok (.aload_n 0, 1) := by decide +kernel
theorem dX7_wetIn_1 : decode cX7_wetIn 1 = .ok (.getfield 12, 3) := by decide +kernel
theorem dX7_wetIn_4 : decode cX7_wetIn 4 = .ok (.iload_n 1, 1) := by decide +kernel
theorem dX7_wetIn_5 : decode cX7_wetIn 5 = .ok (.invokevirtual 179, 3) := by decide +kernel
theorem dX7_wetIn_8 : decode cX7_wetIn 8 = .ok (.ifCond .ne 5, 3) := by decide +kernel
theorem dX7_wetIn_11 : decode cX7_wetIn 11 = .ok (.iconst (-1), 1) := by decide +kernel
theorem dX7_wetIn_12 : decode cX7_wetIn 12 = .ok (.ireturn, 1) := by decide +kernel
theorem dX7_wetIn_13 : decode cX7_wetIn 13 = .ok (.iload_n 2, 1) := by decide +kernel
theorem dX7_wetIn_14 : decode cX7_wetIn 14 = .ok (.ifCond .lt 9, 3) := by decide +kernel
theorem dX7_wetIn_17 : decode cX7_wetIn 17 = .ok (.iload_n 2, 1) := by decide +kernel
theorem dX7_wetIn_18 : decode cX7_wetIn 18 = .ok (.bipush 40, 2) := by decide +kernel
theorem dX7_wetIn_20 : decode cX7_wetIn 20 = .ok (.if_icmp .le 6, 3) := by decide +kernel
theorem dX7_wetIn_23 : decode cX7_wetIn 23 = .ok (.bipush (-2), 2) := by decide +kernel
theorem dX7_wetIn_25 : decode cX7_wetIn 25 = .ok (.ireturn, 1) := by decide +kernel
theorem dX7_wetIn_26 : decode cX7_wetIn 26 = .ok (.aload_n 0, 1) := by decide +kernel
theorem dX7_wetIn_27 : decode cX7_wetIn 27 = .ok (.getfield 12, 3) := by decide +kernel
theorem dX7_wetIn_30 : decode cX7_wetIn 30 = .ok (.iload_n 1, 1) := by decide +kernel
theorem dX7_wetIn_31 : decode cX7_wetIn 31 = .ok (.iload_n 2, 1) := by decide +kernel
theorem dX7_wetIn_32 : decode cX7_wetIn 32 = .ok (.invokevirtual 366, 3) := by decide +kernel
theorem dX7_wetIn_35 : decode cX7_wetIn 35 = .ok (.ireturn, 1) := by decide +kernel
theorem dX7_castsIn_0 : decode cX7_castsIn 0 = .ok (.aload_n 0, 1) := by decide +kernel
theorem dX7_castsIn_1 : decode cX7_castsIn 1 = .ok (.getfield 12, 3) := by decide +kernel
theorem dX7_castsIn_4 : decode cX7_castsIn 4 = .ok (.iload_n 1, 1) := by decide +kernel
theorem dX7_castsIn_5 : decode cX7_castsIn 5 = .ok (.invokevirtual 179, 3) := by decide +kernel
theorem dX7_castsIn_8 : decode cX7_castsIn 8 = .ok (.ifCond .ne 5, 3) := by decide +kernel
theorem dX7_castsIn_11 : decode cX7_castsIn 11 = .ok (.iconst (-1), 1) := by decide +kernel
theorem dX7_castsIn_12 : decode cX7_castsIn 12 = .ok (.ireturn, 1) := by decide +kernel
theorem dX7_castsIn_13 : decode cX7_castsIn 13 = .ok (.iload_n 2, 1) := by decide +kernel
theorem dX7_castsIn_14 : decode cX7_castsIn 14 = .ok (.ifCond .lt 9, 3) := by decide +kernel
theorem dX7_castsIn_17 : decode cX7_castsIn 17 = .ok (.iload_n 2, 1) := by decide +kernel
theorem dX7_castsIn_18 : decode cX7_castsIn 18 = .ok (.bipush 40, 2) := by decide +kernel
theorem dX7_castsIn_20 : decode cX7_castsIn 20 = .ok (.if_icmp .le 6, 3) := by decide +kernel
theorem dX7_castsIn_23 : decode cX7_castsIn 23 = .ok (.bipush (-2), 2) := by decide +kernel
theorem dX7_castsIn_25 : decode cX7_castsIn 25 = .ok (.ireturn, 1) := by decide +kernel
theorem dX7_castsIn_26 : decode cX7_castsIn 26 = .ok (.aload_n 0, 1) := by decide +kernel
theorem dX7_castsIn_27 : decode cX7_castsIn 27 = .ok (.getfield 12, 3) := by decide +kernel
theorem dX7_castsIn_30 : decode cX7_castsIn 30 = .ok (.iload_n 1, 1) := by decide +kernel
theorem dX7_castsIn_31 : decode cX7_castsIn 31 = .ok (.iload_n 2, 1) := by decide +kernel
theorem dX7_castsIn_32 : decode cX7_castsIn 32 = .ok (.invokevirtual 369, 3) := by decide +kernel
theorem dX7_castsIn_35 : decode cX7_castsIn 35 = .ok (.ireturn, 1) := by decide +kernel
theorem dX7_dryIn_0 : decode cX7_dryIn 0 = .ok (.aload_n 0, 1) := by decide +kernel
theorem dX7_dryIn_1 : decode cX7_dryIn 1 = .ok (.getfield 12, 3) := by decide +kernel
theorem dX7_dryIn_4 : decode cX7_dryIn 4 = .ok (.iload_n 1, 1) := by decide +kernel
theorem dX7_dryIn_5 : decode cX7_dryIn 5 = .ok (.invokevirtual 179, 3) := by decide +kernel
theorem dX7_dryIn_8 : decode cX7_dryIn 8 = .ok (.ifCond .ne 5, 3) := by decide +kernel
theorem dX7_dryIn_11 : decode cX7_dryIn 11 = .ok (.iconst (-1), 1) := by decide +kernel
theorem dX7_dryIn_12 : decode cX7_dryIn 12 = .ok (.ireturn, 1) := by decide +kernel
theorem dX7_dryIn_13 : decode cX7_dryIn 13 = .ok (.aload_n 0, 1) := by decide +kernel
theorem dX7_dryIn_14 : decode cX7_dryIn 14 = .ok (.getfield 12, 3) := by decide +kernel
theorem dX7_dryIn_17 : decode cX7_dryIn 17 = .ok (.iload_n 1, 1) := by decide +kernel
theorem dX7_dryIn_18 : decode cX7_dryIn 18 = .ok (.invokevirtual 192, 3) := by decide +kernel
theorem dX7_dryIn_21 : decode cX7_dryIn 21 = .ok (.istore_n 2, 1) := by decide +kernel
theorem dX7_dryIn_22 : decode cX7_dryIn 22 = .ok (.iload_n 2, 1) := by decide +kernel
theorem dX7_dryIn_23 : decode cX7_dryIn 23 = .ok (.iconst (-1), 1) := by decide +kernel
theorem dX7_dryIn_24 : decode cX7_dryIn 24 = .ok (.if_icmp .ne 8, 3) := by decide +kernel
theorem dX7_dryIn_27 : decode cX7_dryIn 27 = .ok (.bipush (-4), 2) := by decide +kernel
theorem dX7_dryIn_29 : decode cX7_dryIn 29 = .ok (.goto 4, 3) := by decide +kernel
theorem dX7_dryIn_32 : decode cX7_dryIn 32 = .ok (.iload_n 2, 1) := by decide +kernel
theorem dX7_dryIn_33 : decode cX7_dryIn 33 = .ok (.ireturn, 1) := by decide +kernel
theorem dX7_leader_0 : decode cX7_leader 0 = .ok (.aload_n 0, 1) := by decide +kernel
theorem dX7_leader_1 : decode cX7_leader 1 = .ok (.getfield 12, 3) := by decide +kernel
theorem dX7_leader_4 : decode cX7_leader 4 = .ok (.getfield 251, 3) := by decide +kernel
theorem dX7_leader_7 : decode cX7_leader 7 = .ok (.iconst 0, 1) := by decide +kernel
theorem dX7_leader_8 : decode cX7_leader 8 = .ok (.aaload, 1) := by decide +kernel
theorem dX7_leader_9 : decode cX7_leader 9 = .ok (.astore_n 1, 1) := by decide +kernel
theorem dX7_leader_10 : decode cX7_leader 10 = .ok (.aload_n 0, 1) := by decide +kernel
theorem dX7_leader_11 : decode cX7_leader 11 = .ok (.getfield 12, 3) := by decide +kernel
theorem dX7_leader_14 : decode cX7_leader 14 = .ok (.getfield 251, 3) := by decide +kernel
theorem dX7_leader_17 : decode cX7_leader 17 = .ok (.iconst 1, 1) := by decide +kernel
theorem dX7_leader_18 : decode cX7_leader 18 = .ok (.aaload, 1) := by decide +kernel
theorem dX7_leader_19 : decode cX7_leader 19 = .ok (.astore_n 2, 1) := by decide +kernel
theorem dX7_leader_20 : decode cX7_leader 20 = .ok (.aload_n 1, 1) := by decide +kernel
theorem dX7_leader_21 : decode cX7_leader 21 = .ok (.getfield 255, 3) := by decide +kernel
theorem dX7_leader_24 : decode cX7_leader 24 = .ok (.aload_n 2, 1) := by decide +kernel
theorem dX7_leader_25 : decode cX7_leader 25 = .ok (.getfield 255, 3) := by decide +kernel
theorem dX7_leader_28 : decode cX7_leader 28 = .ok (.if_icmp .eq 20, 3) := by decide +kernel
theorem dX7_leader_31 : decode cX7_leader 31 = .ok (.aload_n 1, 1) := by decide +kernel
theorem dX7_leader_32 : decode cX7_leader 32 = .ok (.getfield 255, 3) := by decide +kernel
theorem dX7_leader_35 : decode cX7_leader 35 = .ok (.aload_n 2, 1) := by decide +kernel
theorem dX7_leader_36 : decode cX7_leader 36 = .ok (.getfield 255, 3) := by decide +kernel
theorem dX7_leader_39 : decode cX7_leader 39 = .ok (.if_icmp .le 7, 3) := by decide +kernel
theorem dX7_leader_42 : decode cX7_leader 42 = .ok (.iconst 0, 1) := by decide +kernel
theorem dX7_leader_43 : decode cX7_leader 43 = .ok (.goto 4, 3) := by decide +kernel
theorem dX7_leader_46 : decode cX7_leader 46 = .ok (.iconst 1, 1) := by decide +kernel
theorem dX7_leader_47 : decode cX7_leader 47 = .ok (.ireturn, 1) := by decide +kernel
theorem dX7_leader_48 : decode cX7_leader 48 = .ok (.aload_n 1, 1) := by decide +kernel
theorem dX7_leader_49 : decode cX7_leader 49 = .ok (.getfield 260, 3) := by decide +kernel
theorem dX7_leader_52 : decode cX7_leader 52 = .ok (.aload_n 2, 1) := by decide +kernel
theorem dX7_leader_53 : decode cX7_leader 53 = .ok (.getfield 260, 3) := by decide +kernel
theorem dX7_leader_56 : decode cX7_leader 56 = .ok (.if_icmp .eq 20, 3) := by decide +kernel
theorem dX7_leader_59 : decode cX7_leader 59 = .ok (.aload_n 1, 1) := by decide +kernel
theorem dX7_leader_60 : decode cX7_leader 60 = .ok (.getfield 260, 3) := by decide +kernel
theorem dX7_leader_63 : decode cX7_leader 63 = .ok (.aload_n 2, 1) := by decide +kernel
theorem dX7_leader_64 : decode cX7_leader 64 = .ok (.getfield 260, 3) := by decide +kernel
theorem dX7_leader_67 : decode cX7_leader 67 = .ok (.if_icmp .le 7, 3) := by decide +kernel
theorem dX7_leader_70 : decode cX7_leader 70 = .ok (.iconst 0, 1) := by decide +kernel
theorem dX7_leader_71 : decode cX7_leader 71 = .ok (.goto 4, 3) := by decide +kernel
theorem dX7_leader_74 : decode cX7_leader 74 = .ok (.iconst 1, 1) := by decide +kernel
theorem dX7_leader_75 : decode cX7_leader 75 = .ok (.ireturn, 1) := by decide +kernel
theorem dX7_leader_76 : decode cX7_leader 76 = .ok (.bipush (-4), 2) := by decide +kernel
theorem dX7_leader_78 : decode cX7_leader 78 = .ok (.ireturn, 1) := by decide +kernel
theorem dX7_describe_0 : decode cX7_describe 0 = .ok (.aload_n 0, 1) := by decide +kernel
theorem dX7_describe_1 : decode cX7_describe 1 = .ok (.getfield 12, 3) := by decide +kernel
theorem dX7_describe_4 : decode cX7_describe 4 = .ok (.iload_n 1, 1) := by decide +kernel
theorem dX7_describe_5 : decode cX7_describe 5 = .ok (.invokevirtual 179, 3) := by decide +kernel
theorem dX7_describe_8 : decode cX7_describe 8 = .ok (.ifCond .ne 5, 3) := by decide +kernel
theorem dX7_describe_11 : decode cX7_describe 11 = .ok (.iconst (-1), 1) := by decide +kernel
theorem dX7_describe_12 : decode cX7_describe 12 = .ok (.ireturn, 1) := by decide +kernel
theorem dX7_describe_13 : decode cX7_describe 13 = .ok (.aload_n 0, 1) := by decide +kernel
theorem dX7_describe_14 : decode cX7_describe 14 = .ok (.getfield 12, 3) := by decide +kernel
theorem dX7_describe_17 : decode cX7_describe 17 = .ok (.getfield 155, 3) := by decide +kernel
theorem dX7_describe_20 : decode cX7_describe 20 = .ok (.iload_n 1, 1) := by decide +kernel
theorem dX7_describe_21 : decode cX7_describe 21 = .ok (.aaload, 1) := by decide +kernel
theorem dX7_describe_22 : decode cX7_describe 22 = .ok (.astore_n 2, 1) := by decide +kernel
theorem dX7_describe_23 : decode cX7_describe 23 = .ok (.aload_n 0, 1) := by decide +kernel
theorem dX7_describe_24 : decode cX7_describe 24 = .ok (.getfield 55, 3) := by decide +kernel
theorem dX7_describe_27 : decode cX7_describe 27 = .ok (.iconst 0, 1) := by decide +kernel
theorem dX7_describe_28 : decode cX7_describe 28 = .ok (.invokevirtual 128, 3) := by decide +kernel
theorem dX7_describe_31 : decode cX7_describe 31 = .ok (.aload_n 0, 1) := by decide +kernel
theorem dX7_describe_32 : decode cX7_describe 32 = .ok (.getfield 55, 3) := by decide +kernel
theorem dX7_describe_35 : decode cX7_describe 35 = .ok (.aload_n 2, 1) := by decide +kernel
theorem dX7_describe_36 : decode cX7_describe 36 = .ok (.getfield 335, 3) := by decide +kernel
theorem dX7_describe_39 : decode cX7_describe 39 = .ok (.invokevirtual 372, 3) := by decide +kernel
theorem dX7_describe_42 : decode cX7_describe 42 = .ok (.bipush 45, 2) := by decide +kernel
theorem dX7_describe_44 : decode cX7_describe 44 = .ok (.invokevirtual 71, 3) := by decide +kernel
theorem dX7_describe_47 : decode cX7_describe 47 = .ok (.aload_n 2, 1) := by decide +kernel
theorem dX7_describe_48 : decode cX7_describe 48 = .ok (.getfield 338, 3) := by decide +kernel
theorem dX7_describe_51 : decode cX7_describe 51 = .ok (.invokevirtual 372, 3) := by decide +kernel
theorem dX7_describe_54 : decode cX7_describe 54 = .ok (.ldc_w 375, 3) := by decide +kernel
theorem dX7_describe_57 : decode cX7_describe 57 = .ok (.invokevirtual 377, 3) := by decide +kernel
theorem dX7_describe_60 : decode cX7_describe 60 = .ok (.pop, 1) := by decide +kernel
theorem dX7_describe_61 : decode cX7_describe 61 = .ok (.aload_n 2, 1) := by decide +kernel
theorem dX7_describe_62 : decode cX7_describe 62 = .ok (.getfield 189, 3) := by decide +kernel
theorem dX7_describe_65 : decode cX7_describe 65 = .ok (.ifCond .ne 17, 3) := by decide +kernel
theorem dX7_describe_68 : decode cX7_describe 68 = .ok (.aload_n 0, 1) := by decide +kernel
theorem dX7_describe_69 : decode cX7_describe 69 = .ok (.getfield 55, 3) := by decide +kernel
theorem dX7_describe_72 : decode cX7_describe 72 = .ok (.ldc_w 380, 3) := by decide +kernel
theorem dX7_describe_75 : decode cX7_describe 75 = .ok (.invokevirtual 377, 3) := by decide +kernel
theorem dX7_describe_78 : decode cX7_describe 78 = .ok (.pop, 1) := by decide +kernel
theorem dX7_describe_79 : decode cX7_describe 79 = .ok (.goto 21, 3) := by decide +kernel
theorem dX7_describe_82 : decode cX7_describe 82 = .ok (.aload_n 0, 1) := by decide +kernel
theorem dX7_describe_83 : decode cX7_describe 83 = .ok (.getfield 55, 3) := by decide +kernel
theorem dX7_describe_86 : decode cX7_describe 86 = .ok (.ldc_w 382, 3) := by decide +kernel
theorem dX7_describe_89 : decode cX7_describe 89 = .ok (.invokevirtual 377, 3) := by decide +kernel
theorem dX7_describe_92 : decode cX7_describe 92 = .ok (.aload_n 2, 1) := by decide +kernel
theorem dX7_describe_93 : decode cX7_describe 93 = .ok (.getfield 189, 3) := by decide +kernel
theorem dX7_describe_96 : decode cX7_describe 96 = .ok (.invokevirtual 372, 3) := by decide +kernel
theorem dX7_describe_99 : decode cX7_describe 99 = .ok (.pop, 1) := by decide +kernel
theorem dX7_describe_100 : decode cX7_describe 100 = .ok (.aload_n 2, 1) := by decide +kernel
theorem dX7_describe_101 : decode cX7_describe 101 = .ok (.invokevirtual 182, 3) := by decide +kernel
theorem dX7_describe_104 : decode cX7_describe 104 = .ok (.ifCond .eq 21, 3) := by decide +kernel
theorem dX7_describe_107 : decode cX7_describe 107 = .ok (.aload_n 0, 1) := by decide +kernel
theorem dX7_describe_108 : decode cX7_describe 108 = .ok (.getfield 55, 3) := by decide +kernel
theorem dX7_describe_111 : decode cX7_describe 111 = .ok (.ldc_w 384, 3) := by decide +kernel
theorem dX7_describe_114 : decode cX7_describe 114 = .ok (.invokevirtual 377, 3) := by decide +kernel
theorem dX7_describe_117 : decode cX7_describe 117 = .ok (.aload_n 2, 1) := by decide +kernel
theorem dX7_describe_118 : decode cX7_describe 118 = .ok (.getfield 186, 3) := by decide +kernel
theorem dX7_describe_121 : decode cX7_describe 121 = .ok (.invokevirtual 372, 3) := by decide +kernel
theorem dX7_describe_124 : decode cX7_describe 124 = .ok (.pop, 1) := by decide +kernel
theorem dX7_describe_125 : decode cX7_describe 125 = .ok (.aload_n 0, 1) := by decide +kernel
theorem dX7_describe_126 : decode cX7_describe 126 = .ok (.getfield 12, 3) := by decide +kernel
theorem dX7_describe_129 : decode cX7_describe 129 = .ok (.iload_n 1, 1) := by decide +kernel
theorem dX7_describe_130 : decode cX7_describe 130 = .ok (.iconst 1, 1) := by decide +kernel
theorem dX7_describe_131 : decode cX7_describe 131 = .ok (.invokevirtual 341, 3) := by decide +kernel
theorem dX7_describe_134 : decode cX7_describe 134 = .ok (.istore_n 3, 1) := by decide +kernel
theorem dX7_describe_135 : decode cX7_describe 135 = .ok (.iconst 0, 1) := by decide +kernel
theorem dX7_describe_136 : decode cX7_describe 136 = .ok (.istore 4, 2) := by decide +kernel
theorem dX7_describe_138 : decode cX7_describe 138 = .ok (.iload 4, 2) := by decide +kernel
theorem dX7_describe_140 : decode cX7_describe 140 = .ok (.iload_n 3, 1) := by decide +kernel
theorem dX7_describe_141 : decode cX7_describe 141 = .ok (.if_icmp .ge 23, 3) := by decide +kernel
theorem dX7_describe_144 : decode cX7_describe 144 = .ok (.aload_n 0, 1) := by decide +kernel
theorem dX7_describe_145 : decode cX7_describe 145 = .ok (.aload_n 0, 1) := by decide +kernel
theorem dX7_describe_146 : decode cX7_describe 146 = .ok (.getfield 12, 3) := by decide +kernel
theorem dX7_describe_149 : decode cX7_describe 149 = .ok (.iload_n 1, 1) := by decide +kernel
theorem dX7_describe_150 : decode cX7_describe 150 = .ok (.iload 4, 2) := by decide +kernel
theorem dX7_describe_152 : decode cX7_describe 152 = .ok (.invokevirtual 359, 3) := by decide +kernel
theorem dX7_describe_155 : decode cX7_describe 155 = .ok (.invokevirtual 386, 3) := by decide +kernel
theorem dX7_describe_158 : decode cX7_describe 158 = .ok (.iinc 4 1, 3) := by decide +kernel
theorem dX7_describe_161 : decode cX7_describe 161 = .ok (.goto (-23), 3) := by decide +kernel
theorem dX7_describe_164 : decode cX7_describe 164 = .ok (.aload_n 0, 1) := by decide +kernel
theorem dX7_describe_165 : decode cX7_describe 165 = .ok (.getfield 55, 3) := by decide +kernel
theorem dX7_describe_168 : decode cX7_describe 168 = .ok (.invokevirtual 67, 3) := by decide +kernel
theorem dX7_describe_171 : decode cX7_describe 171 = .ok (.ireturn, 1) := by decide +kernel
theorem dX7_writeWood_0 : decode cX7_writeWood 0 = .ok (.aload_n 0, 1) := by decide +kernel
theorem dX7_writeWood_1 : decode cX7_writeWood 1 = .ok (.getfield 12, 3) := by decide +kernel
theorem dX7_writeWood_4 : decode cX7_writeWood 4 = .ok (.iload_n 1, 1) := by decide +kernel
theorem dX7_writeWood_5 : decode cX7_writeWood 5 = .ok (.invokevirtual 204, 3) := by decide +kernel
theorem dX7_writeWood_8 : decode cX7_writeWood 8 = .ok (.ifCond .eq 37, 3) := by decide +kernel
theorem dX7_writeWood_11 : decode cX7_writeWood 11 = .ok (.aload_n 0, 1) := by decide +kernel
theorem dX7_writeWood_12 : decode cX7_writeWood 12 = .ok (.getfield 55, 3) := by decide +kernel
theorem dX7_writeWood_15 : decode cX7_writeWood 15 = .ok (.bipush 32, 2) := by decide +kernel
theorem dX7_writeWood_17 : decode cX7_writeWood 17 = .ok (.invokevirtual 71, 3) := by decide +kernel
theorem dX7_writeWood_20 : decode cX7_writeWood 20 = .ok (.iload_n 1, 1) := by decide +kernel
theorem dX7_writeWood_21 : decode cX7_writeWood 21 = .ok (.invokevirtual 372, 3) := by decide +kernel
theorem dX7_writeWood_24 : decode cX7_writeWood 24 = .ok (.bipush 47, 2) := by decide +kernel
theorem dX7_writeWood_26 : decode cX7_writeWood 26 = .ok (.invokevirtual 71, 3) := by decide +kernel
theorem dX7_writeWood_29 : decode cX7_writeWood 29 = .ok (.aload_n 0, 1) := by decide +kernel
theorem dX7_writeWood_30 : decode cX7_writeWood 30 = .ok (.getfield 12, 3) := by decide +kernel
theorem dX7_writeWood_33 : decode cX7_writeWood 33 = .ok (.getfield 170, 3) := by decide +kernel
theorem dX7_writeWood_36 : decode cX7_writeWood 36 = .ok (.iload_n 1, 1) := by decide +kernel
theorem dX7_writeWood_37 : decode cX7_writeWood 37 = .ok (.aaload, 1) := by decide +kernel
theorem dX7_writeWood_38 : decode cX7_writeWood 38 = .ok (.getfield 246, 3) := by decide +kernel
theorem dX7_writeWood_41 : decode cX7_writeWood 41 = .ok (.invokevirtual 372, 3) := by decide +kernel
theorem dX7_writeWood_44 : decode cX7_writeWood 44 = .ok (.pop, 1) := by decide +kernel
theorem dX7_writeWood_45 : decode cX7_writeWood 45 = .ok (.return_, 1) := by decide +kernel
theorem dX7_written_0 : decode cX7_written 0 = .ok (.iload_n 1, 1) := by decide +kernel
theorem dX7_written_1 : decode cX7_written 1 = .ok (.ifCond .lt 14, 3) := by decide +kernel
theorem dX7_written_4 : decode cX7_written 4 = .ok (.iload_n 1, 1) := by decide +kernel
theorem dX7_written_5 : decode cX7_written 5 = .ok (.aload_n 0, 1) := by decide +kernel
theorem dX7_written_6 : decode cX7_written 6 = .ok (.getfield 55, 3) := by decide +kernel
theorem dX7_written_9 : decode cX7_written 9 = .ok (.invokevirtual 67, 3) := by decide +kernel
theorem dX7_written_12 : decode cX7_written 12 = .ok (.if_icmp .lt 5, 3) := by decide +kernel
theorem dX7_written_15 : decode cX7_written 15 = .ok (.iconst (-1), 1) := by decide +kernel
theorem dX7_written_16 : decode cX7_written 16 = .ok (.ireturn, 1) := by decide +kernel
theorem dX7_written_17 : decode cX7_written 17 = .ok (.aload_n 0, 1) := by decide +kernel
theorem dX7_written_18 : decode cX7_written 18 = .ok (.getfield 55, 3) := by decide +kernel
theorem dX7_written_21 : decode cX7_written 21 = .ok (.iload_n 1, 1) := by decide +kernel
theorem dX7_written_22 : decode cX7_written 22 = .ok (.invokevirtual 389, 3) := by decide +kernel
theorem dX7_written_25 : decode cX7_written 25 = .ok (.ireturn, 1) := by decide +kernel
theorem dX7_meanWet_0 : decode cX7_meanWet 0 = .ok (.aload_n 0, 1) := by decide +kernel
theorem dX7_meanWet_1 : decode cX7_meanWet 1 = .ok (.getfield 12, 3) := by decide +kernel
theorem dX7_meanWet_4 : decode cX7_meanWet 4 = .ok (.getfield 146, 3) := by decide +kernel
theorem dX7_meanWet_7 : decode cX7_meanWet 7 = .ok (.ifCond .ne 5, 3) := by decide +kernel
theorem dX7_meanWet_10 : decode cX7_meanWet 10 = .ok (.fconst 0, 1) := by decide +kernel
theorem dX7_meanWet_11 : decode cX7_meanWet 11 = .ok (.freturn, 1) := by decide +kernel
theorem dX7_meanWet_12 : decode cX7_meanWet 12 = .ok (.aload_n 0, 1) := by decide +kernel
theorem dX7_meanWet_13 : decode cX7_meanWet 13 = .ok (.getfield 12, 3) := by decide +kernel
theorem dX7_meanWet_16 : decode cX7_meanWet 16 = .ok (.invokevirtual 393, 3) := by decide +kernel
theorem dX7_meanWet_19 : decode cX7_meanWet 19 = .ok (.i2f, 1) := by decide +kernel
theorem dX7_meanWet_20 : decode cX7_meanWet 20 = .ok (.aload_n 0, 1) := by decide +kernel
theorem dX7_meanWet_21 : decode cX7_meanWet 21 = .ok (.getfield 12, 3) := by decide +kernel
theorem dX7_meanWet_24 : decode cX7_meanWet 24 = .ok (.getfield 146, 3) := by decide +kernel
theorem dX7_meanWet_27 : decode cX7_meanWet 27 = .ok (.i2f, 1) := by decide +kernel
theorem dX7_meanWet_28 : decode cX7_meanWet 28 = .ok (.fdiv, 1) := by decide +kernel
theorem dX7_meanWet_29 : decode cX7_meanWet 29 = .ok (.freturn, 1) := by decide +kernel
theorem dX7_winShare_0 : decode cX7_winShare 0 = .ok (.aload_n 0, 1) := by decide +kernel
theorem dX7_winShare_1 : decode cX7_winShare 1 = .ok (.getfield 12, 3) := by decide +kernel
theorem dX7_winShare_4 : decode cX7_winShare 4 = .ok (.invokevirtual 396, 3) := by decide +kernel
theorem dX7_winShare_7 : decode cX7_winShare 7 = .ok (.istore_n 1, 1) := by decide +kernel
theorem dX7_winShare_8 : decode cX7_winShare 8 = .ok (.iload_n 1, 1) := by decide +kernel
theorem dX7_winShare_9 : decode cX7_winShare 9 = .ok (.ifCond .ne 5, 3) := by decide +kernel
theorem dX7_winShare_12 : decode cX7_winShare 12 = .ok (.dconst 0, 1) := by decide +kernel
theorem dX7_winShare_13 : decode cX7_winShare 13 = .ok (.dreturn, 1) := by decide +kernel
theorem dX7_winShare_14 : decode cX7_winShare 14 = .ok (.aload_n 0, 1) := by decide +kernel
theorem dX7_winShare_15 : decode cX7_winShare 15 = .ok (.getfield 12, 3) := by decide +kernel
theorem dX7_winShare_18 : decode cX7_winShare 18 = .ok (.getfield 251, 3) := by decide +kernel
theorem dX7_winShare_21 : decode cX7_winShare 21 = .ok (.iconst 0, 1) := by decide +kernel
theorem dX7_winShare_22 : decode cX7_winShare 22 = .ok (.aaload, 1) := by decide +kernel
theorem dX7_winShare_23 : decode cX7_winShare 23 = .ok (.getfield 260, 3) := by decide +kernel
theorem dX7_winShare_26 : decode cX7_winShare 26 = .ok (.aload_n 0, 1) := by decide +kernel
theorem dX7_winShare_27 : decode cX7_winShare 27 = .ok (.getfield 12, 3) := by decide +kernel
theorem dX7_winShare_30 : decode cX7_winShare 30 = .ok (.getfield 251, 3) := by decide +kernel
theorem dX7_winShare_33 : decode cX7_winShare 33 = .ok (.iconst 1, 1) := by decide +kernel
theorem dX7_winShare_34 : decode cX7_winShare 34 = .ok (.aaload, 1) := by decide +kernel
theorem dX7_winShare_35 : decode cX7_winShare 35 = .ok (.getfield 260, 3) := by decide +kernel
theorem dX7_winShare_38 : decode cX7_winShare 38 = .ok (.iadd, 1) := by decide +kernel
theorem dX7_winShare_39 : decode cX7_winShare 39 = .ok (.i2d, 1) := by decide +kernel
theorem dX7_winShare_40 : decode cX7_winShare 40 = .ok (.iload_n 1, 1) := by decide +kernel
theorem dX7_winShare_41 : decode cX7_winShare 41 = .ok (.i2d, 1) := by decide +kernel
theorem dX7_winShare_42 : decode cX7_winShare 42 = .ok (.ddiv, 1) := by decide +kernel
theorem dX7_winShare_43 : decode cX7_winShare 43 = .ok (.dreturn, 1) := by decide +kernel
theorem dX7_account_0 : decode cX7_account 0 = .ok (.iload_n 1, 1) := by decide +kernel
theorem dX7_account_1 : decode cX7_account 1 = .ok (.tableswitch 195 0 14 #[75, 83, 91, 99, 107, 115, 123, 131, 139, 147, 155, 163, 171, 179, 187], 75) := by decide +kernel
theorem dX7_account_76 : decode cX7_account 76 = .ok (.aload_n 0, 1) := by decide +kernel
theorem dX7_account_77 : decode cX7_account 77 = .ok (.getfield 12, 3) := by decide +kernel
theorem dX7_account_80 : decode cX7_account 80 = .ok (.getfield 58, 3) := by decide +kernel
theorem dX7_account_83 : decode cX7_account 83 = .ok (.ireturn, 1) := by decide +kernel
theorem dX7_account_84 : decode cX7_account 84 = .ok (.aload_n 0, 1) := by decide +kernel
theorem dX7_account_85 : decode cX7_account 85 = .ok (.getfield 12, 3) := by decide +kernel
theorem dX7_account_88 : decode cX7_account 88 = .ok (.getfield 287, 3) := by decide +kernel
theorem dX7_account_91 : decode cX7_account 91 = .ok (.ireturn, 1) := by decide +kernel
theorem dX7_account_92 : decode cX7_account 92 = .ok (.aload_n 0, 1) := by decide +kernel
theorem dX7_account_93 : decode cX7_account 93 = .ok (.getfield 12, 3) := by decide +kernel
theorem dX7_account_96 : decode cX7_account 96 = .ok (.getfield 290, 3) := by decide +kernel
theorem dX7_account_99 : decode cX7_account 99 = .ok (.ireturn, 1) := by decide +kernel
theorem dX7_account_100 : decode cX7_account 100 = .ok (.aload_n 0, 1) := by decide +kernel
theorem dX7_account_101 : decode cX7_account 101 = .ok (.getfield 12, 3) := by decide +kernel
theorem dX7_account_104 : decode cX7_account 104 = .ok (.getfield 146, 3) := by decide +kernel
theorem dX7_account_107 : decode cX7_account 107 = .ok (.ireturn, 1) := by decide +kernel
theorem dX7_account_108 : decode cX7_account 108 = .ok (.aload_n 0, 1) := by decide +kernel
theorem dX7_account_109 : decode cX7_account 109 = .ok (.getfield 12, 3) := by decide +kernel
theorem dX7_account_112 : decode cX7_account 112 = .ok (.getfield 167, 3) := by decide +kernel
theorem dX7_account_115 : decode cX7_account 115 = .ok (.ireturn, 1) := by decide +kernel
theorem dX7_account_116 : decode cX7_account 116 = .ok (.aload_n 0, 1) := by decide +kernel
theorem dX7_account_117 : decode cX7_account 117 = .ok (.getfield 12, 3) := by decide +kernel
theorem dX7_account_120 : decode cX7_account 120 = .ok (.invokevirtual 399, 3) := by decide +kernel
theorem dX7_account_123 : decode cX7_account 123 = .ok (.ireturn, 1) := by decide +kernel
theorem dX7_account_124 : decode cX7_account 124 = .ok (.aload_n 0, 1) := by decide +kernel
theorem dX7_account_125 : decode cX7_account 125 = .ok (.getfield 12, 3) := by decide +kernel
theorem dX7_account_128 : decode cX7_account 128 = .ok (.invokevirtual 396, 3) := by decide +kernel
theorem dX7_account_131 : decode cX7_account 131 = .ok (.ireturn, 1) := by decide +kernel
theorem dX7_account_132 : decode cX7_account 132 = .ok (.aload_n 0, 1) := by decide +kernel
theorem dX7_account_133 : decode cX7_account 133 = .ok (.getfield 12, 3) := by decide +kernel
theorem dX7_account_136 : decode cX7_account 136 = .ok (.invokevirtual 402, 3) := by decide +kernel
theorem dX7_account_139 : decode cX7_account 139 = .ok (.ireturn, 1) := by decide +kernel
theorem dX7_account_140 : decode cX7_account 140 = .ok (.aload_n 0, 1) := by decide +kernel
theorem dX7_account_141 : decode cX7_account 141 = .ok (.getfield 12, 3) := by decide +kernel
theorem dX7_account_144 : decode cX7_account 144 = .ok (.getfield 275, 3) := by decide +kernel
theorem dX7_account_147 : decode cX7_account 147 = .ok (.ireturn, 1) := by decide +kernel
theorem dX7_account_148 : decode cX7_account 148 = .ok (.aload_n 0, 1) := by decide +kernel
theorem dX7_account_149 : decode cX7_account 149 = .ok (.getfield 12, 3) := by decide +kernel
theorem dX7_account_152 : decode cX7_account 152 = .ok (.getfield 405, 3) := by decide +kernel
theorem dX7_account_155 : decode cX7_account 155 = .ok (.ireturn, 1) := by decide +kernel
theorem dX7_account_156 : decode cX7_account 156 = .ok (.aload_n 0, 1) := by decide +kernel
theorem dX7_account_157 : decode cX7_account 157 = .ok (.getfield 12, 3) := by decide +kernel
theorem dX7_account_160 : decode cX7_account 160 = .ok (.invokevirtual 307, 3) := by decide +kernel
theorem dX7_account_163 : decode cX7_account 163 = .ok (.ireturn, 1) := by decide +kernel
theorem dX7_account_164 : decode cX7_account 164 = .ok (.aload_n 0, 1) := by decide +kernel
theorem dX7_account_165 : decode cX7_account 165 = .ok (.getfield 12, 3) := by decide +kernel
theorem dX7_account_168 : decode cX7_account 168 = .ok (.getfield 281, 3) := by decide +kernel
theorem dX7_account_171 : decode cX7_account 171 = .ok (.ireturn, 1) := by decide +kernel
theorem dX7_account_172 : decode cX7_account 172 = .ok (.aload_n 0, 1) := by decide +kernel
theorem dX7_account_173 : decode cX7_account 173 = .ok (.getfield 12, 3) := by decide +kernel
theorem dX7_account_176 : decode cX7_account 176 = .ok (.invokevirtual 408, 3) := by decide +kernel
theorem dX7_account_179 : decode cX7_account 179 = .ok (.ireturn, 1) := by decide +kernel
theorem dX7_account_180 : decode cX7_account 180 = .ok (.aload_n 0, 1) := by decide +kernel
theorem dX7_account_181 : decode cX7_account 181 = .ok (.getfield 33, 3) := by decide +kernel
theorem dX7_account_184 : decode cX7_account 184 = .ok (.invokevirtual 67, 3) := by decide +kernel
theorem dX7_account_187 : decode cX7_account 187 = .ok (.ireturn, 1) := by decide +kernel
theorem dX7_account_188 : decode cX7_account 188 = .ok (.aload_n 0, 1) := by decide +kernel
theorem dX7_account_189 : decode cX7_account 189 = .ok (.getfield 26, 3) := by decide +kernel
theorem dX7_account_192 : decode cX7_account 192 = .ok (.getfield 411, 3) := by decide +kernel
theorem dX7_account_195 : decode cX7_account 195 = .ok (.ireturn, 1) := by decide +kernel
theorem dX7_account_196 : decode cX7_account 196 = .ok (.bipush (-2), 2) := by decide +kernel
theorem dX7_account_198 : decode cX7_account 198 = .ok (.ireturn, 1) := by decide +kernel
theorem dX7_undo_0 : decode cX7_undo 0 = .ok (.aload_n 0, 1) := by decide +kernel
theorem dX7_undo_1 : decode cX7_undo 1 = .ok (.getfield 26, 3) := by decide +kernel
theorem dX7_undo_4 : decode cX7_undo 4 = .ok (.getfield 411, 3) := by decide +kernel
theorem dX7_undo_7 : decode cX7_undo 7 = .ok (.ifCond .ne 6, 3) := by decide +kernel
theorem dX7_undo_10 : decode cX7_undo 10 = .ok (.bipush (-4), 2) := by decide +kernel
theorem dX7_undo_12 : decode cX7_undo 12 = .ok (.ireturn, 1) := by decide +kernel
theorem dX7_undo_13 : decode cX7_undo 13 = .ok (.aload_n 0, 1) := by decide +kernel
theorem dX7_undo_14 : decode cX7_undo 14 = .ok (.getfield 26, 3) := by decide +kernel
theorem dX7_undo_17 : decode cX7_undo 17 = .ok (.aload_n 0, 1) := by decide +kernel
theorem dX7_undo_18 : decode cX7_undo 18 = .ok (.getfield 12, 3) := by decide +kernel
theorem dX7_undo_21 : decode cX7_undo 21 = .ok (.invokevirtual 412, 3) := by decide +kernel
theorem dX7_undo_24 : decode cX7_undo 24 = .ok (.aload_n 0, 1) := by decide +kernel
theorem dX7_undo_25 : decode cX7_undo 25 = .ok (.getfield 26, 3) := by decide +kernel
theorem dX7_undo_28 : decode cX7_undo 28 = .ok (.getfield 411, 3) := by decide +kernel
theorem dX7_undo_31 : decode cX7_undo 31 = .ok (.ireturn, 1) := by decide +kernel
theorem dX7_save_0 : decode cX7_save 0 = .ok (.aload_n 0, 1) := by decide +kernel
theorem dX7_save_1 : decode cX7_save 1 = .ok (.getfield 16, 3) := by decide +kernel
theorem dX7_save_4 : decode cX7_save 4 = .ok (.aload_n 0, 1) := by decide +kernel
theorem dX7_save_5 : decode cX7_save 5 = .ok (.getfield 12, 3) := by decide +kernel
theorem dX7_save_8 : decode cX7_save 8 = .ok (.invokevirtual 415, 3) := by decide +kernel
theorem dX7_save_11 : decode cX7_save 11 = .ok (.aload_n 0, 1) := by decide +kernel
theorem dX7_save_12 : decode cX7_save 12 = .ok (.iconst 1, 1) := by decide +kernel
theorem dX7_save_13 : decode cX7_save 13 = .ok (.putfield 19, 3) := by decide +kernel
theorem dX7_save_16 : decode cX7_save 16 = .ok (.aload_n 0, 1) := by decide +kernel
theorem dX7_save_17 : decode cX7_save 17 = .ok (.getfield 12, 3) := by decide +kernel
theorem dX7_save_20 : decode cX7_save 20 = .ok (.getfield 58, 3) := by decide +kernel
theorem dX7_save_23 : decode cX7_save 23 = .ok (.ireturn, 1) := by decide +kernel
theorem dX7_restore_0 : decode cX7_restore 0 = .ok (.aload_n 0, 1) := by decide +kernel
theorem dX7_restore_1 : decode cX7_restore 1 = .ok (.getfield 19, 3) := by decide +kernel
theorem dX7_restore_4 : decode cX7_restore 4 = .ok (.ifCond .ne 6, 3) := by decide +kernel
theorem dX7_restore_7 : decode cX7_restore 7 = .ok (.bipush (-4), 2) := by decide +kernel
theorem dX7_restore_9 : decode cX7_restore 9 = .ok (.ireturn, 1) := by decide +kernel
theorem dX7_restore_10 : decode cX7_restore 10 = .ok (.aload_n 0, 1) := by decide +kernel
theorem dX7_restore_11 : decode cX7_restore 11 = .ok (.getfield 12, 3) := by decide +kernel
theorem dX7_restore_14 : decode cX7_restore 14 = .ok (.aload_n 0, 1) := by decide +kernel
theorem dX7_restore_15 : decode cX7_restore 15 = .ok (.getfield 16, 3) := by decide +kernel
theorem dX7_restore_18 : decode cX7_restore 18 = .ok (.invokevirtual 415, 3) := by decide +kernel
theorem dX7_restore_21 : decode cX7_restore 21 = .ok (.aload_n 0, 1) := by decide +kernel
theorem dX7_restore_22 : decode cX7_restore 22 = .ok (.getfield 26, 3) := by decide +kernel
theorem dX7_restore_25 : decode cX7_restore 25 = .ok (.invokevirtual 64, 3) := by decide +kernel
theorem dX7_restore_28 : decode cX7_restore 28 = .ok (.aload_n 0, 1) := by decide +kernel
theorem dX7_restore_29 : decode cX7_restore 29 = .ok (.getfield 12, 3) := by decide +kernel
theorem dX7_restore_32 : decode cX7_restore 32 = .ok (.getfield 58, 3) := by decide +kernel
theorem dX7_restore_35 : decode cX7_restore 35 = .ok (.ireturn, 1) := by decide +kernel
theorem dX7_isClub_0 : decode cX7_isClub 0 = .ok (.iload_n 0, 1) := by decide +kernel
theorem dX7_isClub_1 : decode cX7_isClub 1 = .ok (.ifCond .lt 12, 3) := by decide +kernel
theorem dX7_isClub_4 : decode cX7_isClub 4 = .ok (.iload_n 0, 1) := by decide +kernel
theorem dX7_isClub_5 : decode cX7_isClub 5 = .ok (.iconst 2, 1) := by decide +kernel
theorem dX7_isClub_6 : decode cX7_isClub 6 = .ok (.if_icmp .ge 7, 3) := by decide +kernel
theorem dX7_isClub_9 : decode cX7_isClub 9 = .ok (.iconst 1, 1) := by decide +kernel
theorem dX7_isClub_10 : decode cX7_isClub 10 = .ok (.goto 4, 3) := by decide +kernel
theorem dX7_isClub_13 : decode cX7_isClub 13 = .ok (.iconst 0, 1) := by decide +kernel
theorem dX7_isClub_14 : decode cX7_isClub 14 = .ok (.ireturn, 1) := by decide +kernel
theorem dX7_otherClub_0 : decode cX7_otherClub 0 = .ok (.iconst 1, 1) := by decide +kernel
theorem dX7_otherClub_1 : decode cX7_otherClub 1 = .ok (.iload_n 0, 1) := by decide +kernel
theorem dX7_otherClub_2 : decode cX7_otherClub 2 = .ok (.isub, 1) := by decide +kernel
theorem dX7_otherClub_3 : decode cX7_otherClub 3 = .ok (.ireturn, 1) := by decide +kernel
theorem dX7_isStrength_0 : decode cX7_isStrength 0 = .ok (.iload_n 0, 1) := by decide +kernel
theorem dX7_isStrength_1 : decode cX7_isStrength 1 = .ok (.iconst 1, 1) := by decide +kernel
theorem dX7_isStrength_2 : decode cX7_isStrength 2 = .ok (.if_icmp .lt 13, 3) := by decide +kernel
theorem dX7_isStrength_5 : decode cX7_isStrength 5 = .ok (.iload_n 0, 1) := by decide +kernel
theorem dX7_isStrength_6 : decode cX7_isStrength 6 = .ok (.bipush 20, 2) := by decide +kernel
theorem dX7_isStrength_8 : decode cX7_isStrength 8 = .ok (.if_icmp .gt 7, 3) := by decide +kernel
theorem dX7_isStrength_11 : decode cX7_isStrength 11 = .ok (.iconst 1, 1) := by decide +kernel
theorem dX7_isStrength_12 : decode cX7_isStrength 12 = .ok (.goto 4, 3) := by decide +kernel
theorem dX7_isStrength_15 : decode cX7_isStrength 15 = .ok (.iconst 0, 1) := by decide +kernel
theorem dX7_isStrength_16 : decode cX7_isStrength 16 = .ok (.ireturn, 1) := by decide +kernel
theorem dX7_isWeather_0 : decode cX7_isWeather 0 = .ok (.iload_n 0, 1) := by decide +kernel
theorem dX7_isWeather_1 : decode cX7_isWeather 1 = .ok (.ifCond .lt 13, 3) := by decide +kernel
theorem dX7_isWeather_4 : decode cX7_isWeather 4 = .ok (.iload_n 0, 1) := by decide +kernel
theorem dX7_isWeather_5 : decode cX7_isWeather 5 = .ok (.bipush 9, 2) := by decide +kernel
theorem dX7_isWeather_7 : decode cX7_isWeather 7 = .ok (.if_icmp .gt 7, 3) := by decide +kernel
theorem dX7_isWeather_10 : decode cX7_isWeather 10 = .ok (.iconst 1, 1) := by decide +kernel
theorem dX7_isWeather_11 : decode cX7_isWeather 11 = .ok (.goto 4, 3) := by decide +kernel
theorem dX7_isWeather_14 : decode cX7_isWeather 14 = .ok (.iconst 0, 1) := by decide +kernel
theorem dX7_isWeather_15 : decode cX7_isWeather 15 = .ok (.ireturn, 1) := by decide +kernel
theorem dJ5_init_d00df_0 : decode cJ5_init_d00df 0 = .ok (.aload_n 0, 1) := by decide +kernel
theorem dJ5_init_d00df_1 : decode cJ5_init_d00df 1 = .ok (.invokespecial 3, 3) := by decide +kernel
theorem dJ5_init_d00df_4 : decode cJ5_init_d00df 4 = .ok (.getstatic 18, 3) := by decide +kernel
theorem dJ5_init_d00df_7 : decode cJ5_init_d00df 7 = .ok (.ifCond .eq 18, 3) := by decide +kernel
theorem dJ5_init_d00df_10 : decode cJ5_init_d00df 10 = .ok (.aload_n 0, 1) := by decide +kernel
theorem dJ5_init_d00df_11 : decode cJ5_init_d00df 11 = .ok (.iload_n 1, 1) := by decide +kernel
theorem dJ5_init_d00df_12 : decode cJ5_init_d00df 12 = .ok (.newarray .byte, 2) := by decide +kernel
theorem dJ5_init_d00df_14 : decode cJ5_init_d00df 14 = .ok (.putfield 15, 3) := by decide +kernel
theorem dJ5_init_d00df_17 : decode cJ5_init_d00df 17 = .ok (.aload_n 0, 1) := by decide +kernel
theorem dJ5_init_d00df_18 : decode cJ5_init_d00df 18 = .ok (.iconst 0, 1) := by decide +kernel
theorem dJ5_init_d00df_19 : decode cJ5_init_d00df 19 = .ok (.putfield 22, 3) := by decide +kernel
theorem dJ5_init_d00df_22 : decode cJ5_init_d00df 22 = .ok (.goto 16, 3) := by decide +kernel
theorem dJ5_init_d00df_25 : decode cJ5_init_d00df 25 = .ok (.aload_n 0, 1) := by decide +kernel
theorem dJ5_init_d00df_26 : decode cJ5_init_d00df 26 = .ok (.iload_n 1, 1) := by decide +kernel
theorem dJ5_init_d00df_27 : decode cJ5_init_d00df 27 = .ok (.invokestatic 26, 3) := by decide +kernel
theorem dJ5_init_d00df_30 : decode cJ5_init_d00df 30 = .ok (.putfield 15, 3) := by decide +kernel
theorem dJ5_init_d00df_33 : decode cJ5_init_d00df 33 = .ok (.aload_n 0, 1) := by decide +kernel
theorem dJ5_init_d00df_34 : decode cJ5_init_d00df 34 = .ok (.iconst 1, 1) := by decide +kernel
theorem dJ5_init_d00df_35 : decode cJ5_init_d00df 35 = .ok (.putfield 22, 3) := by decide +kernel
theorem dJ5_init_d00df_38 : decode cJ5_init_d00df 38 = .ok (.return_, 1) := by decide +kernel
theorem dJ5_length_8abf5_0 : decode cJ5_length_8abf5 0 = .ok (.aload_n 0, 1) := by decide +kernel
theorem dJ5_length_8abf5_1 : decode cJ5_length_8abf5 1 = .ok (.getfield 79, 3) := by decide +kernel
theorem dJ5_length_8abf5_4 : decode cJ5_length_8abf5 4 = .ok (.ireturn, 1) := by decide +kernel
theorem dJ5_ensureCapacityInternal_d00df_0 : decode cJ5_ensureCapacityInternal_d00df 0 = .ok (.aload_n 0, 1) := by decide +kernel
theorem dJ5_ensureCapacityInternal_d00df_1 : decode cJ5_ensureCapacityInternal_d00df 1 = .ok (.getfield 15, 3) := by decide +kernel
theorem dJ5_ensureCapacityInternal_d00df_4 : decode cJ5_ensureCapacityInternal_d00df 4 = .ok (.arraylength, 1) := by decide +kernel
theorem dJ5_ensureCapacityInternal_d00df_5 : decode cJ5_ensureCapacityInternal_d00df 5 = .ok (.aload_n 0, 1) := by decide +kernel
theorem dJ5_ensureCapacityInternal_d00df_6 : decode cJ5_ensureCapacityInternal_d00df 6 = .ok (.getfield 22, 3) := by decide +kernel
theorem dJ5_ensureCapacityInternal_d00df_9 : decode cJ5_ensureCapacityInternal_d00df 9 = .ok (.ishr, 1) := by decide +kernel
theorem dJ5_ensureCapacityInternal_d00df_10 : decode cJ5_ensureCapacityInternal_d00df 10 = .ok (.istore_n 2, 1) := by decide +kernel
theorem dJ5_ensureCapacityInternal_d00df_11 : decode cJ5_ensureCapacityInternal_d00df 11 = .ok (.iload_n 1, 1) := by decide +kernel
theorem dJ5_ensureCapacityInternal_d00df_12 : decode cJ5_ensureCapacityInternal_d00df 12 = .ok (.iload_n 2, 1) := by decide +kernel
theorem dJ5_ensureCapacityInternal_d00df_13 : decode cJ5_ensureCapacityInternal_d00df 13 = .ok (.isub, 1) := by decide +kernel
theorem dJ5_ensureCapacityInternal_d00df_14 : decode cJ5_ensureCapacityInternal_d00df 14 = .ok (.ifCond .le 24, 3) := by decide +kernel
theorem dJ5_ensureCapacityInternal_d00df_17 : decode cJ5_ensureCapacityInternal_d00df 17 = .ok (.aload_n 0, 1) := by decide +kernel
theorem dJ5_ensureCapacityInternal_d00df_18 : decode cJ5_ensureCapacityInternal_d00df 18 = .ok (.aload_n 0, 1) := by decide +kernel
theorem dJ5_ensureCapacityInternal_d00df_19 : decode cJ5_ensureCapacityInternal_d00df 19 = .ok (.getfield 15, 3) := by decide +kernel
theorem dJ5_ensureCapacityInternal_d00df_22 : decode cJ5_ensureCapacityInternal_d00df 22 = .ok (.aload_n 0, 1) := by decide +kernel
theorem dJ5_ensureCapacityInternal_d00df_23 : decode cJ5_ensureCapacityInternal_d00df 23 = .ok (.iload_n 1, 1) := by decide +kernel
theorem dJ5_ensureCapacityInternal_d00df_24 : decode cJ5_ensureCapacityInternal_d00df 24 = .ok (.invokevirtual 104, 3) := by decide +kernel
theorem dJ5_ensureCapacityInternal_d00df_27 : decode cJ5_ensureCapacityInternal_d00df 27 = .ok (.aload_n 0, 1) := by decide +kernel
theorem dJ5_ensureCapacityInternal_d00df_28 : decode cJ5_ensureCapacityInternal_d00df 28 = .ok (.getfield 22, 3) := by decide +kernel
theorem dJ5_ensureCapacityInternal_d00df_31 : decode cJ5_ensureCapacityInternal_d00df 31 = .ok (.ishl, 1) := by decide +kernel
theorem dJ5_ensureCapacityInternal_d00df_32 : decode cJ5_ensureCapacityInternal_d00df 32 = .ok (.invokestatic 108, 3) := by decide +kernel
theorem dJ5_ensureCapacityInternal_d00df_35 : decode cJ5_ensureCapacityInternal_d00df 35 = .ok (.putfield 15, 3) := by decide +kernel
theorem dJ5_ensureCapacityInternal_d00df_38 : decode cJ5_ensureCapacityInternal_d00df 38 = .ok (.return_, 1) := by decide +kernel
theorem dJ5_newCapacity_0f7a4_0 : decode cJ5_newCapacity_0f7a4 0 = .ok (.aload_n 0, 1) := by decide +kernel
theorem dJ5_newCapacity_0f7a4_1 : decode cJ5_newCapacity_0f7a4 1 = .ok (.getfield 15, 3) := by decide +kernel
theorem dJ5_newCapacity_0f7a4_4 : decode cJ5_newCapacity_0f7a4 4 = .ok (.arraylength, 1) := by decide +kernel
theorem dJ5_newCapacity_0f7a4_5 : decode cJ5_newCapacity_0f7a4 5 = .ok (.istore_n 2, 1) := by decide +kernel
theorem dJ5_newCapacity_0f7a4_6 : decode cJ5_newCapacity_0f7a4 6 = .ok (.iload_n 1, 1) := by decide +kernel
theorem dJ5_newCapacity_0f7a4_7 : decode cJ5_newCapacity_0f7a4 7 = .ok (.aload_n 0, 1) := by decide +kernel
theorem dJ5_newCapacity_0f7a4_8 : decode cJ5_newCapacity_0f7a4 8 = .ok (.getfield 22, 3) := by decide +kernel
theorem dJ5_newCapacity_0f7a4_11 : decode cJ5_newCapacity_0f7a4 11 = .ok (.ishl, 1) := by decide +kernel
theorem dJ5_newCapacity_0f7a4_12 : decode cJ5_newCapacity_0f7a4 12 = .ok (.istore_n 3, 1) := by decide +kernel
theorem dJ5_newCapacity_0f7a4_13 : decode cJ5_newCapacity_0f7a4 13 = .ok (.iload_n 3, 1) := by decide +kernel
theorem dJ5_newCapacity_0f7a4_14 : decode cJ5_newCapacity_0f7a4 14 = .ok (.iload_n 2, 1) := by decide +kernel
theorem dJ5_newCapacity_0f7a4_15 : decode cJ5_newCapacity_0f7a4 15 = .ok (.isub, 1) := by decide +kernel
theorem dJ5_newCapacity_0f7a4_16 : decode cJ5_newCapacity_0f7a4 16 = .ok (.istore 4, 2) := by decide +kernel
theorem dJ5_newCapacity_0f7a4_18 : decode cJ5_newCapacity_0f7a4 18 = .ok (.iload_n 2, 1) := by decide +kernel
theorem dJ5_newCapacity_0f7a4_19 : decode cJ5_newCapacity_0f7a4 19 = .ok (.iload 4, 2) := by decide +kernel
theorem dJ5_newCapacity_0f7a4_21 : decode cJ5_newCapacity_0f7a4 21 = .ok (.iload_n 2, 1) := by decide +kernel
theorem dJ5_newCapacity_0f7a4_22 : decode cJ5_newCapacity_0f7a4 22 = .ok (.iconst 2, 1) := by decide +kernel
theorem dJ5_newCapacity_0f7a4_23 : decode cJ5_newCapacity_0f7a4 23 = .ok (.aload_n 0, 1) := by decide +kernel
theorem dJ5_newCapacity_0f7a4_24 : decode cJ5_newCapacity_0f7a4 24 = .ok (.getfield 22, 3) := by decide +kernel
theorem dJ5_newCapacity_0f7a4_27 : decode cJ5_newCapacity_0f7a4 27 = .ok (.ishl, 1) := by decide +kernel
theorem dJ5_newCapacity_0f7a4_28 : decode cJ5_newCapacity_0f7a4 28 = .ok (.iadd, 1) := by decide +kernel
theorem dJ5_newCapacity_0f7a4_29 : decode cJ5_newCapacity_0f7a4 29 = .ok (.invokestatic 114, 3) := by decide +kernel
theorem dJ5_newCapacity_0f7a4_32 : decode cJ5_newCapacity_0f7a4 32 = .ok (.istore 5, 2) := by decide +kernel
theorem dJ5_newCapacity_0f7a4_34 : decode cJ5_newCapacity_0f7a4 34 = .ok (.iload 5, 2) := by decide +kernel
theorem dJ5_newCapacity_0f7a4_36 : decode cJ5_newCapacity_0f7a4 36 = .ok (.ldc 39, 2) := by decide +kernel
theorem dJ5_newCapacity_0f7a4_38 : decode cJ5_newCapacity_0f7a4 38 = .ok (.if_icmp .ne 13, 3) := by decide +kernel
theorem dJ5_newCapacity_0f7a4_41 : decode cJ5_newCapacity_0f7a4 41 = .ok (.new 120, 3) := by decide +kernel
theorem dJ5_newCapacity_0f7a4_44 : decode cJ5_newCapacity_0f7a4 44 = .ok (.dup, 1) := by decide +kernel
theorem dJ5_newCapacity_0f7a4_45 : decode cJ5_newCapacity_0f7a4 45 = .ok (.ldc 122, 2) := by decide +kernel
theorem dJ5_newCapacity_0f7a4_47 : decode cJ5_newCapacity_0f7a4 47 = .ok (.invokespecial 124, 3) := by decide +kernel
theorem dJ5_newCapacity_0f7a4_50 : decode cJ5_newCapacity_0f7a4 50 = .ok (.athrow, 1) := by decide +kernel
theorem dJ5_newCapacity_0f7a4_51 : decode cJ5_newCapacity_0f7a4 51 = .ok (.iload 5, 2) := by decide +kernel
theorem dJ5_newCapacity_0f7a4_53 : decode cJ5_newCapacity_0f7a4 53 = .ok (.aload_n 0, 1) := by decide +kernel
theorem dJ5_newCapacity_0f7a4_54 : decode cJ5_newCapacity_0f7a4 54 = .ok (.getfield 22, 3) := by decide +kernel
theorem dJ5_newCapacity_0f7a4_57 : decode cJ5_newCapacity_0f7a4 57 = .ok (.ishr, 1) := by decide +kernel
theorem dJ5_newCapacity_0f7a4_58 : decode cJ5_newCapacity_0f7a4 58 = .ok (.ireturn, 1) := by decide +kernel
theorem dJ5_inflate_da8c8_0 : decode cJ5_inflate_da8c8 0 = .ok (.aload_n 0, 1) := by decide +kernel
theorem dJ5_inflate_da8c8_1 : decode cJ5_inflate_da8c8 1 = .ok (.invokevirtual 83, 3) := by decide +kernel
theorem dJ5_inflate_da8c8_4 : decode cJ5_inflate_da8c8 4 = .ok (.ifCond .ne 4, 3) := by decide +kernel
theorem dJ5_inflate_da8c8_7 : decode cJ5_inflate_da8c8 7 = .ok (.return_, 1) := by decide +kernel
theorem dJ5_inflate_da8c8_8 : decode cJ5_inflate_da8c8 8 = .ok (.aload_n 0, 1) := by decide +kernel
theorem dJ5_inflate_da8c8_9 : decode cJ5_inflate_da8c8 9 = .ok (.getfield 15, 3) := by decide +kernel
theorem dJ5_inflate_da8c8_12 : decode cJ5_inflate_da8c8 12 = .ok (.arraylength, 1) := by decide +kernel
theorem dJ5_inflate_da8c8_13 : decode cJ5_inflate_da8c8 13 = .ok (.invokestatic 26, 3) := by decide +kernel
theorem dJ5_inflate_da8c8_16 : decode cJ5_inflate_da8c8 16 = .ok (.astore_n 1, 1) := by decide +kernel
theorem dJ5_inflate_da8c8_17 : decode cJ5_inflate_da8c8 17 = .ok (.aload_n 0, 1) := by decide +kernel
theorem dJ5_inflate_da8c8_18 : decode cJ5_inflate_da8c8 18 = .ok (.getfield 15, 3) := by decide +kernel
theorem dJ5_inflate_da8c8_21 : decode cJ5_inflate_da8c8 21 = .ok (.iconst 0, 1) := by decide +kernel
theorem dJ5_inflate_da8c8_22 : decode cJ5_inflate_da8c8 22 = .ok (.aload_n 1, 1) := by decide +kernel
theorem dJ5_inflate_da8c8_23 : decode cJ5_inflate_da8c8 23 = .ok (.iconst 0, 1) := by decide +kernel
theorem dJ5_inflate_da8c8_24 : decode cJ5_inflate_da8c8 24 = .ok (.aload_n 0, 1) := by decide +kernel
theorem dJ5_inflate_da8c8_25 : decode cJ5_inflate_da8c8 25 = .ok (.getfield 79, 3) := by decide +kernel
theorem dJ5_inflate_da8c8_28 : decode cJ5_inflate_da8c8 28 = .ok (.invokestatic 125, 3) := by decide +kernel
theorem dJ5_inflate_da8c8_31 : decode cJ5_inflate_da8c8 31 = .ok (.aload_n 0, 1) := by decide +kernel
theorem dJ5_inflate_da8c8_32 : decode cJ5_inflate_da8c8 32 = .ok (.aload_n 1, 1) := by decide +kernel
theorem dJ5_inflate_da8c8_33 : decode cJ5_inflate_da8c8 33 = .ok (.putfield 15, 3) := by decide +kernel
theorem dJ5_inflate_da8c8_36 : decode cJ5_inflate_da8c8 36 = .ok (.aload_n 0, 1) := by decide +kernel
theorem dJ5_inflate_da8c8_37 : decode cJ5_inflate_da8c8 37 = .ok (.iconst 1, 1) := by decide +kernel
theorem dJ5_inflate_da8c8_38 : decode cJ5_inflate_da8c8 38 = .ok (.putfield 22, 3) := by decide +kernel
theorem dJ5_inflate_da8c8_41 : decode cJ5_inflate_da8c8 41 = .ok (.return_, 1) := by decide +kernel
theorem dJ5_setLength_d00df_0 : decode cJ5_setLength_d00df 0 = .ok (.iload_n 1, 1) := by decide +kernel
theorem dJ5_setLength_d00df_1 : decode cJ5_setLength_d00df 1 = .ok (.ifCond .ge 12, 3) := by decide +kernel
theorem dJ5_setLength_d00df_4 : decode cJ5_setLength_d00df 4 = .ok (.new 129, 3) := by decide +kernel
theorem dJ5_setLength_d00df_7 : decode cJ5_setLength_d00df 7 = .ok (.dup, 1) := by decide +kernel
theorem dJ5_setLength_d00df_8 : decode cJ5_setLength_d00df 8 = .ok (.iload_n 1, 1) := by decide +kernel
theorem dJ5_setLength_d00df_9 : decode cJ5_setLength_d00df 9 = .ok (.invokespecial 131, 3) := by decide +kernel
theorem dJ5_setLength_d00df_12 : decode cJ5_setLength_d00df 12 = .ok (.athrow, 1) := by decide +kernel
theorem dJ5_setLength_d00df_13 : decode cJ5_setLength_d00df 13 = .ok (.aload_n 0, 1) := by decide +kernel
theorem dJ5_setLength_d00df_14 : decode cJ5_setLength_d00df 14 = .ok (.iload_n 1, 1) := by decide +kernel
theorem dJ5_setLength_d00df_15 : decode cJ5_setLength_d00df 15 = .ok (.invokevirtual 100, 3) := by decide +kernel
theorem dJ5_setLength_d00df_18 : decode cJ5_setLength_d00df 18 = .ok (.aload_n 0, 1) := by decide +kernel
theorem dJ5_setLength_d00df_19 : decode cJ5_setLength_d00df 19 = .ok (.getfield 79, 3) := by decide +kernel
theorem dJ5_setLength_d00df_22 : decode cJ5_setLength_d00df 22 = .ok (.iload_n 1, 1) := by decide +kernel
theorem dJ5_setLength_d00df_23 : decode cJ5_setLength_d00df 23 = .ok (.if_icmp .ge 40, 3) := by decide +kernel
theorem dJ5_setLength_d00df_26 : decode cJ5_setLength_d00df 26 = .ok (.aload_n 0, 1) := by decide +kernel
theorem dJ5_setLength_d00df_27 : decode cJ5_setLength_d00df 27 = .ok (.invokevirtual 83, 3) := by decide +kernel
theorem dJ5_setLength_d00df_30 : decode cJ5_setLength_d00df 30 = .ok (.ifCond .eq 18, 3) := by decide +kernel
theorem dJ5_setLength_d00df_33 : decode cJ5_setLength_d00df 33 = .ok (.aload_n 0, 1) := by decide +kernel
theorem dJ5_setLength_d00df_34 : decode cJ5_setLength_d00df 34 = .ok (.getfield 15, 3) := by decide +kernel
theorem dJ5_setLength_d00df_37 : decode cJ5_setLength_d00df 37 = .ok (.aload_n 0, 1) := by decide +kernel
theorem dJ5_setLength_d00df_38 : decode cJ5_setLength_d00df 38 = .ok (.getfield 79, 3) := by decide +kernel
theorem dJ5_setLength_d00df_41 : decode cJ5_setLength_d00df 41 = .ok (.iload_n 1, 1) := by decide +kernel
theorem dJ5_setLength_d00df_42 : decode cJ5_setLength_d00df 42 = .ok (.invokestatic 133, 3) := by decide +kernel
theorem dJ5_setLength_d00df_45 : decode cJ5_setLength_d00df 45 = .ok (.goto 31, 3) := by decide +kernel
theorem dJ5_setLength_d00df_48 : decode cJ5_setLength_d00df 48 = .ok (.aload_n 0, 1) := by decide +kernel
theorem dJ5_setLength_d00df_49 : decode cJ5_setLength_d00df 49 = .ok (.getfield 15, 3) := by decide +kernel
theorem dJ5_setLength_d00df_52 : decode cJ5_setLength_d00df 52 = .ok (.aload_n 0, 1) := by decide +kernel
theorem dJ5_setLength_d00df_53 : decode cJ5_setLength_d00df 53 = .ok (.getfield 79, 3) := by decide +kernel
theorem dJ5_setLength_d00df_56 : decode cJ5_setLength_d00df 56 = .ok (.iload_n 1, 1) := by decide +kernel
theorem dJ5_setLength_d00df_57 : decode cJ5_setLength_d00df 57 = .ok (.invokestatic 137, 3) := by decide +kernel
theorem dJ5_setLength_d00df_60 : decode cJ5_setLength_d00df 60 = .ok (.goto 16, 3) := by decide +kernel
theorem dJ5_setLength_d00df_63 : decode cJ5_setLength_d00df 63 = .ok (.aload_n 0, 1) := by decide +kernel
theorem dJ5_setLength_d00df_64 : decode cJ5_setLength_d00df 64 = .ok (.getfield 79, 3) := by decide +kernel
theorem dJ5_setLength_d00df_67 : decode cJ5_setLength_d00df 67 = .ok (.iload_n 1, 1) := by decide +kernel
theorem dJ5_setLength_d00df_68 : decode cJ5_setLength_d00df 68 = .ok (.if_icmp .le 8, 3) := by decide +kernel
theorem dJ5_setLength_d00df_71 : decode cJ5_setLength_d00df 71 = .ok (.aload_n 0, 1) := by decide +kernel
theorem dJ5_setLength_d00df_72 : decode cJ5_setLength_d00df 72 = .ok (.iconst 1, 1) := by decide +kernel
theorem dJ5_setLength_d00df_73 : decode cJ5_setLength_d00df 73 = .ok (.putfield 73, 3) := by decide +kernel
theorem dJ5_setLength_d00df_76 : decode cJ5_setLength_d00df 76 = .ok (.aload_n 0, 1) := by decide +kernel
theorem dJ5_setLength_d00df_77 : decode cJ5_setLength_d00df 77 = .ok (.iload_n 1, 1) := by decide +kernel
theorem dJ5_setLength_d00df_78 : decode cJ5_setLength_d00df 78 = .ok (.putfield 79, 3) := by decide +kernel
theorem dJ5_setLength_d00df_81 : decode cJ5_setLength_d00df 81 = .ok (.return_, 1) := by decide +kernel
theorem dJ5_charAt_5068e_0 : decode cJ5_charAt_5068e 0 = .ok (.aload_n 0, 1) := by decide +kernel
theorem dJ5_charAt_5068e_1 : decode cJ5_charAt_5068e 1 = .ok (.getfield 22, 3) := by decide +kernel
theorem dJ5_charAt_5068e_4 : decode cJ5_charAt_5068e 4 = .ok (.istore_n 2, 1) := by decide +kernel
theorem dJ5_charAt_5068e_5 : decode cJ5_charAt_5068e 5 = .ok (.aload_n 0, 1) := by decide +kernel
theorem dJ5_charAt_5068e_6 : decode cJ5_charAt_5068e 6 = .ok (.getfield 15, 3) := by decide +kernel
theorem dJ5_charAt_5068e_9 : decode cJ5_charAt_5068e 9 = .ok (.astore_n 3, 1) := by decide +kernel
theorem dJ5_charAt_5068e_10 : decode cJ5_charAt_5068e 10 = .ok (.aload_n 0, 1) := by decide +kernel
theorem dJ5_charAt_5068e_11 : decode cJ5_charAt_5068e 11 = .ok (.getfield 79, 3) := by decide +kernel
theorem dJ5_charAt_5068e_14 : decode cJ5_charAt_5068e 14 = .ok (.aload_n 3, 1) := by decide +kernel
theorem dJ5_charAt_5068e_15 : decode cJ5_charAt_5068e 15 = .ok (.arraylength, 1) := by decide +kernel
theorem dJ5_charAt_5068e_16 : decode cJ5_charAt_5068e 16 = .ok (.iload_n 2, 1) := by decide +kernel
theorem dJ5_charAt_5068e_17 : decode cJ5_charAt_5068e 17 = .ok (.ishr, 1) := by decide +kernel
theorem dJ5_charAt_5068e_18 : decode cJ5_charAt_5068e 18 = .ok (.invokestatic 138, 3) := by decide +kernel
theorem dJ5_charAt_5068e_21 : decode cJ5_charAt_5068e 21 = .ok (.istore 4, 2) := by decide +kernel
theorem dJ5_charAt_5068e_23 : decode cJ5_charAt_5068e 23 = .ok (.iload_n 1, 1) := by decide +kernel
theorem dJ5_charAt_5068e_24 : decode cJ5_charAt_5068e 24 = .ok (.iload 4, 2) := by decide +kernel
theorem dJ5_charAt_5068e_26 : decode cJ5_charAt_5068e 26 = .ok (.invokestatic 144, 3) := by decide +kernel
theorem dJ5_charAt_5068e_29 : decode cJ5_charAt_5068e 29 = .ok (.iload_n 2, 1) := by decide +kernel
theorem dJ5_charAt_5068e_30 : decode cJ5_charAt_5068e 30 = .ok (.ifCond .ne 12, 3) := by decide +kernel
theorem dJ5_charAt_5068e_33 : decode cJ5_charAt_5068e 33 = .ok (.aload_n 3, 1) := by decide +kernel
theorem dJ5_charAt_5068e_34 : decode cJ5_charAt_5068e 34 = .ok (.iload_n 1, 1) := by decide +kernel
theorem dJ5_charAt_5068e_35 : decode cJ5_charAt_5068e 35 = .ok (.baload, 1) := by decide +kernel
theorem dJ5_charAt_5068e_36 : decode cJ5_charAt_5068e 36 = .ok (.sipush 255, 3) := by decide +kernel
theorem dJ5_charAt_5068e_39 : decode cJ5_charAt_5068e 39 = .ok (.iand, 1) := by decide +kernel
theorem dJ5_charAt_5068e_40 : decode cJ5_charAt_5068e 40 = .ok (.i2c, 1) := by decide +kernel
theorem dJ5_charAt_5068e_41 : decode cJ5_charAt_5068e 41 = .ok (.ireturn, 1) := by decide +kernel
theorem dJ5_charAt_5068e_42 : decode cJ5_charAt_5068e 42 = .ok (.aload_n 3, 1) := by decide +kernel
theorem dJ5_charAt_5068e_43 : decode cJ5_charAt_5068e 43 = .ok (.iload_n 1, 1) := by decide +kernel
theorem dJ5_charAt_5068e_44 : decode cJ5_charAt_5068e 44 = .ok (.invokestatic 148, 3) := by decide +kernel
theorem dJ5_charAt_5068e_47 : decode cJ5_charAt_5068e 47 = .ok (.ireturn, 1) := by decide +kernel
theorem dJ5_append_cf1ce_0 : decode cJ5_append_cf1ce 0 = .ok (.aload_n 1, 1) := by decide +kernel
theorem dJ5_append_cf1ce_1 : decode cJ5_append_cf1ce 1 = .ok (.ifnonnull 8, 3) := by decide +kernel
theorem dJ5_append_cf1ce_4 : decode cJ5_append_cf1ce 4 = .ok (.aload_n 0, 1) := by decide +kernel
theorem dJ5_append_cf1ce_5 : decode cJ5_append_cf1ce 5 = .ok (.invokevirtual 204, 3) := by decide +kernel
theorem dJ5_append_cf1ce_8 : decode cJ5_append_cf1ce 8 = .ok (.areturn, 1) := by decide +kernel
theorem dJ5_append_cf1ce_9 : decode cJ5_append_cf1ce 9 = .ok (.aload_n 1, 1) := by decide +kernel
theorem dJ5_append_cf1ce_10 : decode cJ5_append_cf1ce 10 = .ok (.invokevirtual 32, 3) := by decide +kernel
theorem dJ5_append_cf1ce_13 : decode cJ5_append_cf1ce 13 = .ok (.istore_n 2, 1) := by decide +kernel
theorem dJ5_append_cf1ce_14 : decode cJ5_append_cf1ce 14 = .ok (.aload_n 0, 1) := by decide +kernel
theorem dJ5_append_cf1ce_15 : decode cJ5_append_cf1ce 15 = .ok (.aload_n 0, 1) := by decide +kernel
theorem dJ5_append_cf1ce_16 : decode cJ5_append_cf1ce 16 = .ok (.getfield 79, 3) := by decide +kernel
theorem dJ5_append_cf1ce_19 : decode cJ5_append_cf1ce 19 = .ok (.iload_n 2, 1) := by decide +kernel
theorem dJ5_append_cf1ce_20 : decode cJ5_append_cf1ce 20 = .ok (.iadd, 1) := by decide +kernel
theorem dJ5_append_cf1ce_21 : decode cJ5_append_cf1ce 21 = .ok (.invokevirtual 100, 3) := by decide +kernel
theorem dJ5_append_cf1ce_24 : decode cJ5_append_cf1ce 24 = .ok (.aload_n 0, 1) := by decide +kernel
theorem dJ5_append_cf1ce_25 : decode cJ5_append_cf1ce 25 = .ok (.aload_n 0, 1) := by decide +kernel
theorem dJ5_append_cf1ce_26 : decode cJ5_append_cf1ce 26 = .ok (.getfield 79, 3) := by decide +kernel
theorem dJ5_append_cf1ce_29 : decode cJ5_append_cf1ce 29 = .ok (.aload_n 1, 1) := by decide +kernel
theorem dJ5_append_cf1ce_30 : decode cJ5_append_cf1ce 30 = .ok (.invokevirtual 208, 3) := by decide +kernel
theorem dJ5_append_cf1ce_33 : decode cJ5_append_cf1ce 33 = .ok (.aload_n 0, 1) := by decide +kernel
theorem dJ5_append_cf1ce_34 : decode cJ5_append_cf1ce 34 = .ok (.dup, 1) := by decide +kernel
theorem dJ5_append_cf1ce_35 : decode cJ5_append_cf1ce 35 = .ok (.getfield 79, 3) := by decide +kernel
theorem dJ5_append_cf1ce_38 : decode cJ5_append_cf1ce 38 = .ok (.iload_n 2, 1) := by decide +kernel
theorem dJ5_append_cf1ce_39 : decode cJ5_append_cf1ce 39 = .ok (.iadd, 1) := by decide +kernel
theorem dJ5_append_cf1ce_40 : decode cJ5_append_cf1ce 40 = .ok (.putfield 79, 3) := by decide +kernel
theorem dJ5_append_cf1ce_43 : decode cJ5_append_cf1ce 43 = .ok (.aload_n 0, 1) := by decide +kernel
theorem dJ5_append_cf1ce_44 : decode cJ5_append_cf1ce 44 = .ok (.areturn, 1) := by decide +kernel
theorem dJ5_appendNull_278bc_0 : decode cJ5_appendNull_278bc 0 = .ok (.aload_n 0, 1) := by decide +kernel
theorem dJ5_appendNull_278bc_1 : decode cJ5_appendNull_278bc 1 = .ok (.aload_n 0, 1) := by decide +kernel
theorem dJ5_appendNull_278bc_2 : decode cJ5_appendNull_278bc 2 = .ok (.getfield 79, 3) := by decide +kernel
theorem dJ5_appendNull_278bc_5 : decode cJ5_appendNull_278bc 5 = .ok (.iconst 4, 1) := by decide +kernel
theorem dJ5_appendNull_278bc_6 : decode cJ5_appendNull_278bc 6 = .ok (.iadd, 1) := by decide +kernel
theorem dJ5_appendNull_278bc_7 : decode cJ5_appendNull_278bc 7 = .ok (.invokevirtual 100, 3) := by decide +kernel
theorem dJ5_appendNull_278bc_10 : decode cJ5_appendNull_278bc 10 = .ok (.aload_n 0, 1) := by decide +kernel
theorem dJ5_appendNull_278bc_11 : decode cJ5_appendNull_278bc 11 = .ok (.getfield 79, 3) := by decide +kernel
theorem dJ5_appendNull_278bc_14 : decode cJ5_appendNull_278bc 14 = .ok (.istore_n 1, 1) := by decide +kernel
theorem dJ5_appendNull_278bc_15 : decode cJ5_appendNull_278bc 15 = .ok (.aload_n 0, 1) := by decide +kernel
theorem dJ5_appendNull_278bc_16 : decode cJ5_appendNull_278bc 16 = .ok (.getfield 15, 3) := by decide +kernel
theorem dJ5_appendNull_278bc_19 : decode cJ5_appendNull_278bc 19 = .ok (.astore_n 2, 1) := by decide +kernel
theorem dJ5_appendNull_278bc_20 : decode cJ5_appendNull_278bc 20 = .ok (.aload_n 0, 1) := by decide +kernel
theorem dJ5_appendNull_278bc_21 : decode cJ5_appendNull_278bc 21 = .ok (.invokevirtual 83, 3) := by decide +kernel
theorem dJ5_appendNull_278bc_24 : decode cJ5_appendNull_278bc 24 = .ok (.ifCond .eq 38, 3) := by decide +kernel
theorem dJ5_appendNull_278bc_27 : decode cJ5_appendNull_278bc 27 = .ok (.aload_n 2, 1) := by decide +kernel
theorem dJ5_appendNull_278bc_28 : decode cJ5_appendNull_278bc 28 = .ok (.iload_n 1, 1) := by decide +kernel
theorem dJ5_appendNull_278bc_29 : decode cJ5_appendNull_278bc 29 = .ok (.iinc 1 1, 3) := by decide +kernel
theorem dJ5_appendNull_278bc_32 : decode cJ5_appendNull_278bc 32 = .ok (.bipush 110, 2) := by decide +kernel
theorem dJ5_appendNull_278bc_34 : decode cJ5_appendNull_278bc 34 = .ok (.bastore, 1) := by decide +kernel
theorem dJ5_appendNull_278bc_35 : decode cJ5_appendNull_278bc 35 = .ok (.aload_n 2, 1) := by decide +kernel
theorem dJ5_appendNull_278bc_36 : decode cJ5_appendNull_278bc 36 = .ok (.iload_n 1, 1) := by decide +kernel
theorem dJ5_appendNull_278bc_37 : decode cJ5_appendNull_278bc 37 = .ok (.iinc 1 1, 3) := by decide +kernel
theorem dJ5_appendNull_278bc_40 : decode cJ5_appendNull_278bc 40 = .ok (.bipush 117, 2) := by decide +kernel
theorem dJ5_appendNull_278bc_42 : decode cJ5_appendNull_278bc 42 = .ok (.bastore, 1) := by decide +kernel
theorem dJ5_appendNull_278bc_43 : decode cJ5_appendNull_278bc 43 = .ok (.aload_n 2, 1) := by decide +kernel
theorem dJ5_appendNull_278bc_44 : decode cJ5_appendNull_278bc 44 = .ok (.iload_n 1, 1) := by decide +kernel
theorem dJ5_appendNull_278bc_45 : decode cJ5_appendNull_278bc 45 = .ok (.iinc 1 1, 3) := by decide +kernel
theorem dJ5_appendNull_278bc_48 : decode cJ5_appendNull_278bc 48 = .ok (.bipush 108, 2) := by decide +kernel
theorem dJ5_appendNull_278bc_50 : decode cJ5_appendNull_278bc 50 = .ok (.bastore, 1) := by decide +kernel
theorem dJ5_appendNull_278bc_51 : decode cJ5_appendNull_278bc 51 = .ok (.aload_n 2, 1) := by decide +kernel
theorem dJ5_appendNull_278bc_52 : decode cJ5_appendNull_278bc 52 = .ok (.iload_n 1, 1) := by decide +kernel
theorem dJ5_appendNull_278bc_53 : decode cJ5_appendNull_278bc 53 = .ok (.iinc 1 1, 3) := by decide +kernel
theorem dJ5_appendNull_278bc_56 : decode cJ5_appendNull_278bc 56 = .ok (.bipush 108, 2) := by decide +kernel
theorem dJ5_appendNull_278bc_58 : decode cJ5_appendNull_278bc 58 = .ok (.bastore, 1) := by decide +kernel
theorem dJ5_appendNull_278bc_59 : decode cJ5_appendNull_278bc 59 = .ok (.goto 17, 3) := by decide +kernel
theorem dJ5_appendNull_278bc_62 : decode cJ5_appendNull_278bc 62 = .ok (.aload_n 2, 1) := by decide +kernel
theorem dJ5_appendNull_278bc_63 : decode cJ5_appendNull_278bc 63 = .ok (.iload_n 1, 1) := by decide +kernel
theorem dJ5_appendNull_278bc_64 : decode cJ5_appendNull_278bc 64 = .ok (.bipush 110, 2) := by decide +kernel
theorem dJ5_appendNull_278bc_66 : decode cJ5_appendNull_278bc 66 = .ok (.bipush 117, 2) := by decide +kernel
theorem dJ5_appendNull_278bc_68 : decode cJ5_appendNull_278bc 68 = .ok (.bipush 108, 2) := by decide +kernel
theorem dJ5_appendNull_278bc_70 : decode cJ5_appendNull_278bc 70 = .ok (.bipush 108, 2) := by decide +kernel
theorem dJ5_appendNull_278bc_72 : decode cJ5_appendNull_278bc 72 = .ok (.invokestatic 226, 3) := by decide +kernel
theorem dJ5_appendNull_278bc_75 : decode cJ5_appendNull_278bc 75 = .ok (.istore_n 1, 1) := by decide +kernel
theorem dJ5_appendNull_278bc_76 : decode cJ5_appendNull_278bc 76 = .ok (.aload_n 0, 1) := by decide +kernel
theorem dJ5_appendNull_278bc_77 : decode cJ5_appendNull_278bc 77 = .ok (.iload_n 1, 1) := by decide +kernel
theorem dJ5_appendNull_278bc_78 : decode cJ5_appendNull_278bc 78 = .ok (.putfield 79, 3) := by decide +kernel
theorem dJ5_appendNull_278bc_81 : decode cJ5_appendNull_278bc 81 = .ok (.aload_n 0, 1) := by decide +kernel
theorem dJ5_appendNull_278bc_82 : decode cJ5_appendNull_278bc 82 = .ok (.areturn, 1) := by decide +kernel
theorem dJ5_append_3fe6f_0 : decode cJ5_append_3fe6f 0 = .ok (.aload_n 0, 1) := by decide +kernel
theorem dJ5_append_3fe6f_1 : decode cJ5_append_3fe6f 1 = .ok (.aload_n 0, 1) := by decide +kernel
theorem dJ5_append_3fe6f_2 : decode cJ5_append_3fe6f 2 = .ok (.getfield 79, 3) := by decide +kernel
theorem dJ5_append_3fe6f_5 : decode cJ5_append_3fe6f 5 = .ok (.iconst 1, 1) := by decide +kernel
theorem dJ5_append_3fe6f_6 : decode cJ5_append_3fe6f 6 = .ok (.iadd, 1) := by decide +kernel
theorem dJ5_append_3fe6f_7 : decode cJ5_append_3fe6f 7 = .ok (.invokevirtual 100, 3) := by decide +kernel
theorem dJ5_append_3fe6f_10 : decode cJ5_append_3fe6f 10 = .ok (.aload_n 0, 1) := by decide +kernel
theorem dJ5_append_3fe6f_11 : decode cJ5_append_3fe6f 11 = .ok (.invokevirtual 83, 3) := by decide +kernel
theorem dJ5_append_3fe6f_14 : decode cJ5_append_3fe6f 14 = .ok (.ifCond .eq 31, 3) := by decide +kernel
theorem dJ5_append_3fe6f_17 : decode cJ5_append_3fe6f 17 = .ok (.iload_n 1, 1) := by decide +kernel
theorem dJ5_append_3fe6f_18 : decode cJ5_append_3fe6f 18 = .ok (.invokestatic 191, 3) := by decide +kernel
theorem dJ5_append_3fe6f_21 : decode cJ5_append_3fe6f 21 = .ok (.ifCond .eq 24, 3) := by decide +kernel
theorem dJ5_append_3fe6f_24 : decode cJ5_append_3fe6f 24 = .ok (.aload_n 0, 1) := by decide +kernel
theorem dJ5_append_3fe6f_25 : decode cJ5_append_3fe6f 25 = .ok (.getfield 15, 3) := by decide +kernel
theorem dJ5_append_3fe6f_28 : decode cJ5_append_3fe6f 28 = .ok (.aload_n 0, 1) := by decide +kernel
theorem dJ5_append_3fe6f_29 : decode cJ5_append_3fe6f 29 = .ok (.dup, 1) := by decide +kernel
theorem dJ5_append_3fe6f_30 : decode cJ5_append_3fe6f 30 = .ok (.getfield 79, 3) := by decide +kernel
theorem dJ5_append_3fe6f_33 : decode cJ5_append_3fe6f 33 = .ok (.dup_x1, 1) := by decide +kernel
theorem dJ5_append_3fe6f_34 : decode cJ5_append_3fe6f 34 = .ok (.iconst 1, 1) := by decide +kernel
theorem dJ5_append_3fe6f_35 : decode cJ5_append_3fe6f 35 = .ok (.iadd, 1) := by decide +kernel
theorem dJ5_append_3fe6f_36 : decode cJ5_append_3fe6f 36 = .ok (.putfield 79, 3) := by decide +kernel
theorem dJ5_append_3fe6f_39 : decode cJ5_append_3fe6f 39 = .ok (.iload_n 1, 1) := by decide +kernel
theorem dJ5_append_3fe6f_40 : decode cJ5_append_3fe6f 40 = .ok (.i2b, 1) := by decide +kernel
theorem dJ5_append_3fe6f_41 : decode cJ5_append_3fe6f 41 = .ok (.bastore, 1) := by decide +kernel
theorem dJ5_append_3fe6f_42 : decode cJ5_append_3fe6f 42 = .ok (.goto 33, 3) := by decide +kernel
theorem dJ5_append_3fe6f_45 : decode cJ5_append_3fe6f 45 = .ok (.aload_n 0, 1) := by decide +kernel
theorem dJ5_append_3fe6f_46 : decode cJ5_append_3fe6f 46 = .ok (.invokevirtual 83, 3) := by decide +kernel
theorem dJ5_append_3fe6f_49 : decode cJ5_append_3fe6f 49 = .ok (.ifCond .eq 7, 3) := by decide +kernel
theorem dJ5_append_3fe6f_52 : decode cJ5_append_3fe6f 52 = .ok (.aload_n 0, 1) := by decide +kernel
theorem dJ5_append_3fe6f_53 : decode cJ5_append_3fe6f 53 = .ok (.invokevirtual 195, 3) := by decide +kernel
theorem dJ5_append_3fe6f_56 : decode cJ5_append_3fe6f 56 = .ok (.aload_n 0, 1) := by decide +kernel
theorem dJ5_append_3fe6f_57 : decode cJ5_append_3fe6f 57 = .ok (.getfield 15, 3) := by decide +kernel
theorem dJ5_append_3fe6f_60 : decode cJ5_append_3fe6f 60 = .ok (.aload_n 0, 1) := by decide +kernel
theorem dJ5_append_3fe6f_61 : decode cJ5_append_3fe6f 61 = .ok (.dup, 1) := by decide +kernel
theorem dJ5_append_3fe6f_62 : decode cJ5_append_3fe6f 62 = .ok (.getfield 79, 3) := by decide +kernel
theorem dJ5_append_3fe6f_65 : decode cJ5_append_3fe6f 65 = .ok (.dup_x1, 1) := by decide +kernel
theorem dJ5_append_3fe6f_66 : decode cJ5_append_3fe6f 66 = .ok (.iconst 1, 1) := by decide +kernel
theorem dJ5_append_3fe6f_67 : decode cJ5_append_3fe6f 67 = .ok (.iadd, 1) := by decide +kernel
theorem dJ5_append_3fe6f_68 : decode cJ5_append_3fe6f 68 = .ok (.putfield 79, 3) := by decide +kernel
theorem dJ5_append_3fe6f_71 : decode cJ5_append_3fe6f 71 = .ok (.iload_n 1, 1) := by decide +kernel
theorem dJ5_append_3fe6f_72 : decode cJ5_append_3fe6f 72 = .ok (.invokestatic 197, 3) := by decide +kernel
theorem dJ5_append_3fe6f_75 : decode cJ5_append_3fe6f 75 = .ok (.aload_n 0, 1) := by decide +kernel
theorem dJ5_append_3fe6f_76 : decode cJ5_append_3fe6f 76 = .ok (.areturn, 1) := by decide +kernel
theorem dJ5_append_c97b9_0 : decode cJ5_append_c97b9 0 = .ok (.aload_n 0, 1) := by decide +kernel
theorem dJ5_append_c97b9_1 : decode cJ5_append_c97b9 1 = .ok (.getfield 79, 3) := by decide +kernel
theorem dJ5_append_c97b9_4 : decode cJ5_append_c97b9 4 = .ok (.istore_n 2, 1) := by decide +kernel
theorem dJ5_append_c97b9_5 : decode cJ5_append_c97b9 5 = .ok (.iload_n 2, 1) := by decide +kernel
theorem dJ5_append_c97b9_6 : decode cJ5_append_c97b9 6 = .ok (.iload_n 1, 1) := by decide +kernel
theorem dJ5_append_c97b9_7 : decode cJ5_append_c97b9 7 = .ok (.invokestatic 245, 3) := by decide +kernel
theorem dJ5_append_c97b9_10 : decode cJ5_append_c97b9 10 = .ok (.iadd, 1) := by decide +kernel
theorem dJ5_append_c97b9_11 : decode cJ5_append_c97b9 11 = .ok (.istore_n 3, 1) := by decide +kernel
theorem dJ5_append_c97b9_12 : decode cJ5_append_c97b9 12 = .ok (.aload_n 0, 1) := by decide +kernel
theorem dJ5_append_c97b9_13 : decode cJ5_append_c97b9 13 = .ok (.iload_n 3, 1) := by decide +kernel
theorem dJ5_append_c97b9_14 : decode cJ5_append_c97b9 14 = .ok (.invokevirtual 100, 3) := by decide +kernel
theorem dJ5_append_c97b9_17 : decode cJ5_append_c97b9 17 = .ok (.aload_n 0, 1) := by decide +kernel
theorem dJ5_append_c97b9_18 : decode cJ5_append_c97b9 18 = .ok (.invokevirtual 83, 3) := by decide +kernel
theorem dJ5_append_c97b9_21 : decode cJ5_append_c97b9 21 = .ok (.ifCond .eq 16, 3) := by decide +kernel
theorem dJ5_append_c97b9_24 : decode cJ5_append_c97b9 24 = .ok (.iload_n 1, 1) := by decide +kernel
theorem dJ5_append_c97b9_25 : decode cJ5_append_c97b9 25 = .ok (.iload_n 3, 1) := by decide +kernel
theorem dJ5_append_c97b9_26 : decode cJ5_append_c97b9 26 = .ok (.aload_n 0, 1) := by decide +kernel
theorem dJ5_append_c97b9_27 : decode cJ5_append_c97b9 27 = .ok (.getfield 15, 3) := by decide +kernel
theorem dJ5_append_c97b9_30 : decode cJ5_append_c97b9 30 = .ok (.invokestatic 248, 3) := by decide +kernel
theorem dJ5_append_c97b9_33 : decode cJ5_append_c97b9 33 = .ok (.pop, 1) := by decide +kernel
theorem dJ5_append_c97b9_34 : decode cJ5_append_c97b9 34 = .ok (.goto 14, 3) := by decide +kernel
theorem dJ5_append_c97b9_37 : decode cJ5_append_c97b9 37 = .ok (.iload_n 1, 1) := by decide +kernel
theorem dJ5_append_c97b9_38 : decode cJ5_append_c97b9 38 = .ok (.iload_n 2, 1) := by decide +kernel
theorem dJ5_append_c97b9_39 : decode cJ5_append_c97b9 39 = .ok (.iload_n 3, 1) := by decide +kernel
theorem dJ5_append_c97b9_40 : decode cJ5_append_c97b9 40 = .ok (.aload_n 0, 1) := by decide +kernel
theorem dJ5_append_c97b9_41 : decode cJ5_append_c97b9 41 = .ok (.getfield 15, 3) := by decide +kernel
theorem dJ5_append_c97b9_44 : decode cJ5_append_c97b9 44 = .ok (.invokestatic 251, 3) := by decide +kernel
theorem dJ5_append_c97b9_47 : decode cJ5_append_c97b9 47 = .ok (.pop, 1) := by decide +kernel
theorem dJ5_append_c97b9_48 : decode cJ5_append_c97b9 48 = .ok (.aload_n 0, 1) := by decide +kernel
theorem dJ5_append_c97b9_49 : decode cJ5_append_c97b9 49 = .ok (.iload_n 3, 1) := by decide +kernel
theorem dJ5_append_c97b9_50 : decode cJ5_append_c97b9 50 = .ok (.putfield 79, 3) := by decide +kernel
theorem dJ5_append_c97b9_53 : decode cJ5_append_c97b9 53 = .ok (.aload_n 0, 1) := by decide +kernel
theorem dJ5_append_c97b9_54 : decode cJ5_append_c97b9 54 = .ok (.areturn, 1) := by decide +kernel
theorem dJ5_getValue_6d5f1_0 : decode cJ5_getValue_6d5f1 0 = .ok (.aload_n 0, 1) := by decide +kernel
theorem dJ5_getValue_6d5f1_1 : decode cJ5_getValue_6d5f1 1 = .ok (.getfield 15, 3) := by decide +kernel
theorem dJ5_getValue_6d5f1_4 : decode cJ5_getValue_6d5f1 4 = .ok (.areturn, 1) := by decide +kernel
theorem dJ5_isLatin1_aae02_0 : decode cJ5_isLatin1_aae02 0 = .ok (.getstatic 18, 3) := by decide +kernel
theorem dJ5_isLatin1_aae02_3 : decode cJ5_isLatin1_aae02 3 = .ok (.ifCond .eq 14, 3) := by decide +kernel
theorem dJ5_isLatin1_aae02_6 : decode cJ5_isLatin1_aae02 6 = .ok (.aload_n 0, 1) := by decide +kernel
theorem dJ5_isLatin1_aae02_7 : decode cJ5_isLatin1_aae02 7 = .ok (.getfield 22, 3) := by decide +kernel
theorem dJ5_isLatin1_aae02_10 : decode cJ5_isLatin1_aae02 10 = .ok (.ifCond .ne 7, 3) := by decide +kernel
theorem dJ5_isLatin1_aae02_13 : decode cJ5_isLatin1_aae02 13 = .ok (.iconst 1, 1) := by decide +kernel
theorem dJ5_isLatin1_aae02_14 : decode cJ5_isLatin1_aae02 14 = .ok (.goto 4, 3) := by decide +kernel
theorem dJ5_isLatin1_aae02_17 : decode cJ5_isLatin1_aae02 17 = .ok (.iconst 0, 1) := by decide +kernel
theorem dJ5_isLatin1_aae02_18 : decode cJ5_isLatin1_aae02 18 = .ok (.ireturn, 1) := by decide +kernel
theorem dJ5_inflateIfNeededFor_a7421_0 : decode cJ5_inflateIfNeededFor_a7421 0 = .ok (.getstatic 18, 3) := by decide +kernel
theorem dJ5_inflateIfNeededFor_a7421_3 : decode cJ5_inflateIfNeededFor_a7421 3 = .ok (.ifCond .eq 18, 3) := by decide +kernel
theorem dJ5_inflateIfNeededFor_a7421_6 : decode cJ5_inflateIfNeededFor_a7421 6 = .ok (.aload_n 0, 1) := by decide +kernel
theorem dJ5_inflateIfNeededFor_a7421_7 : decode cJ5_inflateIfNeededFor_a7421 7 = .ok (.getfield 22, 3) := by decide +kernel
theorem dJ5_inflateIfNeededFor_a7421_10 : decode cJ5_inflateIfNeededFor_a7421 10 = .ok (.aload_n 1, 1) := by decide +kernel
theorem dJ5_inflateIfNeededFor_a7421_11 : decode cJ5_inflateIfNeededFor_a7421 11 = .ok (.invokevirtual 40, 3) := by decide +kernel
theorem dJ5_inflateIfNeededFor_a7421_14 : decode cJ5_inflateIfNeededFor_a7421 14 = .ok (.if_icmp .eq 7, 3) := by decide +kernel
theorem dJ5_inflateIfNeededFor_a7421_17 : decode cJ5_inflateIfNeededFor_a7421 17 = .ok (.aload_n 0, 1) := by decide +kernel
theorem dJ5_inflateIfNeededFor_a7421_18 : decode cJ5_inflateIfNeededFor_a7421 18 = .ok (.invokevirtual 195, 3) := by decide +kernel
theorem dJ5_inflateIfNeededFor_a7421_21 : decode cJ5_inflateIfNeededFor_a7421 21 = .ok (.return_, 1) := by decide +kernel
theorem dJ5_putStringAt_47b60_0 : decode cJ5_putStringAt_47b60 0 = .ok (.aload_n 0, 1) := by decide +kernel
theorem dJ5_putStringAt_47b60_1 : decode cJ5_putStringAt_47b60 1 = .ok (.aload_n 2, 1) := by decide +kernel
theorem dJ5_putStringAt_47b60_2 : decode cJ5_putStringAt_47b60 2 = .ok (.invokevirtual 397, 3) := by decide +kernel
theorem dJ5_putStringAt_47b60_5 : decode cJ5_putStringAt_47b60 5 = .ok (.aload_n 2, 1) := by decide +kernel
theorem dJ5_putStringAt_47b60_6 : decode cJ5_putStringAt_47b60 6 = .ok (.aload_n 0, 1) := by decide +kernel
theorem dJ5_putStringAt_47b60_7 : decode cJ5_putStringAt_47b60 7 = .ok (.getfield 15, 3) := by decide +kernel
theorem dJ5_putStringAt_47b60_10 : decode cJ5_putStringAt_47b60 10 = .ok (.iload_n 1, 1) := by decide +kernel
theorem dJ5_putStringAt_47b60_11 : decode cJ5_putStringAt_47b60 11 = .ok (.aload_n 0, 1) := by decide +kernel
theorem dJ5_putStringAt_47b60_12 : decode cJ5_putStringAt_47b60 12 = .ok (.getfield 22, 3) := by decide +kernel
theorem dJ5_putStringAt_47b60_15 : decode cJ5_putStringAt_47b60 15 = .ok (.invokevirtual 399, 3) := by decide +kernel
theorem dJ5_putStringAt_47b60_18 : decode cJ5_putStringAt_47b60 18 = .ok (.return_, 1) := by decide +kernel
theorem dJxe99ae_isNaN_b9ae7_0 : decode cJxe99ae_isNaN_b9ae7 0 = .ok (.dload_n 0, 1) := by decide +kernel
theorem dJxe99ae_isNaN_b9ae7_1 : decode cJxe99ae_isNaN_b9ae7 1 = .ok (.dload_n 0, 1) := by decide +kernel
theorem dJxe99ae_isNaN_b9ae7_2 : decode cJxe99ae_isNaN_b9ae7 2 = .ok (.dcmp .l, 1) := by decide +kernel
theorem dJxe99ae_isNaN_b9ae7_3 : decode cJxe99ae_isNaN_b9ae7 3 = .ok (.ifCond .eq 7, 3) := by decide +kernel
theorem dJxe99ae_isNaN_b9ae7_6 : decode cJxe99ae_isNaN_b9ae7 6 = .ok (.iconst 1, 1) := by decide +kernel
theorem dJxe99ae_isNaN_b9ae7_7 : decode cJxe99ae_isNaN_b9ae7 7 = .ok (.goto 4, 3) := by decide +kernel
theorem dJxe99ae_isNaN_b9ae7_10 : decode cJxe99ae_isNaN_b9ae7 10 = .ok (.iconst 0, 1) := by decide +kernel
theorem dJxe99ae_isNaN_b9ae7_11 : decode cJxe99ae_isNaN_b9ae7 11 = .ok (.ireturn, 1) := by decide +kernel
theorem dJxe99ae_doubleToLongBits_ccdee_0 : decode cJxe99ae_doubleToLongBits_ccdee 0 = .ok (.dload_n 0, 1) := by decide +kernel
theorem dJxe99ae_doubleToLongBits_ccdee_1 : decode cJxe99ae_doubleToLongBits_ccdee 1 = .ok (.invokestatic 122, 3) := by decide +kernel
theorem dJxe99ae_doubleToLongBits_ccdee_4 : decode cJxe99ae_doubleToLongBits_ccdee 4 = .ok (.ifCond .ne 8, 3) := by decide +kernel
theorem dJxe99ae_doubleToLongBits_ccdee_7 : decode cJxe99ae_doubleToLongBits_ccdee 7 = .ok (.dload_n 0, 1) := by decide +kernel
theorem dJxe99ae_doubleToLongBits_ccdee_8 : decode cJxe99ae_doubleToLongBits_ccdee 8 = .ok (.invokestatic 134, 3) := by decide +kernel
theorem dJxe99ae_doubleToLongBits_ccdee_11 : decode cJxe99ae_doubleToLongBits_ccdee 11 = .ok (.lreturn, 1) := by decide +kernel
theorem dJxe99ae_doubleToLongBits_ccdee_12 : decode cJxe99ae_doubleToLongBits_ccdee 12 = .ok (.ldc2_w 137, 3) := by decide +kernel
theorem dJxe99ae_doubleToLongBits_ccdee_15 : decode cJxe99ae_doubleToLongBits_ccdee 15 = .ok (.lreturn, 1) := by decide +kernel
theorem dJxf58ca_isNaN_12338_0 : decode cJxf58ca_isNaN_12338 0 = .ok (.fload_n 0, 1) := by decide +kernel
theorem dJxf58ca_isNaN_12338_1 : decode cJxf58ca_isNaN_12338 1 = .ok (.fload_n 0, 1) := by decide +kernel
theorem dJxf58ca_isNaN_12338_2 : decode cJxf58ca_isNaN_12338 2 = .ok (.fcmp .l, 1) := by decide +kernel
theorem dJxf58ca_isNaN_12338_3 : decode cJxf58ca_isNaN_12338 3 = .ok (.ifCond .eq 7, 3) := by decide +kernel
theorem dJxf58ca_isNaN_12338_6 : decode cJxf58ca_isNaN_12338 6 = .ok (.iconst 1, 1) := by decide +kernel
theorem dJxf58ca_isNaN_12338_7 : decode cJxf58ca_isNaN_12338 7 = .ok (.goto 4, 3) := by decide +kernel
theorem dJxf58ca_isNaN_12338_10 : decode cJxf58ca_isNaN_12338 10 = .ok (.iconst 0, 1) := by decide +kernel
theorem dJxf58ca_isNaN_12338_11 : decode cJxf58ca_isNaN_12338 11 = .ok (.ireturn, 1) := by decide +kernel
theorem dJxf58ca_floatToIntBits_5c35a_0 : decode cJxf58ca_floatToIntBits_5c35a 0 = .ok (.fload_n 0, 1) := by decide +kernel
theorem dJxf58ca_floatToIntBits_5c35a_1 : decode cJxf58ca_floatToIntBits_5c35a 1 = .ok (.invokestatic 59, 3) := by decide +kernel
theorem dJxf58ca_floatToIntBits_5c35a_4 : decode cJxf58ca_floatToIntBits_5c35a 4 = .ok (.ifCond .ne 8, 3) := by decide +kernel
theorem dJxf58ca_floatToIntBits_5c35a_7 : decode cJxf58ca_floatToIntBits_5c35a 7 = .ok (.fload_n 0, 1) := by decide +kernel
theorem dJxf58ca_floatToIntBits_5c35a_8 : decode cJxf58ca_floatToIntBits_5c35a 8 = .ok (.invokestatic 74, 3) := by decide +kernel
theorem dJxf58ca_floatToIntBits_5c35a_11 : decode cJxf58ca_floatToIntBits_5c35a 11 = .ok (.ireturn, 1) := by decide +kernel
theorem dJxf58ca_floatToIntBits_5c35a_12 : decode cJxf58ca_floatToIntBits_5c35a 12 = .ok (.ldc 77, 2) := by decide +kernel
theorem dJxf58ca_floatToIntBits_5c35a_14 : decode cJxf58ca_floatToIntBits_5c35a 14 = .ok (.ireturn, 1) := by decide +kernel
theorem dJ6_getChars_ba4f3_0 : decode cJ6_getChars_ba4f3 0 = .ok (.iload_n 1, 1) := by decide +kernel
theorem dJ6_getChars_ba4f3_1 : decode cJ6_getChars_ba4f3 1 = .ok (.istore 5, 2) := by decide +kernel
theorem dJ6_getChars_ba4f3_3 : decode cJ6_getChars_ba4f3 3 = .ok (.iload_n 0, 1) := by decide +kernel
theorem dJ6_getChars_ba4f3_4 : decode cJ6_getChars_ba4f3 4 = .ok (.ifCond .ge 7, 3) := by decide +kernel
theorem dJ6_getChars_ba4f3_7 : decode cJ6_getChars_ba4f3 7 = .ok (.iconst 1, 1) := by decide +kernel
theorem dJ6_getChars_ba4f3_8 : decode cJ6_getChars_ba4f3 8 = .ok (.goto 4, 3) := by decide +kernel
theorem dJ6_getChars_ba4f3_11 : decode cJ6_getChars_ba4f3 11 = .ok (.iconst 0, 1) := by decide +kernel
theorem dJ6_getChars_ba4f3_12 : decode cJ6_getChars_ba4f3 12 = .ok (.istore 6, 2) := by decide +kernel
theorem dJ6_getChars_ba4f3_14 : decode cJ6_getChars_ba4f3 14 = .ok (.iload 6, 2) := by decide +kernel
theorem dJ6_getChars_ba4f3_16 : decode cJ6_getChars_ba4f3 16 = .ok (.ifCond .ne 6, 3) := by decide +kernel
theorem dJ6_getChars_ba4f3_19 : decode cJ6_getChars_ba4f3 19 = .ok (.iload_n 0, 1) := by decide +kernel
theorem dJ6_getChars_ba4f3_20 : decode cJ6_getChars_ba4f3 20 = .ok (.ineg, 1) := by decide +kernel
theorem dJ6_getChars_ba4f3_21 : decode cJ6_getChars_ba4f3 21 = .ok (.istore_n 0, 1) := by decide +kernel
theorem dJ6_getChars_ba4f3_22 : decode cJ6_getChars_ba4f3 22 = .ok (.iload_n 0, 1) := by decide +kernel
theorem dJ6_getChars_ba4f3_23 : decode cJ6_getChars_ba4f3 23 = .ok (.bipush (-100), 2) := by decide +kernel
theorem dJ6_getChars_ba4f3_25 : decode cJ6_getChars_ba4f3 25 = .ok (.if_icmp .gt 47, 3) := by decide +kernel
theorem dJ6_getChars_ba4f3_28 : decode cJ6_getChars_ba4f3 28 = .ok (.iload_n 0, 1) := by decide +kernel
theorem dJ6_getChars_ba4f3_29 : decode cJ6_getChars_ba4f3 29 = .ok (.bipush 100, 2) := by decide +kernel
theorem dJ6_getChars_ba4f3_31 : decode cJ6_getChars_ba4f3 31 = .ok (.idiv, 1) := by decide +kernel
theorem dJ6_getChars_ba4f3_32 : decode cJ6_getChars_ba4f3 32 = .ok (.istore_n 3, 1) := by decide +kernel
theorem dJ6_getChars_ba4f3_33 : decode cJ6_getChars_ba4f3 33 = .ok (.iload_n 3, 1) := by decide +kernel
theorem dJ6_getChars_ba4f3_34 : decode cJ6_getChars_ba4f3 34 = .ok (.bipush 100, 2) := by decide +kernel
theorem dJ6_getChars_ba4f3_36 : decode cJ6_getChars_ba4f3 36 = .ok (.imul, 1) := by decide +kernel
theorem dJ6_getChars_ba4f3_37 : decode cJ6_getChars_ba4f3 37 = .ok (.iload_n 0, 1) := by decide +kernel
theorem dJ6_getChars_ba4f3_38 : decode cJ6_getChars_ba4f3 38 = .ok (.isub, 1) := by decide +kernel
theorem dJ6_getChars_ba4f3_39 : decode cJ6_getChars_ba4f3 39 = .ok (.istore 4, 2) := by decide +kernel
theorem dJ6_getChars_ba4f3_41 : decode cJ6_getChars_ba4f3 41 = .ok (.iload_n 3, 1) := by decide +kernel
theorem dJ6_getChars_ba4f3_42 : decode cJ6_getChars_ba4f3 42 = .ok (.istore_n 0, 1) := by decide +kernel
theorem dJ6_getChars_ba4f3_43 : decode cJ6_getChars_ba4f3 43 = .ok (.aload_n 2, 1) := by decide +kernel
theorem dJ6_getChars_ba4f3_44 : decode cJ6_getChars_ba4f3 44 = .ok (.iinc 5 (-1), 3) := by decide +kernel
theorem dJ6_getChars_ba4f3_47 : decode cJ6_getChars_ba4f3 47 = .ok (.iload 5, 2) := by decide +kernel
theorem dJ6_getChars_ba4f3_49 : decode cJ6_getChars_ba4f3 49 = .ok (.getstatic 83, 3) := by decide +kernel
theorem dJ6_getChars_ba4f3_52 : decode cJ6_getChars_ba4f3 52 = .ok (.iload 4, 2) := by decide +kernel
theorem dJ6_getChars_ba4f3_54 : decode cJ6_getChars_ba4f3 54 = .ok (.baload, 1) := by decide +kernel
theorem dJ6_getChars_ba4f3_55 : decode cJ6_getChars_ba4f3 55 = .ok (.bastore, 1) := by decide +kernel
theorem dJ6_getChars_ba4f3_56 : decode cJ6_getChars_ba4f3 56 = .ok (.aload_n 2, 1) := by decide +kernel
theorem dJ6_getChars_ba4f3_57 : decode cJ6_getChars_ba4f3 57 = .ok (.iinc 5 (-1), 3) := by decide +kernel
theorem dJ6_getChars_ba4f3_60 : decode cJ6_getChars_ba4f3 60 = .ok (.iload 5, 2) := by decide +kernel
theorem dJ6_getChars_ba4f3_62 : decode cJ6_getChars_ba4f3 62 = .ok (.getstatic 87, 3) := by decide +kernel
theorem dJ6_getChars_ba4f3_65 : decode cJ6_getChars_ba4f3 65 = .ok (.iload 4, 2) := by decide +kernel
theorem dJ6_getChars_ba4f3_67 : decode cJ6_getChars_ba4f3 67 = .ok (.baload, 1) := by decide +kernel
theorem dJ6_getChars_ba4f3_68 : decode cJ6_getChars_ba4f3 68 = .ok (.bastore, 1) := by decide +kernel
theorem dJ6_getChars_ba4f3_69 : decode cJ6_getChars_ba4f3 69 = .ok (.goto (-47), 3) := by decide +kernel
theorem dJ6_getChars_ba4f3_72 : decode cJ6_getChars_ba4f3 72 = .ok (.aload_n 2, 1) := by decide +kernel
theorem dJ6_getChars_ba4f3_73 : decode cJ6_getChars_ba4f3 73 = .ok (.iinc 5 (-1), 3) := by decide +kernel
theorem dJ6_getChars_ba4f3_76 : decode cJ6_getChars_ba4f3 76 = .ok (.iload 5, 2) := by decide +kernel
theorem dJ6_getChars_ba4f3_78 : decode cJ6_getChars_ba4f3 78 = .ok (.getstatic 83, 3) := by decide +kernel
theorem dJ6_getChars_ba4f3_81 : decode cJ6_getChars_ba4f3 81 = .ok (.iload_n 0, 1) := by decide +kernel
theorem dJ6_getChars_ba4f3_82 : decode cJ6_getChars_ba4f3 82 = .ok (.ineg, 1) := by decide +kernel
theorem dJ6_getChars_ba4f3_83 : decode cJ6_getChars_ba4f3 83 = .ok (.baload, 1) := by decide +kernel
theorem dJ6_getChars_ba4f3_84 : decode cJ6_getChars_ba4f3 84 = .ok (.bastore, 1) := by decide +kernel
theorem dJ6_getChars_ba4f3_85 : decode cJ6_getChars_ba4f3 85 = .ok (.iload_n 0, 1) := by decide +kernel
theorem dJ6_getChars_ba4f3_86 : decode cJ6_getChars_ba4f3 86 = .ok (.bipush (-9), 2) := by decide +kernel
theorem dJ6_getChars_ba4f3_88 : decode cJ6_getChars_ba4f3 88 = .ok (.if_icmp .ge 16, 3) := by decide +kernel
theorem dJ6_getChars_ba4f3_91 : decode cJ6_getChars_ba4f3 91 = .ok (.aload_n 2, 1) := by decide +kernel
theorem dJ6_getChars_ba4f3_92 : decode cJ6_getChars_ba4f3 92 = .ok (.iinc 5 (-1), 3) := by decide +kernel
theorem dJ6_getChars_ba4f3_95 : decode cJ6_getChars_ba4f3 95 = .ok (.iload 5, 2) := by decide +kernel
theorem dJ6_getChars_ba4f3_97 : decode cJ6_getChars_ba4f3 97 = .ok (.getstatic 87, 3) := by decide +kernel
theorem dJ6_getChars_ba4f3_100 : decode cJ6_getChars_ba4f3 100 = .ok (.iload_n 0, 1) := by decide +kernel
theorem dJ6_getChars_ba4f3_101 : decode cJ6_getChars_ba4f3 101 = .ok (.ineg, 1) := by decide +kernel
theorem dJ6_getChars_ba4f3_102 : decode cJ6_getChars_ba4f3 102 = .ok (.baload, 1) := by decide +kernel
theorem dJ6_getChars_ba4f3_103 : decode cJ6_getChars_ba4f3 103 = .ok (.bastore, 1) := by decide +kernel
theorem dJ6_getChars_ba4f3_104 : decode cJ6_getChars_ba4f3 104 = .ok (.iload 6, 2) := by decide +kernel
theorem dJ6_getChars_ba4f3_106 : decode cJ6_getChars_ba4f3 106 = .ok (.ifCond .eq 12, 3) := by decide +kernel
theorem dJ6_getChars_ba4f3_109 : decode cJ6_getChars_ba4f3 109 = .ok (.aload_n 2, 1) := by decide +kernel
theorem dJ6_getChars_ba4f3_110 : decode cJ6_getChars_ba4f3 110 = .ok (.iinc 5 (-1), 3) := by decide +kernel
theorem dJ6_getChars_ba4f3_113 : decode cJ6_getChars_ba4f3 113 = .ok (.iload 5, 2) := by decide +kernel
theorem dJ6_getChars_ba4f3_115 : decode cJ6_getChars_ba4f3 115 = .ok (.bipush 45, 2) := by decide +kernel
theorem dJ6_getChars_ba4f3_117 : decode cJ6_getChars_ba4f3 117 = .ok (.bastore, 1) := by decide +kernel
theorem dJ6_getChars_ba4f3_118 : decode cJ6_getChars_ba4f3 118 = .ok (.iload 5, 2) := by decide +kernel
theorem dJ6_getChars_ba4f3_120 : decode cJ6_getChars_ba4f3 120 = .ok (.ireturn, 1) := by decide +kernel
theorem dJ6_stringSize_0f7a4_0 : decode cJ6_stringSize_0f7a4 0 = .ok (.iconst 1, 1) := by decide +kernel
theorem dJ6_stringSize_0f7a4_1 : decode cJ6_stringSize_0f7a4 1 = .ok (.istore_n 1, 1) := by decide +kernel
theorem dJ6_stringSize_0f7a4_2 : decode cJ6_stringSize_0f7a4 2 = .ok (.iload_n 0, 1) := by decide +kernel
theorem dJ6_stringSize_0f7a4_3 : decode cJ6_stringSize_0f7a4 3 = .ok (.ifCond .lt 8, 3) := by decide +kernel
theorem dJ6_stringSize_0f7a4_6 : decode cJ6_stringSize_0f7a4 6 = .ok (.iconst 0, 1) := by decide +kernel
theorem dJ6_stringSize_0f7a4_7 : decode cJ6_stringSize_0f7a4 7 = .ok (.istore_n 1, 1) := by decide +kernel
theorem dJ6_stringSize_0f7a4_8 : decode cJ6_stringSize_0f7a4 8 = .ok (.iload_n 0, 1) := by decide +kernel
theorem dJ6_stringSize_0f7a4_9 : decode cJ6_stringSize_0f7a4 9 = .ok (.ineg, 1) := by decide +kernel
theorem dJ6_stringSize_0f7a4_10 : decode cJ6_stringSize_0f7a4 10 = .ok (.istore_n 0, 1) := by decide +kernel
theorem dJ6_stringSize_0f7a4_11 : decode cJ6_stringSize_0f7a4 11 = .ok (.bipush (-10), 2) := by decide +kernel
theorem dJ6_stringSize_0f7a4_13 : decode cJ6_stringSize_0f7a4 13 = .ok (.istore_n 2, 1) := by decide +kernel
theorem dJ6_stringSize_0f7a4_14 : decode cJ6_stringSize_0f7a4 14 = .ok (.iconst 1, 1) := by decide +kernel
theorem dJ6_stringSize_0f7a4_15 : decode cJ6_stringSize_0f7a4 15 = .ok (.istore_n 3, 1) := by decide +kernel
theorem dJ6_stringSize_0f7a4_16 : decode cJ6_stringSize_0f7a4 16 = .ok (.iload_n 3, 1) := by decide +kernel
theorem dJ6_stringSize_0f7a4_17 : decode cJ6_stringSize_0f7a4 17 = .ok (.bipush 10, 2) := by decide +kernel
theorem dJ6_stringSize_0f7a4_19 : decode cJ6_stringSize_0f7a4 19 = .ok (.if_icmp .ge 23, 3) := by decide +kernel
theorem dJ6_stringSize_0f7a4_22 : decode cJ6_stringSize_0f7a4 22 = .ok (.iload_n 0, 1) := by decide +kernel
theorem dJ6_stringSize_0f7a4_23 : decode cJ6_stringSize_0f7a4 23 = .ok (.iload_n 2, 1) := by decide +kernel
theorem dJ6_stringSize_0f7a4_24 : decode cJ6_stringSize_0f7a4 24 = .ok (.if_icmp .le 7, 3) := by decide +kernel
theorem dJ6_stringSize_0f7a4_27 : decode cJ6_stringSize_0f7a4 27 = .ok (.iload_n 3, 1) := by decide +kernel
theorem dJ6_stringSize_0f7a4_28 : decode cJ6_stringSize_0f7a4 28 = .ok (.iload_n 1, 1) := by decide +kernel
theorem dJ6_stringSize_0f7a4_29 : decode cJ6_stringSize_0f7a4 29 = .ok (.iadd, 1) := by decide +kernel
theorem dJ6_stringSize_0f7a4_30 : decode cJ6_stringSize_0f7a4 30 = .ok (.ireturn, 1) := by decide +kernel
theorem dJ6_stringSize_0f7a4_31 : decode cJ6_stringSize_0f7a4 31 = .ok (.bipush 10, 2) := by decide +kernel
theorem dJ6_stringSize_0f7a4_33 : decode cJ6_stringSize_0f7a4 33 = .ok (.iload_n 2, 1) := by decide +kernel
theorem dJ6_stringSize_0f7a4_34 : decode cJ6_stringSize_0f7a4 34 = .ok (.imul, 1) := by decide +kernel
theorem dJ6_stringSize_0f7a4_35 : decode cJ6_stringSize_0f7a4 35 = .ok (.istore_n 2, 1) := by decide +kernel
theorem dJ6_stringSize_0f7a4_36 : decode cJ6_stringSize_0f7a4 36 = .ok (.iinc 3 1, 3) := by decide +kernel
theorem dJ6_stringSize_0f7a4_39 : decode cJ6_stringSize_0f7a4 39 = .ok (.goto (-23), 3) := by decide +kernel
theorem dJ6_stringSize_0f7a4_42 : decode cJ6_stringSize_0f7a4 42 = .ok (.bipush 10, 2) := by decide +kernel
theorem dJ6_stringSize_0f7a4_44 : decode cJ6_stringSize_0f7a4 44 = .ok (.iload_n 1, 1) := by decide +kernel
theorem dJ6_stringSize_0f7a4_45 : decode cJ6_stringSize_0f7a4 45 = .ok (.iadd, 1) := by decide +kernel
theorem dJ6_stringSize_0f7a4_46 : decode cJ6_stringSize_0f7a4 46 = .ok (.ireturn, 1) := by decide +kernel
theorem dJ9_max_7cf53_0 : decode cJ9_max_7cf53 0 = .ok (.iload_n 0, 1) := by decide +kernel
theorem dJ9_max_7cf53_1 : decode cJ9_max_7cf53 1 = .ok (.iload_n 1, 1) := by decide +kernel
theorem dJ9_max_7cf53_2 : decode cJ9_max_7cf53 2 = .ok (.if_icmp .lt 7, 3) := by decide +kernel
theorem dJ9_max_7cf53_5 : decode cJ9_max_7cf53 5 = .ok (.iload_n 0, 1) := by decide +kernel
theorem dJ9_max_7cf53_6 : decode cJ9_max_7cf53 6 = .ok (.goto 4, 3) := by decide +kernel
theorem dJ9_max_7cf53_9 : decode cJ9_max_7cf53 9 = .ok (.iload_n 1, 1) := by decide +kernel
theorem dJ9_max_7cf53_10 : decode cJ9_max_7cf53 10 = .ok (.ireturn, 1) := by decide +kernel
theorem dJ9_min_7cf53_0 : decode cJ9_min_7cf53 0 = .ok (.iload_n 0, 1) := by decide +kernel
theorem dJ9_min_7cf53_1 : decode cJ9_min_7cf53 1 = .ok (.iload_n 1, 1) := by decide +kernel
theorem dJ9_min_7cf53_2 : decode cJ9_min_7cf53 2 = .ok (.if_icmp .gt 7, 3) := by decide +kernel
theorem dJ9_min_7cf53_5 : decode cJ9_min_7cf53 5 = .ok (.iload_n 0, 1) := by decide +kernel
theorem dJ9_min_7cf53_6 : decode cJ9_min_7cf53 6 = .ok (.goto 4, 3) := by decide +kernel
theorem dJ9_min_7cf53_9 : decode cJ9_min_7cf53 9 = .ok (.iload_n 1, 1) := by decide +kernel
theorem dJ9_min_7cf53_10 : decode cJ9_min_7cf53 10 = .ok (.ireturn, 1) := by decide +kernel
theorem dJ0_init_81219_0 : decode cJ0_init_81219 0 = .ok (.aload_n 0, 1) := by decide +kernel
theorem dJ0_init_81219_1 : decode cJ0_init_81219 1 = .ok (.aload_n 1, 1) := by decide +kernel
theorem dJ0_init_81219_2 : decode cJ0_init_81219 2 = .ok (.aconst_null, 1) := by decide +kernel
theorem dJ0_init_81219_3 : decode cJ0_init_81219 3 = .ok (.invokespecial 489, 3) := by decide +kernel
theorem dJ0_init_81219_6 : decode cJ0_init_81219 6 = .ok (.return_, 1) := by decide +kernel
theorem dJ0_length_8abf5_0 : decode cJ0_length_8abf5 0 = .ok (.aload_n 0, 1) := by decide +kernel
theorem dJ0_length_8abf5_1 : decode cJ0_length_8abf5 1 = .ok (.getfield 9, 3) := by decide +kernel
theorem dJ0_length_8abf5_4 : decode cJ0_length_8abf5 4 = .ok (.arraylength, 1) := by decide +kernel
theorem dJ0_length_8abf5_5 : decode cJ0_length_8abf5 5 = .ok (.aload_n 0, 1) := by decide +kernel
theorem dJ0_length_8abf5_6 : decode cJ0_length_8abf5 6 = .ok (.invokevirtual 335, 3) := by decide +kernel
theorem dJ0_length_8abf5_9 : decode cJ0_length_8abf5 9 = .ok (.ishr, 1) := by decide +kernel
theorem dJ0_length_8abf5_10 : decode cJ0_length_8abf5 10 = .ok (.ireturn, 1) := by decide +kernel
theorem dJ0_isEmpty_aae02_0 : decode cJ0_isEmpty_aae02 0 = .ok (.aload_n 0, 1) := by decide +kernel
theorem dJ0_isEmpty_aae02_1 : decode cJ0_isEmpty_aae02 1 = .ok (.getfield 9, 3) := by decide +kernel
theorem dJ0_isEmpty_aae02_4 : decode cJ0_isEmpty_aae02 4 = .ok (.arraylength, 1) := by decide +kernel
theorem dJ0_isEmpty_aae02_5 : decode cJ0_isEmpty_aae02 5 = .ok (.ifCond .ne 7, 3) := by decide +kernel
theorem dJ0_isEmpty_aae02_8 : decode cJ0_isEmpty_aae02 8 = .ok (.iconst 1, 1) := by decide +kernel
theorem dJ0_isEmpty_aae02_9 : decode cJ0_isEmpty_aae02 9 = .ok (.goto 4, 3) := by decide +kernel
theorem dJ0_isEmpty_aae02_12 : decode cJ0_isEmpty_aae02 12 = .ok (.iconst 0, 1) := by decide +kernel
theorem dJ0_isEmpty_aae02_13 : decode cJ0_isEmpty_aae02 13 = .ok (.ireturn, 1) := by decide +kernel
theorem dJ0_charAt_5068e_0 : decode cJ0_charAt_5068e 0 = .ok (.aload_n 0, 1) := by decide +kernel
theorem dJ0_charAt_5068e_1 : decode cJ0_charAt_5068e 1 = .ok (.invokevirtual 492, 3) := by decide +kernel
theorem dJ0_charAt_5068e_4 : decode cJ0_charAt_5068e 4 = .ok (.ifCond .eq 12, 3) := by decide +kernel
theorem dJ0_charAt_5068e_7 : decode cJ0_charAt_5068e 7 = .ok (.aload_n 0, 1) := by decide +kernel
theorem dJ0_charAt_5068e_8 : decode cJ0_charAt_5068e 8 = .ok (.getfield 9, 3) := by decide +kernel
theorem dJ0_charAt_5068e_11 : decode cJ0_charAt_5068e 11 = .ok (.iload_n 1, 1) := by decide +kernel
theorem dJ0_charAt_5068e_12 : decode cJ0_charAt_5068e 12 = .ok (.invokestatic 495, 3) := by decide +kernel
theorem dJ0_charAt_5068e_15 : decode cJ0_charAt_5068e 15 = .ok (.ireturn, 1) := by decide +kernel
theorem dJ0_charAt_5068e_16 : decode cJ0_charAt_5068e 16 = .ok (.aload_n 0, 1) := by decide +kernel
theorem dJ0_charAt_5068e_17 : decode cJ0_charAt_5068e 17 = .ok (.getfield 9, 3) := by decide +kernel
theorem dJ0_charAt_5068e_20 : decode cJ0_charAt_5068e 20 = .ok (.iload_n 1, 1) := by decide +kernel
theorem dJ0_charAt_5068e_21 : decode cJ0_charAt_5068e 21 = .ok (.invokestatic 498, 3) := by decide +kernel
theorem dJ0_charAt_5068e_24 : decode cJ0_charAt_5068e 24 = .ok (.ireturn, 1) := by decide +kernel
theorem dJ0_getBytes_840e7_0 : decode cJ0_getBytes_840e7 0 = .ok (.aload_n 0, 1) := by decide +kernel
theorem dJ0_getBytes_840e7_1 : decode cJ0_getBytes_840e7 1 = .ok (.invokevirtual 335, 3) := by decide +kernel
theorem dJ0_getBytes_840e7_4 : decode cJ0_getBytes_840e7 4 = .ok (.iload_n 3, 1) := by decide +kernel
theorem dJ0_getBytes_840e7_5 : decode cJ0_getBytes_840e7 5 = .ok (.if_icmp .ne 23, 3) := by decide +kernel
theorem dJ0_getBytes_840e7_8 : decode cJ0_getBytes_840e7 8 = .ok (.aload_n 0, 1) := by decide +kernel
theorem dJ0_getBytes_840e7_9 : decode cJ0_getBytes_840e7 9 = .ok (.getfield 9, 3) := by decide +kernel
theorem dJ0_getBytes_840e7_12 : decode cJ0_getBytes_840e7 12 = .ok (.iconst 0, 1) := by decide +kernel
theorem dJ0_getBytes_840e7_13 : decode cJ0_getBytes_840e7 13 = .ok (.aload_n 1, 1) := by decide +kernel
theorem dJ0_getBytes_840e7_14 : decode cJ0_getBytes_840e7 14 = .ok (.iload_n 2, 1) := by decide +kernel
theorem dJ0_getBytes_840e7_15 : decode cJ0_getBytes_840e7 15 = .ok (.iload_n 3, 1) := by decide +kernel
theorem dJ0_getBytes_840e7_16 : decode cJ0_getBytes_840e7 16 = .ok (.ishl, 1) := by decide +kernel
theorem dJ0_getBytes_840e7_17 : decode cJ0_getBytes_840e7 17 = .ok (.aload_n 0, 1) := by decide +kernel
theorem dJ0_getBytes_840e7_18 : decode cJ0_getBytes_840e7 18 = .ok (.getfield 9, 3) := by decide +kernel
theorem dJ0_getBytes_840e7_21 : decode cJ0_getBytes_840e7 21 = .ok (.arraylength, 1) := by decide +kernel
theorem dJ0_getBytes_840e7_22 : decode cJ0_getBytes_840e7 22 = .ok (.invokestatic 212, 3) := by decide +kernel
theorem dJ0_getBytes_840e7_25 : decode cJ0_getBytes_840e7 25 = .ok (.goto 18, 3) := by decide +kernel
theorem dJ0_getBytes_840e7_28 : decode cJ0_getBytes_840e7 28 = .ok (.aload_n 0, 1) := by decide +kernel
theorem dJ0_getBytes_840e7_29 : decode cJ0_getBytes_840e7 29 = .ok (.getfield 9, 3) := by decide +kernel
theorem dJ0_getBytes_840e7_32 : decode cJ0_getBytes_840e7 32 = .ok (.iconst 0, 1) := by decide +kernel
theorem dJ0_getBytes_840e7_33 : decode cJ0_getBytes_840e7 33 = .ok (.aload_n 1, 1) := by decide +kernel
theorem dJ0_getBytes_840e7_34 : decode cJ0_getBytes_840e7 34 = .ok (.iload_n 2, 1) := by decide +kernel
theorem dJ0_getBytes_840e7_35 : decode cJ0_getBytes_840e7 35 = .ok (.aload_n 0, 1) := by decide +kernel
theorem dJ0_getBytes_840e7_36 : decode cJ0_getBytes_840e7 36 = .ok (.getfield 9, 3) := by decide +kernel
theorem dJ0_getBytes_840e7_39 : decode cJ0_getBytes_840e7 39 = .ok (.arraylength, 1) := by decide +kernel
theorem dJ0_getBytes_840e7_40 : decode cJ0_getBytes_840e7 40 = .ok (.invokestatic 106, 3) := by decide +kernel
theorem dJ0_getBytes_840e7_43 : decode cJ0_getBytes_840e7 43 = .ok (.return_, 1) := by decide +kernel
theorem dJ0_init_db425_0 : decode cJ0_init_db425 0 = .ok (.aload_n 0, 1) := by decide +kernel
theorem dJ0_init_db425_1 : decode cJ0_init_db425 1 = .ok (.invokespecial 1, 3) := by decide +kernel
theorem dJ0_init_db425_4 : decode cJ0_init_db425 4 = .ok (.aload_n 1, 1) := by decide +kernel
theorem dJ0_init_db425_5 : decode cJ0_init_db425 5 = .ok (.invokevirtual 552, 3) := by decide +kernel
theorem dJ0_init_db425_8 : decode cJ0_init_db425 8 = .ok (.astore_n 3, 1) := by decide +kernel
theorem dJ0_init_db425_9 : decode cJ0_init_db425 9 = .ok (.aload_n 1, 1) := by decide +kernel
theorem dJ0_init_db425_10 : decode cJ0_init_db425 10 = .ok (.invokevirtual 549, 3) := by decide +kernel
theorem dJ0_init_db425_13 : decode cJ0_init_db425 13 = .ok (.istore 4, 2) := by decide +kernel
theorem dJ0_init_db425_15 : decode cJ0_init_db425 15 = .ok (.aload_n 1, 1) := by decide +kernel
theorem dJ0_init_db425_16 : decode cJ0_init_db425 16 = .ok (.invokevirtual 1047, 3) := by decide +kernel
theorem dJ0_init_db425_19 : decode cJ0_init_db425 19 = .ok (.ifCond .eq 22, 3) := by decide +kernel
theorem dJ0_init_db425_22 : decode cJ0_init_db425 22 = .ok (.aload_n 0, 1) := by decide +kernel
theorem dJ0_init_db425_23 : decode cJ0_init_db425 23 = .ok (.iconst 0, 1) := by decide +kernel
theorem dJ0_init_db425_24 : decode cJ0_init_db425 24 = .ok (.putfield 15, 3) := by decide +kernel
theorem dJ0_init_db425_27 : decode cJ0_init_db425 27 = .ok (.aload_n 0, 1) := by decide +kernel
theorem dJ0_init_db425_28 : decode cJ0_init_db425 28 = .ok (.aload_n 3, 1) := by decide +kernel
theorem dJ0_init_db425_29 : decode cJ0_init_db425 29 = .ok (.iconst 0, 1) := by decide +kernel
theorem dJ0_init_db425_30 : decode cJ0_init_db425 30 = .ok (.iload 4, 2) := by decide +kernel
theorem dJ0_init_db425_32 : decode cJ0_init_db425 32 = .ok (.invokestatic 54, 3) := by decide +kernel
theorem dJ0_init_db425_35 : decode cJ0_init_db425 35 = .ok (.putfield 9, 3) := by decide +kernel
theorem dJ0_init_db425_38 : decode cJ0_init_db425 38 = .ok (.goto 59, 3) := by decide +kernel
theorem dJ0_init_db425_41 : decode cJ0_init_db425 41 = .ok (.getstatic 38, 3) := by decide +kernel
theorem dJ0_init_db425_44 : decode cJ0_init_db425 44 = .ok (.ifCond .eq 35, 3) := by decide +kernel
theorem dJ0_init_db425_47 : decode cJ0_init_db425 47 = .ok (.aload_n 1, 1) := by decide +kernel
theorem dJ0_init_db425_48 : decode cJ0_init_db425 48 = .ok (.getfield 1048, 3) := by decide +kernel
theorem dJ0_init_db425_51 : decode cJ0_init_db425 51 = .ok (.ifCond .eq 28, 3) := by decide +kernel
theorem dJ0_init_db425_54 : decode cJ0_init_db425 54 = .ok (.aload_n 0, 1) := by decide +kernel
theorem dJ0_init_db425_55 : decode cJ0_init_db425 55 = .ok (.aload_n 3, 1) := by decide +kernel
theorem dJ0_init_db425_56 : decode cJ0_init_db425 56 = .ok (.iconst 0, 1) := by decide +kernel
theorem dJ0_init_db425_57 : decode cJ0_init_db425 57 = .ok (.iload 4, 2) := by decide +kernel
theorem dJ0_init_db425_59 : decode cJ0_init_db425 59 = .ok (.invokestatic 1051, 3) := by decide +kernel
theorem dJ0_init_db425_62 : decode cJ0_init_db425 62 = .ok (.putfield 9, 3) := by decide +kernel
theorem dJ0_init_db425_65 : decode cJ0_init_db425 65 = .ok (.aload_n 0, 1) := by decide +kernel
theorem dJ0_init_db425_66 : decode cJ0_init_db425 66 = .ok (.aload_n 0, 1) := by decide +kernel
theorem dJ0_init_db425_67 : decode cJ0_init_db425 67 = .ok (.getfield 9, 3) := by decide +kernel
theorem dJ0_init_db425_70 : decode cJ0_init_db425 70 = .ok (.iload 4, 2) := by decide +kernel
theorem dJ0_init_db425_72 : decode cJ0_init_db425 72 = .ok (.invokestatic 47, 3) := by decide +kernel
theorem dJ0_init_db425_75 : decode cJ0_init_db425 75 = .ok (.putfield 15, 3) := by decide +kernel
theorem dJ0_init_db425_78 : decode cJ0_init_db425 78 = .ok (.return_, 1) := by decide +kernel
theorem dJ0_init_db425_79 : decode cJ0_init_db425 79 = .ok (.aload_n 0, 1) := by decide +kernel
theorem dJ0_init_db425_80 : decode cJ0_init_db425 80 = .ok (.iconst 1, 1) := by decide +kernel
theorem dJ0_init_db425_81 : decode cJ0_init_db425 81 = .ok (.putfield 15, 3) := by decide +kernel
theorem dJ0_init_db425_84 : decode cJ0_init_db425 84 = .ok (.aload_n 0, 1) := by decide +kernel
theorem dJ0_init_db425_85 : decode cJ0_init_db425 85 = .ok (.aload_n 3, 1) := by decide +kernel
theorem dJ0_init_db425_86 : decode cJ0_init_db425 86 = .ok (.iconst 0, 1) := by decide +kernel
theorem dJ0_init_db425_87 : decode cJ0_init_db425 87 = .ok (.iload 4, 2) := by decide +kernel
theorem dJ0_init_db425_89 : decode cJ0_init_db425 89 = .ok (.iconst 1, 1) := by decide +kernel
theorem dJ0_init_db425_90 : decode cJ0_init_db425 90 = .ok (.ishl, 1) := by decide +kernel
theorem dJ0_init_db425_91 : decode cJ0_init_db425 91 = .ok (.invokestatic 54, 3) := by decide +kernel
theorem dJ0_init_db425_94 : decode cJ0_init_db425 94 = .ok (.putfield 9, 3) := by decide +kernel
theorem dJ0_init_db425_97 : decode cJ0_init_db425 97 = .ok (.return_, 1) := by decide +kernel
theorem dJ0_coder_7d493_0 : decode cJ0_coder_7d493 0 = .ok (.getstatic 38, 3) := by decide +kernel
theorem dJ0_coder_7d493_3 : decode cJ0_coder_7d493 3 = .ok (.ifCond .eq 10, 3) := by decide +kernel
theorem dJ0_coder_7d493_6 : decode cJ0_coder_7d493 6 = .ok (.aload_n 0, 1) := by decide +kernel
theorem dJ0_coder_7d493_7 : decode cJ0_coder_7d493 7 = .ok (.getfield 15, 3) := by decide +kernel
theorem dJ0_coder_7d493_10 : decode cJ0_coder_7d493 10 = .ok (.goto 4, 3) := by decide +kernel
theorem dJ0_coder_7d493_13 : decode cJ0_coder_7d493 13 = .ok (.iconst 1, 1) := by decide +kernel
theorem dJ0_coder_7d493_14 : decode cJ0_coder_7d493 14 = .ok (.ireturn, 1) := by decide +kernel
theorem dJ0_isLatin1_aae02_0 : decode cJ0_isLatin1_aae02 0 = .ok (.getstatic 38, 3) := by decide +kernel
theorem dJ0_isLatin1_aae02_3 : decode cJ0_isLatin1_aae02 3 = .ok (.ifCond .eq 14, 3) := by decide +kernel
theorem dJ0_isLatin1_aae02_6 : decode cJ0_isLatin1_aae02 6 = .ok (.aload_n 0, 1) := by decide +kernel
theorem dJ0_isLatin1_aae02_7 : decode cJ0_isLatin1_aae02 7 = .ok (.getfield 15, 3) := by decide +kernel
theorem dJ0_isLatin1_aae02_10 : decode cJ0_isLatin1_aae02 10 = .ok (.ifCond .ne 7, 3) := by decide +kernel
theorem dJ0_isLatin1_aae02_13 : decode cJ0_isLatin1_aae02 13 = .ok (.iconst 1, 1) := by decide +kernel
theorem dJ0_isLatin1_aae02_14 : decode cJ0_isLatin1_aae02 14 = .ok (.goto 4, 3) := by decide +kernel
theorem dJ0_isLatin1_aae02_17 : decode cJ0_isLatin1_aae02 17 = .ok (.iconst 0, 1) := by decide +kernel
theorem dJ0_isLatin1_aae02_18 : decode cJ0_isLatin1_aae02 18 = .ok (.ireturn, 1) := by decide +kernel
theorem dJ0_checkIndex_df160_0 : decode cJ0_checkIndex_df160 0 = .ok (.iload_n 0, 1) := by decide +kernel
theorem dJ0_checkIndex_df160_1 : decode cJ0_checkIndex_df160 1 = .ok (.iload_n 1, 1) := by decide +kernel
theorem dJ0_checkIndex_df160_2 : decode cJ0_checkIndex_df160 2 = .ok (.getstatic 1053, 3) := by decide +kernel
theorem dJ0_checkIndex_df160_5 : decode cJ0_checkIndex_df160 5 = .ok (.invokestatic 1059, 3) := by decide +kernel
theorem dJ0_checkIndex_df160_8 : decode cJ0_checkIndex_df160 8 = .ok (.pop, 1) := by decide +kernel
theorem dJ0_checkIndex_df160_9 : decode cJ0_checkIndex_df160 9 = .ok (.return_, 1) := by decide +kernel
theorem dJ0_checkBoundsOffCount_cabcc_0 : decode cJ0_checkBoundsOffCount_cabcc 0 = .ok (.iload_n 0, 1) := by decide +kernel
theorem dJ0_checkBoundsOffCount_cabcc_1 : decode cJ0_checkBoundsOffCount_cabcc 1 = .ok (.iload_n 1, 1) := by decide +kernel
theorem dJ0_checkBoundsOffCount_cabcc_2 : decode cJ0_checkBoundsOffCount_cabcc 2 = .ok (.iload_n 2, 1) := by decide +kernel
theorem dJ0_checkBoundsOffCount_cabcc_3 : decode cJ0_checkBoundsOffCount_cabcc 3 = .ok (.getstatic 1053, 3) := by decide +kernel
theorem dJ0_checkBoundsOffCount_cabcc_6 : decode cJ0_checkBoundsOffCount_cabcc 6 = .ok (.invokestatic 1065, 3) := by decide +kernel
theorem dJ0_checkBoundsOffCount_cabcc_9 : decode cJ0_checkBoundsOffCount_cabcc 9 = .ok (.ireturn, 1) := by decide +kernel
theorem dJ0_checkBoundsBeginEnd_23922_0 : decode cJ0_checkBoundsBeginEnd_23922 0 = .ok (.iload_n 0, 1) := by decide +kernel
theorem dJ0_checkBoundsBeginEnd_23922_1 : decode cJ0_checkBoundsBeginEnd_23922 1 = .ok (.iload_n 1, 1) := by decide +kernel
theorem dJ0_checkBoundsBeginEnd_23922_2 : decode cJ0_checkBoundsBeginEnd_23922 2 = .ok (.iload_n 2, 1) := by decide +kernel
theorem dJ0_checkBoundsBeginEnd_23922_3 : decode cJ0_checkBoundsBeginEnd_23922 3 = .ok (.getstatic 1053, 3) := by decide +kernel
theorem dJ0_checkBoundsBeginEnd_23922_6 : decode cJ0_checkBoundsBeginEnd_23922 6 = .ok (.invokestatic 1062, 3) := by decide +kernel
theorem dJ0_checkBoundsBeginEnd_23922_9 : decode cJ0_checkBoundsBeginEnd_23922 9 = .ok (.pop, 1) := by decide +kernel
theorem dJ0_checkBoundsBeginEnd_23922_10 : decode cJ0_checkBoundsBeginEnd_23922 10 = .ok (.return_, 1) := by decide +kernel
theorem dJ4_init_da8c8_0 : decode cJ4_init_da8c8 0 = .ok (.aload_n 0, 1) := by decide +kernel
theorem dJ4_init_da8c8_1 : decode cJ4_init_da8c8 1 = .ok (.bipush 16, 2) := by decide +kernel
theorem dJ4_init_da8c8_3 : decode cJ4_init_da8c8 3 = .ok (.invokespecial 1, 3) := by decide +kernel
theorem dJ4_init_da8c8_6 : decode cJ4_init_da8c8 6 = .ok (.return_, 1) := by decide +kernel
theorem dJ4_append_15ec4_0 : decode cJ4_append_15ec4 0 = .ok (.aload_n 0, 1) := by decide +kernel
theorem dJ4_append_15ec4_1 : decode cJ4_append_15ec4 1 = .ok (.aload_n 1, 1) := by decide +kernel
theorem dJ4_append_15ec4_2 : decode cJ4_append_15ec4 2 = .ok (.invokespecial 29, 3) := by decide +kernel
theorem dJ4_append_15ec4_5 : decode cJ4_append_15ec4 5 = .ok (.pop, 1) := by decide +kernel
theorem dJ4_append_15ec4_6 : decode cJ4_append_15ec4 6 = .ok (.aload_n 0, 1) := by decide +kernel
theorem dJ4_append_15ec4_7 : decode cJ4_append_15ec4 7 = .ok (.areturn, 1) := by decide +kernel
theorem dJ4_append_cf468_0 : decode cJ4_append_cf468 0 = .ok (.aload_n 0, 1) := by decide +kernel
theorem dJ4_append_cf468_1 : decode cJ4_append_cf468 1 = .ok (.iload_n 1, 1) := by decide +kernel
theorem dJ4_append_cf468_2 : decode cJ4_append_cf468 2 = .ok (.invokespecial 50, 3) := by decide +kernel
theorem dJ4_append_cf468_5 : decode cJ4_append_cf468 5 = .ok (.pop, 1) := by decide +kernel
theorem dJ4_append_cf468_6 : decode cJ4_append_cf468 6 = .ok (.aload_n 0, 1) := by decide +kernel
theorem dJ4_append_cf468_7 : decode cJ4_append_cf468 7 = .ok (.areturn, 1) := by decide +kernel
theorem dJ4_append_bf812_0 : decode cJ4_append_bf812 0 = .ok (.aload_n 0, 1) := by decide +kernel
theorem dJ4_append_bf812_1 : decode cJ4_append_bf812 1 = .ok (.iload_n 1, 1) := by decide +kernel
theorem dJ4_append_bf812_2 : decode cJ4_append_bf812 2 = .ok (.invokespecial 53, 3) := by decide +kernel
theorem dJ4_append_bf812_5 : decode cJ4_append_bf812 5 = .ok (.pop, 1) := by decide +kernel
theorem dJ4_append_bf812_6 : decode cJ4_append_bf812 6 = .ok (.aload_n 0, 1) := by decide +kernel
theorem dJ4_append_bf812_7 : decode cJ4_append_bf812 7 = .ok (.areturn, 1) := by decide +kernel
theorem dJ4_toString_0e30d_0 : decode cJ4_toString_0e30d 0 = .ok (.new 18, 3) := by decide +kernel
theorem dJ4_toString_0e30d_3 : decode cJ4_toString_0e30d 3 = .ok (.dup, 1) := by decide +kernel
theorem dJ4_toString_0e30d_4 : decode cJ4_toString_0e30d 4 = .ok (.aload_n 0, 1) := by decide +kernel
theorem dJ4_toString_0e30d_5 : decode cJ4_toString_0e30d 5 = .ok (.invokespecial 137, 3) := by decide +kernel
theorem dJ4_toString_0e30d_8 : decode cJ4_toString_0e30d 8 = .ok (.areturn, 1) := by decide +kernel
theorem dJ4_charAt_5068e_0 : decode cJ4_charAt_5068e 0 = .ok (.aload_n 0, 1) := by decide +kernel
theorem dJ4_charAt_5068e_1 : decode cJ4_charAt_5068e 1 = .ok (.iload_n 1, 1) := by decide +kernel
theorem dJ4_charAt_5068e_2 : decode cJ4_charAt_5068e 2 = .ok (.invokespecial 329, 3) := by decide +kernel
theorem dJ4_charAt_5068e_5 : decode cJ4_charAt_5068e 5 = .ok (.ireturn, 1) := by decide +kernel
theorem dJ4_setLength_d00df_0 : decode cJ4_setLength_d00df 0 = .ok (.aload_n 0, 1) := by decide +kernel
theorem dJ4_setLength_d00df_1 : decode cJ4_setLength_d00df 1 = .ok (.iload_n 1, 1) := by decide +kernel
theorem dJ4_setLength_d00df_2 : decode cJ4_setLength_d00df 2 = .ok (.invokespecial 333, 3) := by decide +kernel
theorem dJ4_setLength_d00df_5 : decode cJ4_setLength_d00df 5 = .ok (.return_, 1) := by decide +kernel
theorem dJ4_length_8abf5_0 : decode cJ4_length_8abf5 0 = .ok (.aload_n 0, 1) := by decide +kernel
theorem dJ4_length_8abf5_1 : decode cJ4_length_8abf5 1 = .ok (.invokespecial 343, 3) := by decide +kernel
theorem dJ4_length_8abf5_4 : decode cJ4_length_8abf5 4 = .ok (.ireturn, 1) := by decide +kernel
theorem dJ1_charAt_3b067_0 : decode cJ1_charAt_3b067 0 = .ok (.iload_n 1, 1) := by decide +kernel
theorem dJ1_charAt_3b067_1 : decode cJ1_charAt_3b067 1 = .ok (.aload_n 0, 1) := by decide +kernel
theorem dJ1_charAt_3b067_2 : decode cJ1_charAt_3b067 2 = .ok (.arraylength, 1) := by decide +kernel
theorem dJ1_charAt_3b067_3 : decode cJ1_charAt_3b067 3 = .ok (.invokestatic 9, 3) := by decide +kernel
theorem dJ1_charAt_3b067_6 : decode cJ1_charAt_3b067 6 = .ok (.aload_n 0, 1) := by decide +kernel
theorem dJ1_charAt_3b067_7 : decode cJ1_charAt_3b067 7 = .ok (.iload_n 1, 1) := by decide +kernel
theorem dJ1_charAt_3b067_8 : decode cJ1_charAt_3b067 8 = .ok (.baload, 1) := by decide +kernel
theorem dJ1_charAt_3b067_9 : decode cJ1_charAt_3b067 9 = .ok (.sipush 255, 3) := by decide +kernel
theorem dJ1_charAt_3b067_12 : decode cJ1_charAt_3b067 12 = .ok (.iand, 1) := by decide +kernel
theorem dJ1_charAt_3b067_13 : decode cJ1_charAt_3b067 13 = .ok (.i2c, 1) := by decide +kernel
theorem dJ1_charAt_3b067_14 : decode cJ1_charAt_3b067 14 = .ok (.ireturn, 1) := by decide +kernel
theorem dJ1_canEncode_fc78d_0 : decode cJ1_canEncode_fc78d 0 = .ok (.iload_n 0, 1) := by decide +kernel
theorem dJ1_canEncode_fc78d_1 : decode cJ1_canEncode_fc78d 1 = .ok (.sipush 255, 3) := by decide +kernel
theorem dJ1_canEncode_fc78d_4 : decode cJ1_canEncode_fc78d 4 = .ok (.if_icmp .gt 7, 3) := by decide +kernel
theorem dJ1_canEncode_fc78d_7 : decode cJ1_canEncode_fc78d 7 = .ok (.iconst 1, 1) := by decide +kernel
theorem dJ1_canEncode_fc78d_8 : decode cJ1_canEncode_fc78d 8 = .ok (.goto 4, 3) := by decide +kernel
theorem dJ1_canEncode_fc78d_11 : decode cJ1_canEncode_fc78d 11 = .ok (.iconst 0, 1) := by decide +kernel
theorem dJ1_canEncode_fc78d_12 : decode cJ1_canEncode_fc78d 12 = .ok (.ireturn, 1) := by decide +kernel
theorem dJ1_fillNull_b72d1_0 : decode cJ1_fillNull_b72d1 0 = .ok (.aload_n 0, 1) := by decide +kernel
theorem dJ1_fillNull_b72d1_1 : decode cJ1_fillNull_b72d1 1 = .ok (.iload_n 1, 1) := by decide +kernel
theorem dJ1_fillNull_b72d1_2 : decode cJ1_fillNull_b72d1 2 = .ok (.iload_n 2, 1) := by decide +kernel
theorem dJ1_fillNull_b72d1_3 : decode cJ1_fillNull_b72d1 3 = .ok (.iconst 0, 1) := by decide +kernel
theorem dJ1_fillNull_b72d1_4 : decode cJ1_fillNull_b72d1 4 = .ok (.invokestatic 236, 3) := by decide +kernel
theorem dJ1_fillNull_b72d1_7 : decode cJ1_fillNull_b72d1 7 = .ok (.return_, 1) := by decide +kernel
theorem dJ1_inflate_0e8fd_0 : decode cJ1_inflate_0e8fd 0 = .ok (.aload_n 0, 1) := by decide +kernel
theorem dJ1_inflate_0e8fd_1 : decode cJ1_inflate_0e8fd 1 = .ok (.iload_n 1, 1) := by decide +kernel
theorem dJ1_inflate_0e8fd_2 : decode cJ1_inflate_0e8fd 2 = .ok (.aload_n 2, 1) := by decide +kernel
theorem dJ1_inflate_0e8fd_3 : decode cJ1_inflate_0e8fd 3 = .ok (.iload_n 3, 1) := by decide +kernel
theorem dJ1_inflate_0e8fd_4 : decode cJ1_inflate_0e8fd 4 = .ok (.iload 4, 2) := by decide +kernel
theorem dJ1_inflate_0e8fd_6 : decode cJ1_inflate_0e8fd 6 = .ok (.invokestatic 240, 3) := by decide +kernel
theorem dJ1_inflate_0e8fd_9 : decode cJ1_inflate_0e8fd 9 = .ok (.return_, 1) := by decide +kernel
theorem dJ2_newBytesFor_77867_0 : decode cJ2_newBytesFor_77867 0 = .ok (.iload_n 0, 1) := by decide +kernel
theorem dJ2_newBytesFor_77867_1 : decode cJ2_newBytesFor_77867 1 = .ok (.invokestatic 11, 3) := by decide +kernel
theorem dJ2_newBytesFor_77867_4 : decode cJ2_newBytesFor_77867 4 = .ok (.newarray .byte, 2) := by decide +kernel
theorem dJ2_newBytesFor_77867_6 : decode cJ2_newBytesFor_77867 6 = .ok (.areturn, 1) := by decide +kernel
theorem dJ2_newBytesLength_0f7a4_0 : decode cJ2_newBytesLength_0f7a4 0 = .ok (.iload_n 0, 1) := by decide +kernel
theorem dJ2_newBytesLength_0f7a4_1 : decode cJ2_newBytesLength_0f7a4 1 = .ok (.ifCond .ge 11, 3) := by decide +kernel
theorem dJ2_newBytesLength_0f7a4_4 : decode cJ2_newBytesLength_0f7a4 4 = .ok (.new 17, 3) := by decide +kernel
theorem dJ2_newBytesLength_0f7a4_7 : decode cJ2_newBytesLength_0f7a4 7 = .ok (.dup, 1) := by decide +kernel
theorem dJ2_newBytesLength_0f7a4_8 : decode cJ2_newBytesLength_0f7a4 8 = .ok (.invokespecial 19, 3) := by decide +kernel
theorem dJ2_newBytesLength_0f7a4_11 : decode cJ2_newBytesLength_0f7a4 11 = .ok (.athrow, 1) := by decide +kernel
theorem dJ2_newBytesLength_0f7a4_12 : decode cJ2_newBytesLength_0f7a4 12 = .ok (.iload_n 0, 1) := by decide +kernel
theorem dJ2_newBytesLength_0f7a4_13 : decode cJ2_newBytesLength_0f7a4 13 = .ok (.ldc 20, 2) := by decide +kernel
theorem dJ2_newBytesLength_0f7a4_15 : decode cJ2_newBytesLength_0f7a4 15 = .ok (.if_icmp .lt 40, 3) := by decide +kernel
theorem dJ2_newBytesLength_0f7a4_18 : decode cJ2_newBytesLength_0f7a4 18 = .ok (.new 21, 3) := by decide +kernel
theorem dJ2_newBytesLength_0f7a4_21 : decode cJ2_newBytesLength_0f7a4 21 = .ok (.dup, 1) := by decide +kernel
theorem dJ2_newBytesLength_0f7a4_22 : decode cJ2_newBytesLength_0f7a4 22 = .ok (.new 23, 3) := by decide +kernel
theorem dJ2_newBytesLength_0f7a4_25 : decode cJ2_newBytesLength_0f7a4 25 = .ok (.dup, 1) := by decide +kernel
theorem dJ2_newBytesLength_0f7a4_26 : decode cJ2_newBytesLength_0f7a4 26 = .ok (.invokespecial 25, 3) := by decide +kernel
theorem dJ2_newBytesLength_0f7a4_29 : decode cJ2_newBytesLength_0f7a4 29 = .ok (.ldc 26, 2) := by decide +kernel
theorem dJ2_newBytesLength_0f7a4_31 : decode cJ2_newBytesLength_0f7a4 31 = .ok (.invokevirtual 28, 3) := by decide +kernel
theorem dJ2_newBytesLength_0f7a4_34 : decode cJ2_newBytesLength_0f7a4 34 = .ok (.iload_n 0, 1) := by decide +kernel
theorem dJ2_newBytesLength_0f7a4_35 : decode cJ2_newBytesLength_0f7a4 35 = .ok (.invokevirtual 32, 3) := by decide +kernel
theorem dJ2_newBytesLength_0f7a4_38 : decode cJ2_newBytesLength_0f7a4 38 = .ok (.ldc 35, 2) := by decide +kernel
theorem dJ2_newBytesLength_0f7a4_40 : decode cJ2_newBytesLength_0f7a4 40 = .ok (.invokevirtual 28, 3) := by decide +kernel
theorem dJ2_newBytesLength_0f7a4_43 : decode cJ2_newBytesLength_0f7a4 43 = .ok (.ldc 20, 2) := by decide +kernel
theorem dJ2_newBytesLength_0f7a4_45 : decode cJ2_newBytesLength_0f7a4 45 = .ok (.invokevirtual 32, 3) := by decide +kernel
theorem dJ2_newBytesLength_0f7a4_48 : decode cJ2_newBytesLength_0f7a4 48 = .ok (.invokevirtual 37, 3) := by decide +kernel
theorem dJ2_newBytesLength_0f7a4_51 : decode cJ2_newBytesLength_0f7a4 51 = .ok (.invokespecial 41, 3) := by decide +kernel
theorem dJ2_newBytesLength_0f7a4_54 : decode cJ2_newBytesLength_0f7a4 54 = .ok (.athrow, 1) := by decide +kernel
theorem dJ2_newBytesLength_0f7a4_55 : decode cJ2_newBytesLength_0f7a4 55 = .ok (.iload_n 0, 1) := by decide +kernel
theorem dJ2_newBytesLength_0f7a4_56 : decode cJ2_newBytesLength_0f7a4 56 = .ok (.iconst 1, 1) := by decide +kernel
theorem dJ2_newBytesLength_0f7a4_57 : decode cJ2_newBytesLength_0f7a4 57 = .ok (.ishl, 1) := by decide +kernel
theorem dJ2_newBytesLength_0f7a4_58 : decode cJ2_newBytesLength_0f7a4 58 = .ok (.ireturn, 1) := by decide +kernel
theorem dJ2_putChar_b72d1_0 : decode cJ2_putChar_b72d1 0 = .ok (.getstatic 44, 3) := by decide +kernel
theorem dJ2_putChar_b72d1_3 : decode cJ2_putChar_b72d1 3 = .ok (.ifCond .ne 25, 3) := by decide +kernel
theorem dJ2_putChar_b72d1_6 : decode cJ2_putChar_b72d1 6 = .ok (.iload_n 1, 1) := by decide +kernel
theorem dJ2_putChar_b72d1_7 : decode cJ2_putChar_b72d1 7 = .ok (.ifCond .lt 11, 3) := by decide +kernel
theorem dJ2_putChar_b72d1_10 : decode cJ2_putChar_b72d1 10 = .ok (.iload_n 1, 1) := by decide +kernel
theorem dJ2_putChar_b72d1_11 : decode cJ2_putChar_b72d1 11 = .ok (.aload_n 0, 1) := by decide +kernel
theorem dJ2_putChar_b72d1_12 : decode cJ2_putChar_b72d1 12 = .ok (.invokestatic 48, 3) := by decide +kernel
theorem dJ2_putChar_b72d1_15 : decode cJ2_putChar_b72d1 15 = .ok (.if_icmp .lt 13, 3) := by decide +kernel
theorem dJ2_putChar_b72d1_18 : decode cJ2_putChar_b72d1 18 = .ok (.new 52, 3) := by decide +kernel
theorem dJ2_putChar_b72d1_21 : decode cJ2_putChar_b72d1 21 = .ok (.dup, 1) := by decide +kernel
theorem dJ2_putChar_b72d1_22 : decode cJ2_putChar_b72d1 22 = .ok (.ldc 54, 2) := by decide +kernel
theorem dJ2_putChar_b72d1_24 : decode cJ2_putChar_b72d1 24 = .ok (.invokespecial 56, 3) := by decide +kernel
theorem dJ2_putChar_b72d1_27 : decode cJ2_putChar_b72d1 27 = .ok (.athrow, 1) := by decide +kernel
theorem dJ2_putChar_b72d1_28 : decode cJ2_putChar_b72d1 28 = .ok (.iload_n 1, 1) := by decide +kernel
theorem dJ2_putChar_b72d1_29 : decode cJ2_putChar_b72d1 29 = .ok (.iconst 1, 1) := by decide +kernel
theorem dJ2_putChar_b72d1_30 : decode cJ2_putChar_b72d1 30 = .ok (.ishl, 1) := by decide +kernel
theorem dJ2_putChar_b72d1_31 : decode cJ2_putChar_b72d1 31 = .ok (.istore_n 1, 1) := by decide +kernel
theorem dJ2_putChar_b72d1_32 : decode cJ2_putChar_b72d1 32 = .ok (.aload_n 0, 1) := by decide +kernel
theorem dJ2_putChar_b72d1_33 : decode cJ2_putChar_b72d1 33 = .ok (.iload_n 1, 1) := by decide +kernel
theorem dJ2_putChar_b72d1_34 : decode cJ2_putChar_b72d1 34 = .ok (.iinc 1 1, 3) := by decide +kernel
theorem dJ2_putChar_b72d1_37 : decode cJ2_putChar_b72d1 37 = .ok (.iload_n 2, 1) := by decide +kernel
theorem dJ2_putChar_b72d1_38 : decode cJ2_putChar_b72d1 38 = .ok (.getstatic 59, 3) := by decide +kernel
theorem dJ2_putChar_b72d1_41 : decode cJ2_putChar_b72d1 41 = .ok (.ishr, 1) := by decide +kernel
theorem dJ2_putChar_b72d1_42 : decode cJ2_putChar_b72d1 42 = .ok (.i2b, 1) := by decide +kernel
theorem dJ2_putChar_b72d1_43 : decode cJ2_putChar_b72d1 43 = .ok (.bastore, 1) := by decide +kernel
theorem dJ2_putChar_b72d1_44 : decode cJ2_putChar_b72d1 44 = .ok (.aload_n 0, 1) := by decide +kernel
theorem dJ2_putChar_b72d1_45 : decode cJ2_putChar_b72d1 45 = .ok (.iload_n 1, 1) := by decide +kernel
theorem dJ2_putChar_b72d1_46 : decode cJ2_putChar_b72d1 46 = .ok (.iload_n 2, 1) := by decide +kernel
theorem dJ2_putChar_b72d1_47 : decode cJ2_putChar_b72d1 47 = .ok (.getstatic 63, 3) := by decide +kernel
theorem dJ2_putChar_b72d1_50 : decode cJ2_putChar_b72d1 50 = .ok (.ishr, 1) := by decide +kernel
theorem dJ2_putChar_b72d1_51 : decode cJ2_putChar_b72d1 51 = .ok (.i2b, 1) := by decide +kernel
theorem dJ2_putChar_b72d1_52 : decode cJ2_putChar_b72d1 52 = .ok (.bastore, 1) := by decide +kernel
theorem dJ2_putChar_b72d1_53 : decode cJ2_putChar_b72d1 53 = .ok (.return_, 1) := by decide +kernel
theorem dJ2_getChar_3b067_0 : decode cJ2_getChar_3b067 0 = .ok (.getstatic 44, 3) := by decide +kernel
theorem dJ2_getChar_3b067_3 : decode cJ2_getChar_3b067 3 = .ok (.ifCond .ne 25, 3) := by decide +kernel
theorem dJ2_getChar_3b067_6 : decode cJ2_getChar_3b067 6 = .ok (.iload_n 1, 1) := by decide +kernel
theorem dJ2_getChar_3b067_7 : decode cJ2_getChar_3b067 7 = .ok (.ifCond .lt 11, 3) := by decide +kernel
theorem dJ2_getChar_3b067_10 : decode cJ2_getChar_3b067 10 = .ok (.iload_n 1, 1) := by decide +kernel
theorem dJ2_getChar_3b067_11 : decode cJ2_getChar_3b067 11 = .ok (.aload_n 0, 1) := by decide +kernel
theorem dJ2_getChar_3b067_12 : decode cJ2_getChar_3b067 12 = .ok (.invokestatic 48, 3) := by decide +kernel
theorem dJ2_getChar_3b067_15 : decode cJ2_getChar_3b067 15 = .ok (.if_icmp .lt 13, 3) := by decide +kernel
theorem dJ2_getChar_3b067_18 : decode cJ2_getChar_3b067 18 = .ok (.new 52, 3) := by decide +kernel
theorem dJ2_getChar_3b067_21 : decode cJ2_getChar_3b067 21 = .ok (.dup, 1) := by decide +kernel
theorem dJ2_getChar_3b067_22 : decode cJ2_getChar_3b067 22 = .ok (.ldc 54, 2) := by decide +kernel
theorem dJ2_getChar_3b067_24 : decode cJ2_getChar_3b067 24 = .ok (.invokespecial 56, 3) := by decide +kernel
theorem dJ2_getChar_3b067_27 : decode cJ2_getChar_3b067 27 = .ok (.athrow, 1) := by decide +kernel
theorem dJ2_getChar_3b067_28 : decode cJ2_getChar_3b067 28 = .ok (.iload_n 1, 1) := by decide +kernel
theorem dJ2_getChar_3b067_29 : decode cJ2_getChar_3b067 29 = .ok (.iconst 1, 1) := by decide +kernel
theorem dJ2_getChar_3b067_30 : decode cJ2_getChar_3b067 30 = .ok (.ishl, 1) := by decide +kernel
theorem dJ2_getChar_3b067_31 : decode cJ2_getChar_3b067 31 = .ok (.istore_n 1, 1) := by decide +kernel
theorem dJ2_getChar_3b067_32 : decode cJ2_getChar_3b067 32 = .ok (.aload_n 0, 1) := by decide +kernel
theorem dJ2_getChar_3b067_33 : decode cJ2_getChar_3b067 33 = .ok (.iload_n 1, 1) := by decide +kernel
theorem dJ2_getChar_3b067_34 : decode cJ2_getChar_3b067 34 = .ok (.iinc 1 1, 3) := by decide +kernel
theorem dJ2_getChar_3b067_37 : decode cJ2_getChar_3b067 37 = .ok (.baload, 1) := by decide +kernel
theorem dJ2_getChar_3b067_38 : decode cJ2_getChar_3b067 38 = .ok (.sipush 255, 3) := by decide +kernel
theorem dJ2_getChar_3b067_41 : decode cJ2_getChar_3b067 41 = .ok (.iand, 1) := by decide +kernel
theorem dJ2_getChar_3b067_42 : decode cJ2_getChar_3b067 42 = .ok (.getstatic 59, 3) := by decide +kernel
theorem dJ2_getChar_3b067_45 : decode cJ2_getChar_3b067 45 = .ok (.ishl, 1) := by decide +kernel
theorem dJ2_getChar_3b067_46 : decode cJ2_getChar_3b067 46 = .ok (.aload_n 0, 1) := by decide +kernel
theorem dJ2_getChar_3b067_47 : decode cJ2_getChar_3b067 47 = .ok (.iload_n 1, 1) := by decide +kernel
theorem dJ2_getChar_3b067_48 : decode cJ2_getChar_3b067 48 = .ok (.baload, 1) := by decide +kernel
theorem dJ2_getChar_3b067_49 : decode cJ2_getChar_3b067 49 = .ok (.sipush 255, 3) := by decide +kernel
theorem dJ2_getChar_3b067_52 : decode cJ2_getChar_3b067 52 = .ok (.iand, 1) := by decide +kernel
theorem dJ2_getChar_3b067_53 : decode cJ2_getChar_3b067 53 = .ok (.getstatic 63, 3) := by decide +kernel
theorem dJ2_getChar_3b067_56 : decode cJ2_getChar_3b067 56 = .ok (.ishl, 1) := by decide +kernel
theorem dJ2_getChar_3b067_57 : decode cJ2_getChar_3b067 57 = .ok (.ior, 1) := by decide +kernel
theorem dJ2_getChar_3b067_58 : decode cJ2_getChar_3b067 58 = .ok (.i2c, 1) := by decide +kernel
theorem dJ2_getChar_3b067_59 : decode cJ2_getChar_3b067 59 = .ok (.ireturn, 1) := by decide +kernel
theorem dJ2_length_9d52b_0 : decode cJ2_length_9d52b 0 = .ok (.aload_n 0, 1) := by decide +kernel
theorem dJ2_length_9d52b_1 : decode cJ2_length_9d52b 1 = .ok (.arraylength, 1) := by decide +kernel
theorem dJ2_length_9d52b_2 : decode cJ2_length_9d52b 2 = .ok (.iconst 1, 1) := by decide +kernel
theorem dJ2_length_9d52b_3 : decode cJ2_length_9d52b 3 = .ok (.ishr, 1) := by decide +kernel
theorem dJ2_length_9d52b_4 : decode cJ2_length_9d52b 4 = .ok (.ireturn, 1) := by decide +kernel
theorem dJ2_coderFromArrayLen_85cad_0 : decode cJ2_coderFromArrayLen_85cad 0 = .ok (.iload_n 1, 1) := by decide +kernel
theorem dJ2_coderFromArrayLen_85cad_1 : decode cJ2_coderFromArrayLen_85cad 1 = .ok (.aload_n 0, 1) := by decide +kernel
theorem dJ2_coderFromArrayLen_85cad_2 : decode cJ2_coderFromArrayLen_85cad 2 = .ok (.arraylength, 1) := by decide +kernel
theorem dJ2_coderFromArrayLen_85cad_3 : decode cJ2_coderFromArrayLen_85cad 3 = .ok (.isub, 1) := by decide +kernel
theorem dJ2_coderFromArrayLen_85cad_4 : decode cJ2_coderFromArrayLen_85cad 4 = .ok (.bipush 31, 2) := by decide +kernel
theorem dJ2_coderFromArrayLen_85cad_6 : decode cJ2_coderFromArrayLen_85cad 6 = .ok (.iushr, 1) := by decide +kernel
theorem dJ2_coderFromArrayLen_85cad_7 : decode cJ2_coderFromArrayLen_85cad 7 = .ok (.i2b, 1) := by decide +kernel
theorem dJ2_coderFromArrayLen_85cad_8 : decode cJ2_coderFromArrayLen_85cad 8 = .ok (.ireturn, 1) := by decide +kernel
theorem dJ2_compress_39247_0 : decode cJ2_compress_39247 0 = .ok (.iload_n 2, 1) := by decide +kernel
theorem dJ2_compress_39247_1 : decode cJ2_compress_39247 1 = .ok (.newarray .byte, 2) := by decide +kernel
theorem dJ2_compress_39247_3 : decode cJ2_compress_39247 3 = .ok (.astore_n 3, 1) := by decide +kernel
theorem dJ2_compress_39247_4 : decode cJ2_compress_39247 4 = .ok (.aload_n 0, 1) := by decide +kernel
theorem dJ2_compress_39247_5 : decode cJ2_compress_39247 5 = .ok (.iload_n 1, 1) := by decide +kernel
theorem dJ2_compress_39247_6 : decode cJ2_compress_39247 6 = .ok (.aload_n 3, 1) := by decide +kernel
theorem dJ2_compress_39247_7 : decode cJ2_compress_39247 7 = .ok (.iconst 0, 1) := by decide +kernel
theorem dJ2_compress_39247_8 : decode cJ2_compress_39247 8 = .ok (.iload_n 2, 1) := by decide +kernel
theorem dJ2_compress_39247_9 : decode cJ2_compress_39247 9 = .ok (.invokestatic 123, 3) := by decide +kernel
theorem dJ2_compress_39247_12 : decode cJ2_compress_39247 12 = .ok (.istore 4, 2) := by decide +kernel
theorem dJ2_compress_39247_14 : decode cJ2_compress_39247 14 = .ok (.iload 4, 2) := by decide +kernel
theorem dJ2_compress_39247_16 : decode cJ2_compress_39247 16 = .ok (.iload_n 2, 1) := by decide +kernel
theorem dJ2_compress_39247_17 : decode cJ2_compress_39247 17 = .ok (.if_icmp .eq 47, 3) := by decide +kernel
theorem dJ2_compress_39247_20 : decode cJ2_compress_39247 20 = .ok (.aload_n 0, 1) := by decide +kernel
theorem dJ2_compress_39247_21 : decode cJ2_compress_39247 21 = .ok (.iload_n 1, 1) := by decide +kernel
theorem dJ2_compress_39247_22 : decode cJ2_compress_39247 22 = .ok (.iconst 1, 1) := by decide +kernel
theorem dJ2_compress_39247_23 : decode cJ2_compress_39247 23 = .ok (.ishl, 1) := by decide +kernel
theorem dJ2_compress_39247_24 : decode cJ2_compress_39247 24 = .ok (.iload_n 1, 1) := by decide +kernel
theorem dJ2_compress_39247_25 : decode cJ2_compress_39247 25 = .ok (.iload_n 2, 1) := by decide +kernel
theorem dJ2_compress_39247_26 : decode cJ2_compress_39247 26 = .ok (.iadd, 1) := by decide +kernel
theorem dJ2_compress_39247_27 : decode cJ2_compress_39247 27 = .ok (.invokestatic 11, 3) := by decide +kernel
theorem dJ2_compress_39247_30 : decode cJ2_compress_39247 30 = .ok (.invokestatic 126, 3) := by decide +kernel
theorem dJ2_compress_39247_33 : decode cJ2_compress_39247 33 = .ok (.astore 5, 2) := by decide +kernel
theorem dJ2_compress_39247_35 : decode cJ2_compress_39247 35 = .ok (.aload 5, 2) := by decide +kernel
theorem dJ2_compress_39247_37 : decode cJ2_compress_39247 37 = .ok (.iload 4, 2) := by decide +kernel
theorem dJ2_compress_39247_39 : decode cJ2_compress_39247 39 = .ok (.invokestatic 71, 3) := by decide +kernel
theorem dJ2_compress_39247_42 : decode cJ2_compress_39247 42 = .ok (.sipush 255, 3) := by decide +kernel
theorem dJ2_compress_39247_45 : decode cJ2_compress_39247 45 = .ok (.if_icmp .gt 16, 3) := by decide +kernel
theorem dJ2_compress_39247_48 : decode cJ2_compress_39247 48 = .ok (.aload 5, 2) := by decide +kernel
theorem dJ2_compress_39247_50 : decode cJ2_compress_39247 50 = .ok (.iconst 0, 1) := by decide +kernel
theorem dJ2_compress_39247_51 : decode cJ2_compress_39247 51 = .ok (.aload_n 3, 1) := by decide +kernel
theorem dJ2_compress_39247_52 : decode cJ2_compress_39247 52 = .ok (.iconst 0, 1) := by decide +kernel
theorem dJ2_compress_39247_53 : decode cJ2_compress_39247 53 = .ok (.iload_n 2, 1) := by decide +kernel
theorem dJ2_compress_39247_54 : decode cJ2_compress_39247 54 = .ok (.invokestatic 123, 3) := by decide +kernel
theorem dJ2_compress_39247_57 : decode cJ2_compress_39247 57 = .ok (.iload_n 2, 1) := by decide +kernel
theorem dJ2_compress_39247_58 : decode cJ2_compress_39247 58 = .ok (.if_icmp .eq 6, 3) := by decide +kernel
theorem dJ2_compress_39247_61 : decode cJ2_compress_39247 61 = .ok (.aload 5, 2) := by decide +kernel
theorem dJ2_compress_39247_63 : decode cJ2_compress_39247 63 = .ok (.areturn, 1) := by decide +kernel
theorem dJ2_compress_39247_64 : decode cJ2_compress_39247 64 = .ok (.aload_n 3, 1) := by decide +kernel
theorem dJ2_compress_39247_65 : decode cJ2_compress_39247 65 = .ok (.areturn, 1) := by decide +kernel
theorem dJ2_compress_5af95_0 : decode cJ2_compress_5af95 0 = .ok (.iload_n 1, 1) := by decide +kernel
theorem dJ2_compress_5af95_1 : decode cJ2_compress_5af95 1 = .ok (.iload 4, 2) := by decide +kernel
theorem dJ2_compress_5af95_3 : decode cJ2_compress_5af95 3 = .ok (.aload_n 0, 1) := by decide +kernel
theorem dJ2_compress_5af95_4 : decode cJ2_compress_5af95 4 = .ok (.invokestatic 173, 3) := by decide +kernel
theorem dJ2_compress_5af95_7 : decode cJ2_compress_5af95 7 = .ok (.iconst 0, 1) := by decide +kernel
theorem dJ2_compress_5af95_8 : decode cJ2_compress_5af95 8 = .ok (.istore 5, 2) := by decide +kernel
theorem dJ2_compress_5af95_10 : decode cJ2_compress_5af95 10 = .ok (.iload 5, 2) := by decide +kernel
theorem dJ2_compress_5af95_12 : decode cJ2_compress_5af95 12 = .ok (.iload 4, 2) := by decide +kernel
theorem dJ2_compress_5af95_14 : decode cJ2_compress_5af95 14 = .ok (.if_icmp .ge 39, 3) := by decide +kernel
theorem dJ2_compress_5af95_17 : decode cJ2_compress_5af95 17 = .ok (.aload_n 0, 1) := by decide +kernel
theorem dJ2_compress_5af95_18 : decode cJ2_compress_5af95 18 = .ok (.iload_n 1, 1) := by decide +kernel
theorem dJ2_compress_5af95_19 : decode cJ2_compress_5af95 19 = .ok (.invokestatic 71, 3) := by decide +kernel
theorem dJ2_compress_5af95_22 : decode cJ2_compress_5af95 22 = .ok (.istore 6, 2) := by decide +kernel
theorem dJ2_compress_5af95_24 : decode cJ2_compress_5af95 24 = .ok (.iload 6, 2) := by decide +kernel
theorem dJ2_compress_5af95_26 : decode cJ2_compress_5af95 26 = .ok (.sipush 255, 3) := by decide +kernel
theorem dJ2_compress_5af95_29 : decode cJ2_compress_5af95 29 = .ok (.if_icmp .le 6, 3) := by decide +kernel
theorem dJ2_compress_5af95_32 : decode cJ2_compress_5af95 32 = .ok (.iload 5, 2) := by decide +kernel
theorem dJ2_compress_5af95_34 : decode cJ2_compress_5af95 34 = .ok (.ireturn, 1) := by decide +kernel
theorem dJ2_compress_5af95_35 : decode cJ2_compress_5af95 35 = .ok (.aload_n 2, 1) := by decide +kernel
theorem dJ2_compress_5af95_36 : decode cJ2_compress_5af95 36 = .ok (.iload_n 3, 1) := by decide +kernel
theorem dJ2_compress_5af95_37 : decode cJ2_compress_5af95 37 = .ok (.iload 6, 2) := by decide +kernel
theorem dJ2_compress_5af95_39 : decode cJ2_compress_5af95 39 = .ok (.i2b, 1) := by decide +kernel
theorem dJ2_compress_5af95_40 : decode cJ2_compress_5af95 40 = .ok (.bastore, 1) := by decide +kernel
theorem dJ2_compress_5af95_41 : decode cJ2_compress_5af95 41 = .ok (.iinc 1 1, 3) := by decide +kernel
theorem dJ2_compress_5af95_44 : decode cJ2_compress_5af95 44 = .ok (.iinc 3 1, 3) := by decide +kernel
theorem dJ2_compress_5af95_47 : decode cJ2_compress_5af95 47 = .ok (.iinc 5 1, 3) := by decide +kernel
theorem dJ2_compress_5af95_50 : decode cJ2_compress_5af95 50 = .ok (.goto (-40), 3) := by decide +kernel
theorem dJ2_compress_5af95_53 : decode cJ2_compress_5af95 53 = .ok (.iload 4, 2) := by decide +kernel
theorem dJ2_compress_5af95_55 : decode cJ2_compress_5af95 55 = .ok (.ireturn, 1) := by decide +kernel
theorem dJ2_fillNull_b72d1_0 : decode cJ2_fillNull_b72d1 0 = .ok (.aload_n 0, 1) := by decide +kernel
theorem dJ2_fillNull_b72d1_1 : decode cJ2_fillNull_b72d1 1 = .ok (.iload_n 1, 1) := by decide +kernel
theorem dJ2_fillNull_b72d1_2 : decode cJ2_fillNull_b72d1 2 = .ok (.iconst 1, 1) := by decide +kernel
theorem dJ2_fillNull_b72d1_3 : decode cJ2_fillNull_b72d1 3 = .ok (.ishl, 1) := by decide +kernel
theorem dJ2_fillNull_b72d1_4 : decode cJ2_fillNull_b72d1 4 = .ok (.iload_n 2, 1) := by decide +kernel
theorem dJ2_fillNull_b72d1_5 : decode cJ2_fillNull_b72d1 5 = .ok (.iconst 1, 1) := by decide +kernel
theorem dJ2_fillNull_b72d1_6 : decode cJ2_fillNull_b72d1 6 = .ok (.ishl, 1) := by decide +kernel
theorem dJ2_fillNull_b72d1_7 : decode cJ2_fillNull_b72d1 7 = .ok (.iconst 0, 1) := by decide +kernel
theorem dJ2_fillNull_b72d1_8 : decode cJ2_fillNull_b72d1 8 = .ok (.invokestatic 380, 3) := by decide +kernel
theorem dJ2_fillNull_b72d1_11 : decode cJ2_fillNull_b72d1 11 = .ok (.return_, 1) := by decide +kernel
theorem dJ2_putCharSB_b72d1_0 : decode cJ2_putCharSB_b72d1 0 = .ok (.iload_n 1, 1) := by decide +kernel
theorem dJ2_putCharSB_b72d1_1 : decode cJ2_putCharSB_b72d1 1 = .ok (.aload_n 0, 1) := by decide +kernel
theorem dJ2_putCharSB_b72d1_2 : decode cJ2_putCharSB_b72d1 2 = .ok (.invokestatic 67, 3) := by decide +kernel
theorem dJ2_putCharSB_b72d1_5 : decode cJ2_putCharSB_b72d1 5 = .ok (.aload_n 0, 1) := by decide +kernel
theorem dJ2_putCharSB_b72d1_6 : decode cJ2_putCharSB_b72d1 6 = .ok (.iload_n 1, 1) := by decide +kernel
theorem dJ2_putCharSB_b72d1_7 : decode cJ2_putCharSB_b72d1 7 = .ok (.iload_n 2, 1) := by decide +kernel
theorem dJ2_putCharSB_b72d1_8 : decode cJ2_putCharSB_b72d1 8 = .ok (.invokestatic 111, 3) := by decide +kernel
theorem dJ2_putCharSB_b72d1_11 : decode cJ2_putCharSB_b72d1 11 = .ok (.return_, 1) := by decide +kernel
theorem dJ2_getChars_46870_0 : decode cJ2_getChars_46870 0 = .ok (.iload_n 1, 1) := by decide +kernel
theorem dJ2_getChars_46870_1 : decode cJ2_getChars_46870 1 = .ok (.iload_n 2, 1) := by decide +kernel
theorem dJ2_getChars_46870_2 : decode cJ2_getChars_46870 2 = .ok (.aload_n 3, 1) := by decide +kernel
theorem dJ2_getChars_46870_3 : decode cJ2_getChars_46870 3 = .ok (.invokestatic 96, 3) := by decide +kernel
theorem dJ2_getChars_46870_6 : decode cJ2_getChars_46870 6 = .ok (.iload_n 0, 1) := by decide +kernel
theorem dJ2_getChars_46870_7 : decode cJ2_getChars_46870 7 = .ok (.iload_n 2, 1) := by decide +kernel
theorem dJ2_getChars_46870_8 : decode cJ2_getChars_46870 8 = .ok (.aload_n 3, 1) := by decide +kernel
theorem dJ2_getChars_46870_9 : decode cJ2_getChars_46870 9 = .ok (.invokestatic 393, 3) := by decide +kernel
theorem dJ2_getChars_46870_12 : decode cJ2_getChars_46870 12 = .ok (.istore 4, 2) := by decide +kernel
theorem dJ2_getChars_46870_14 : decode cJ2_getChars_46870 14 = .ok (.getstatic 44, 3) := by decide +kernel
theorem dJ2_getChars_46870_17 : decode cJ2_getChars_46870 17 = .ok (.ifCond .ne 17, 3) := by decide +kernel
theorem dJ2_getChars_46870_20 : decode cJ2_getChars_46870 20 = .ok (.iload_n 1, 1) := by decide +kernel
theorem dJ2_getChars_46870_21 : decode cJ2_getChars_46870 21 = .ok (.iload 4, 2) := by decide +kernel
theorem dJ2_getChars_46870_23 : decode cJ2_getChars_46870 23 = .ok (.if_icmp .eq 11, 3) := by decide +kernel
theorem dJ2_getChars_46870_26 : decode cJ2_getChars_46870 26 = .ok (.new 52, 3) := by decide +kernel
theorem dJ2_getChars_46870_29 : decode cJ2_getChars_46870 29 = .ok (.dup, 1) := by decide +kernel
theorem dJ2_getChars_46870_30 : decode cJ2_getChars_46870 30 = .ok (.invokespecial 66, 3) := by decide +kernel
theorem dJ2_getChars_46870_33 : decode cJ2_getChars_46870 33 = .ok (.athrow, 1) := by decide +kernel
theorem dJ2_getChars_46870_34 : decode cJ2_getChars_46870 34 = .ok (.iload 4, 2) := by decide +kernel
theorem dJ2_getChars_46870_36 : decode cJ2_getChars_46870 36 = .ok (.ireturn, 1) := by decide +kernel
theorem dJ2_putCharsAt_cd4e5_0 : decode cJ2_putCharsAt_cd4e5 0 = .ok (.iload_n 1, 1) := by decide +kernel
theorem dJ2_putCharsAt_cd4e5_1 : decode cJ2_putCharsAt_cd4e5 1 = .ok (.iconst 4, 1) := by decide +kernel
theorem dJ2_putCharsAt_cd4e5_2 : decode cJ2_putCharsAt_cd4e5 2 = .ok (.iadd, 1) := by decide +kernel
theorem dJ2_putCharsAt_cd4e5_3 : decode cJ2_putCharsAt_cd4e5 3 = .ok (.istore 6, 2) := by decide +kernel
theorem dJ2_putCharsAt_cd4e5_5 : decode cJ2_putCharsAt_cd4e5 5 = .ok (.iload_n 1, 1) := by decide +kernel
theorem dJ2_putCharsAt_cd4e5_6 : decode cJ2_putCharsAt_cd4e5 6 = .ok (.iload 6, 2) := by decide +kernel
theorem dJ2_putCharsAt_cd4e5_8 : decode cJ2_putCharsAt_cd4e5 8 = .ok (.aload_n 0, 1) := by decide +kernel
theorem dJ2_putCharsAt_cd4e5_9 : decode cJ2_putCharsAt_cd4e5 9 = .ok (.invokestatic 96, 3) := by decide +kernel
theorem dJ2_putCharsAt_cd4e5_12 : decode cJ2_putCharsAt_cd4e5 12 = .ok (.aload_n 0, 1) := by decide +kernel
theorem dJ2_putCharsAt_cd4e5_13 : decode cJ2_putCharsAt_cd4e5 13 = .ok (.iload_n 1, 1) := by decide +kernel
theorem dJ2_putCharsAt_cd4e5_14 : decode cJ2_putCharsAt_cd4e5 14 = .ok (.iinc 1 1, 3) := by decide +kernel
theorem dJ2_putCharsAt_cd4e5_17 : decode cJ2_putCharsAt_cd4e5 17 = .ok (.iload_n 2, 1) := by decide +kernel
theorem dJ2_putCharsAt_cd4e5_18 : decode cJ2_putCharsAt_cd4e5 18 = .ok (.invokestatic 111, 3) := by decide +kernel
theorem dJ2_putCharsAt_cd4e5_21 : decode cJ2_putCharsAt_cd4e5 21 = .ok (.aload_n 0, 1) := by decide +kernel
theorem dJ2_putCharsAt_cd4e5_22 : decode cJ2_putCharsAt_cd4e5 22 = .ok (.iload_n 1, 1) := by decide +kernel
theorem dJ2_putCharsAt_cd4e5_23 : decode cJ2_putCharsAt_cd4e5 23 = .ok (.iinc 1 1, 3) := by decide +kernel
theorem dJ2_putCharsAt_cd4e5_26 : decode cJ2_putCharsAt_cd4e5 26 = .ok (.iload_n 3, 1) := by decide +kernel
theorem dJ2_putCharsAt_cd4e5_27 : decode cJ2_putCharsAt_cd4e5 27 = .ok (.invokestatic 111, 3) := by decide +kernel
theorem dJ2_putCharsAt_cd4e5_30 : decode cJ2_putCharsAt_cd4e5 30 = .ok (.aload_n 0, 1) := by decide +kernel
theorem dJ2_putCharsAt_cd4e5_31 : decode cJ2_putCharsAt_cd4e5 31 = .ok (.iload_n 1, 1) := by decide +kernel
theorem dJ2_putCharsAt_cd4e5_32 : decode cJ2_putCharsAt_cd4e5 32 = .ok (.iinc 1 1, 3) := by decide +kernel
theorem dJ2_putCharsAt_cd4e5_35 : decode cJ2_putCharsAt_cd4e5 35 = .ok (.iload 4, 2) := by decide +kernel
theorem dJ2_putCharsAt_cd4e5_37 : decode cJ2_putCharsAt_cd4e5 37 = .ok (.invokestatic 111, 3) := by decide +kernel
theorem dJ2_putCharsAt_cd4e5_40 : decode cJ2_putCharsAt_cd4e5 40 = .ok (.aload_n 0, 1) := by decide +kernel
theorem dJ2_putCharsAt_cd4e5_41 : decode cJ2_putCharsAt_cd4e5 41 = .ok (.iload_n 1, 1) := by decide +kernel
theorem dJ2_putCharsAt_cd4e5_42 : decode cJ2_putCharsAt_cd4e5 42 = .ok (.iinc 1 1, 3) := by decide +kernel
theorem dJ2_putCharsAt_cd4e5_45 : decode cJ2_putCharsAt_cd4e5 45 = .ok (.iload 5, 2) := by decide +kernel
theorem dJ2_putCharsAt_cd4e5_47 : decode cJ2_putCharsAt_cd4e5 47 = .ok (.invokestatic 111, 3) := by decide +kernel
theorem dJ2_putCharsAt_cd4e5_50 : decode cJ2_putCharsAt_cd4e5 50 = .ok (.getstatic 44, 3) := by decide +kernel
theorem dJ2_putCharsAt_cd4e5_53 : decode cJ2_putCharsAt_cd4e5 53 = .ok (.ifCond .ne 17, 3) := by decide +kernel
theorem dJ2_putCharsAt_cd4e5_56 : decode cJ2_putCharsAt_cd4e5 56 = .ok (.iload_n 1, 1) := by decide +kernel
theorem dJ2_putCharsAt_cd4e5_57 : decode cJ2_putCharsAt_cd4e5 57 = .ok (.iload 6, 2) := by decide +kernel
theorem dJ2_putCharsAt_cd4e5_59 : decode cJ2_putCharsAt_cd4e5 59 = .ok (.if_icmp .eq 11, 3) := by decide +kernel
theorem dJ2_putCharsAt_cd4e5_62 : decode cJ2_putCharsAt_cd4e5 62 = .ok (.new 52, 3) := by decide +kernel
theorem dJ2_putCharsAt_cd4e5_65 : decode cJ2_putCharsAt_cd4e5 65 = .ok (.dup, 1) := by decide +kernel
theorem dJ2_putCharsAt_cd4e5_66 : decode cJ2_putCharsAt_cd4e5 66 = .ok (.invokespecial 66, 3) := by decide +kernel
theorem dJ2_putCharsAt_cd4e5_69 : decode cJ2_putCharsAt_cd4e5 69 = .ok (.athrow, 1) := by decide +kernel
theorem dJ2_putCharsAt_cd4e5_70 : decode cJ2_putCharsAt_cd4e5 70 = .ok (.iload 6, 2) := by decide +kernel
theorem dJ2_putCharsAt_cd4e5_72 : decode cJ2_putCharsAt_cd4e5 72 = .ok (.ireturn, 1) := by decide +kernel
theorem dJ2_charAt_3b067_0 : decode cJ2_charAt_3b067 0 = .ok (.iload_n 1, 1) := by decide +kernel
theorem dJ2_charAt_3b067_1 : decode cJ2_charAt_3b067 1 = .ok (.aload_n 0, 1) := by decide +kernel
theorem dJ2_charAt_3b067_2 : decode cJ2_charAt_3b067 2 = .ok (.invokestatic 67, 3) := by decide +kernel
theorem dJ2_charAt_3b067_5 : decode cJ2_charAt_3b067 5 = .ok (.aload_n 0, 1) := by decide +kernel
theorem dJ2_charAt_3b067_6 : decode cJ2_charAt_3b067 6 = .ok (.iload_n 1, 1) := by decide +kernel
theorem dJ2_charAt_3b067_7 : decode cJ2_charAt_3b067 7 = .ok (.invokestatic 71, 3) := by decide +kernel
theorem dJ2_charAt_3b067_10 : decode cJ2_charAt_3b067 10 = .ok (.ireturn, 1) := by decide +kernel
theorem dJ2_inflate_0e8fd_0 : decode cJ2_inflate_0e8fd 0 = .ok (.iload_n 3, 1) := by decide +kernel
theorem dJ2_inflate_0e8fd_1 : decode cJ2_inflate_0e8fd 1 = .ok (.iload 4, 2) := by decide +kernel
theorem dJ2_inflate_0e8fd_3 : decode cJ2_inflate_0e8fd 3 = .ok (.aload_n 2, 1) := by decide +kernel
theorem dJ2_inflate_0e8fd_4 : decode cJ2_inflate_0e8fd 4 = .ok (.invokestatic 173, 3) := by decide +kernel
theorem dJ2_inflate_0e8fd_7 : decode cJ2_inflate_0e8fd 7 = .ok (.iconst 0, 1) := by decide +kernel
theorem dJ2_inflate_0e8fd_8 : decode cJ2_inflate_0e8fd 8 = .ok (.istore 5, 2) := by decide +kernel
theorem dJ2_inflate_0e8fd_10 : decode cJ2_inflate_0e8fd 10 = .ok (.iload 5, 2) := by decide +kernel
theorem dJ2_inflate_0e8fd_12 : decode cJ2_inflate_0e8fd 12 = .ok (.iload 4, 2) := by decide +kernel
theorem dJ2_inflate_0e8fd_14 : decode cJ2_inflate_0e8fd 14 = .ok (.if_icmp .ge 27, 3) := by decide +kernel
theorem dJ2_inflate_0e8fd_17 : decode cJ2_inflate_0e8fd 17 = .ok (.aload_n 2, 1) := by decide +kernel
theorem dJ2_inflate_0e8fd_18 : decode cJ2_inflate_0e8fd 18 = .ok (.iload_n 3, 1) := by decide +kernel
theorem dJ2_inflate_0e8fd_19 : decode cJ2_inflate_0e8fd 19 = .ok (.iinc 3 1, 3) := by decide +kernel
theorem dJ2_inflate_0e8fd_22 : decode cJ2_inflate_0e8fd 22 = .ok (.aload_n 0, 1) := by decide +kernel
theorem dJ2_inflate_0e8fd_23 : decode cJ2_inflate_0e8fd 23 = .ok (.iload_n 1, 1) := by decide +kernel
theorem dJ2_inflate_0e8fd_24 : decode cJ2_inflate_0e8fd 24 = .ok (.iinc 1 1, 3) := by decide +kernel
theorem dJ2_inflate_0e8fd_27 : decode cJ2_inflate_0e8fd 27 = .ok (.baload, 1) := by decide +kernel
theorem dJ2_inflate_0e8fd_28 : decode cJ2_inflate_0e8fd 28 = .ok (.sipush 255, 3) := by decide +kernel
theorem dJ2_inflate_0e8fd_31 : decode cJ2_inflate_0e8fd 31 = .ok (.iand, 1) := by decide +kernel
theorem dJ2_inflate_0e8fd_32 : decode cJ2_inflate_0e8fd 32 = .ok (.invokestatic 111, 3) := by decide +kernel
theorem dJ2_inflate_0e8fd_35 : decode cJ2_inflate_0e8fd 35 = .ok (.iinc 5 1, 3) := by decide +kernel
theorem dJ2_inflate_0e8fd_38 : decode cJ2_inflate_0e8fd 38 = .ok (.goto (-28), 3) := by decide +kernel
theorem dJ2_inflate_0e8fd_41 : decode cJ2_inflate_0e8fd 41 = .ok (.return_, 1) := by decide +kernel
theorem dJ2_getChars_ba4f3_0 : decode cJ2_getChars_ba4f3 0 = .ok (.iload_n 1, 1) := by decide +kernel
theorem dJ2_getChars_ba4f3_1 : decode cJ2_getChars_ba4f3 1 = .ok (.istore 5, 2) := by decide +kernel
theorem dJ2_getChars_ba4f3_3 : decode cJ2_getChars_ba4f3 3 = .ok (.iload_n 0, 1) := by decide +kernel
theorem dJ2_getChars_ba4f3_4 : decode cJ2_getChars_ba4f3 4 = .ok (.ifCond .ge 7, 3) := by decide +kernel
theorem dJ2_getChars_ba4f3_7 : decode cJ2_getChars_ba4f3 7 = .ok (.iconst 1, 1) := by decide +kernel
theorem dJ2_getChars_ba4f3_8 : decode cJ2_getChars_ba4f3 8 = .ok (.goto 4, 3) := by decide +kernel
theorem dJ2_getChars_ba4f3_11 : decode cJ2_getChars_ba4f3 11 = .ok (.iconst 0, 1) := by decide +kernel
theorem dJ2_getChars_ba4f3_12 : decode cJ2_getChars_ba4f3 12 = .ok (.istore 6, 2) := by decide +kernel
theorem dJ2_getChars_ba4f3_14 : decode cJ2_getChars_ba4f3 14 = .ok (.iload 6, 2) := by decide +kernel
theorem dJ2_getChars_ba4f3_16 : decode cJ2_getChars_ba4f3 16 = .ok (.ifCond .ne 6, 3) := by decide +kernel
theorem dJ2_getChars_ba4f3_19 : decode cJ2_getChars_ba4f3 19 = .ok (.iload_n 0, 1) := by decide +kernel
theorem dJ2_getChars_ba4f3_20 : decode cJ2_getChars_ba4f3 20 = .ok (.ineg, 1) := by decide +kernel
theorem dJ2_getChars_ba4f3_21 : decode cJ2_getChars_ba4f3 21 = .ok (.istore_n 0, 1) := by decide +kernel
theorem dJ2_getChars_ba4f3_22 : decode cJ2_getChars_ba4f3 22 = .ok (.iload_n 0, 1) := by decide +kernel
end
section
theorem dJ2_getChars_ba4f3_23 : decode cJ2_getChars_ba4f3 23 = .ok (.bipush (-100), 2) := by decide +kernel
theorem dJ2_getChars_ba4f3_25 : decode cJ2_getChars_ba4f3 25 = .ok (.if_icmp .gt 51, 3) := by decide +kernel
theorem dJ2_getChars_ba4f3_28 : decode cJ2_getChars_ba4f3 28 = .ok (.iload_n 0, 1) := by decide +kernel
theorem dJ2_getChars_ba4f3_29 : decode cJ2_getChars_ba4f3 29 = .ok (.bipush 100, 2) := by decide +kernel
theorem dJ2_getChars_ba4f3_31 : decode cJ2_getChars_ba4f3 31 = .ok (.idiv, 1) := by decide +kernel
theorem dJ2_getChars_ba4f3_32 : decode cJ2_getChars_ba4f3 32 = .ok (.istore_n 3, 1) := by decide +kernel
theorem dJ2_getChars_ba4f3_33 : decode cJ2_getChars_ba4f3 33 = .ok (.iload_n 3, 1) := by decide +kernel
theorem dJ2_getChars_ba4f3_34 : decode cJ2_getChars_ba4f3 34 = .ok (.bipush 100, 2) := by decide +kernel
theorem dJ2_getChars_ba4f3_36 : decode cJ2_getChars_ba4f3 36 = .ok (.imul, 1) := by decide +kernel
theorem dJ2_getChars_ba4f3_37 : decode cJ2_getChars_ba4f3 37 = .ok (.iload_n 0, 1) := by decide +kernel
theorem dJ2_getChars_ba4f3_38 : decode cJ2_getChars_ba4f3 38 = .ok (.isub, 1) := by decide +kernel
theorem dJ2_getChars_ba4f3_39 : decode cJ2_getChars_ba4f3 39 = .ok (.istore 4, 2) := by decide +kernel
theorem dJ2_getChars_ba4f3_41 : decode cJ2_getChars_ba4f3 41 = .ok (.iload_n 3, 1) := by decide +kernel
theorem dJ2_getChars_ba4f3_42 : decode cJ2_getChars_ba4f3 42 = .ok (.istore_n 0, 1) := by decide +kernel
theorem dJ2_getChars_ba4f3_43 : decode cJ2_getChars_ba4f3 43 = .ok (.aload_n 2, 1) := by decide +kernel
theorem dJ2_getChars_ba4f3_44 : decode cJ2_getChars_ba4f3 44 = .ok (.iinc 5 (-1), 3) := by decide +kernel
theorem dJ2_getChars_ba4f3_47 : decode cJ2_getChars_ba4f3 47 = .ok (.iload 5, 2) := by decide +kernel
theorem dJ2_getChars_ba4f3_49 : decode cJ2_getChars_ba4f3 49 = .ok (.getstatic 403, 3) := by decide +kernel
theorem dJ2_getChars_ba4f3_52 : decode cJ2_getChars_ba4f3 52 = .ok (.iload 4, 2) := by decide +kernel
theorem dJ2_getChars_ba4f3_54 : decode cJ2_getChars_ba4f3 54 = .ok (.baload, 1) := by decide +kernel
theorem dJ2_getChars_ba4f3_55 : decode cJ2_getChars_ba4f3 55 = .ok (.invokestatic 111, 3) := by decide +kernel
theorem dJ2_getChars_ba4f3_58 : decode cJ2_getChars_ba4f3 58 = .ok (.aload_n 2, 1) := by decide +kernel
theorem dJ2_getChars_ba4f3_59 : decode cJ2_getChars_ba4f3 59 = .ok (.iinc 5 (-1), 3) := by decide +kernel
theorem dJ2_getChars_ba4f3_62 : decode cJ2_getChars_ba4f3 62 = .ok (.iload 5, 2) := by decide +kernel
theorem dJ2_getChars_ba4f3_64 : decode cJ2_getChars_ba4f3 64 = .ok (.getstatic 407, 3) := by decide +kernel
theorem dJ2_getChars_ba4f3_67 : decode cJ2_getChars_ba4f3 67 = .ok (.iload 4, 2) := by decide +kernel
theorem dJ2_getChars_ba4f3_69 : decode cJ2_getChars_ba4f3 69 = .ok (.baload, 1) := by decide +kernel
theorem dJ2_getChars_ba4f3_70 : decode cJ2_getChars_ba4f3 70 = .ok (.invokestatic 111, 3) := by decide +kernel
theorem dJ2_getChars_ba4f3_73 : decode cJ2_getChars_ba4f3 73 = .ok (.goto (-51), 3) := by decide +kernel
theorem dJ2_getChars_ba4f3_76 : decode cJ2_getChars_ba4f3 76 = .ok (.aload_n 2, 1) := by decide +kernel
theorem dJ2_getChars_ba4f3_77 : decode cJ2_getChars_ba4f3 77 = .ok (.iinc 5 (-1), 3) := by decide +kernel
theorem dJ2_getChars_ba4f3_80 : decode cJ2_getChars_ba4f3 80 = .ok (.iload 5, 2) := by decide +kernel
theorem dJ2_getChars_ba4f3_82 : decode cJ2_getChars_ba4f3 82 = .ok (.getstatic 403, 3) := by decide +kernel
theorem dJ2_getChars_ba4f3_85 : decode cJ2_getChars_ba4f3 85 = .ok (.iload_n 0, 1) := by decide +kernel
theorem dJ2_getChars_ba4f3_86 : decode cJ2_getChars_ba4f3 86 = .ok (.ineg, 1) := by decide +kernel
theorem dJ2_getChars_ba4f3_87 : decode cJ2_getChars_ba4f3 87 = .ok (.baload, 1) := by decide +kernel
theorem dJ2_getChars_ba4f3_88 : decode cJ2_getChars_ba4f3 88 = .ok (.invokestatic 111, 3) := by decide +kernel
theorem dJ2_getChars_ba4f3_91 : decode cJ2_getChars_ba4f3 91 = .ok (.iload_n 0, 1) := by decide +kernel
theorem dJ2_getChars_ba4f3_92 : decode cJ2_getChars_ba4f3 92 = .ok (.bipush (-9), 2) := by decide +kernel
theorem dJ2_getChars_ba4f3_94 : decode cJ2_getChars_ba4f3 94 = .ok (.if_icmp .ge 18, 3) := by decide +kernel
theorem dJ2_getChars_ba4f3_97 : decode cJ2_getChars_ba4f3 97 = .ok (.aload_n 2, 1) := by decide +kernel
theorem dJ2_getChars_ba4f3_98 : decode cJ2_getChars_ba4f3 98 = .ok (.iinc 5 (-1), 3) := by decide +kernel
theorem dJ2_getChars_ba4f3_101 : decode cJ2_getChars_ba4f3 101 = .ok (.iload 5, 2) := by decide +kernel
theorem dJ2_getChars_ba4f3_103 : decode cJ2_getChars_ba4f3 103 = .ok (.getstatic 407, 3) := by decide +kernel
theorem dJ2_getChars_ba4f3_106 : decode cJ2_getChars_ba4f3 106 = .ok (.iload_n 0, 1) := by decide +kernel
theorem dJ2_getChars_ba4f3_107 : decode cJ2_getChars_ba4f3 107 = .ok (.ineg, 1) := by decide +kernel
theorem dJ2_getChars_ba4f3_108 : decode cJ2_getChars_ba4f3 108 = .ok (.baload, 1) := by decide +kernel
theorem dJ2_getChars_ba4f3_109 : decode cJ2_getChars_ba4f3 109 = .ok (.invokestatic 111, 3) := by decide +kernel
theorem dJ2_getChars_ba4f3_112 : decode cJ2_getChars_ba4f3 112 = .ok (.iload 6, 2) := by decide +kernel
theorem dJ2_getChars_ba4f3_114 : decode cJ2_getChars_ba4f3 114 = .ok (.ifCond .eq 14, 3) := by decide +kernel
theorem dJ2_getChars_ba4f3_117 : decode cJ2_getChars_ba4f3 117 = .ok (.aload_n 2, 1) := by decide +kernel
theorem dJ2_getChars_ba4f3_118 : decode cJ2_getChars_ba4f3 118 = .ok (.iinc 5 (-1), 3) := by decide +kernel
theorem dJ2_getChars_ba4f3_121 : decode cJ2_getChars_ba4f3 121 = .ok (.iload 5, 2) := by decide +kernel
theorem dJ2_getChars_ba4f3_123 : decode cJ2_getChars_ba4f3 123 = .ok (.bipush 45, 2) := by decide +kernel
theorem dJ2_getChars_ba4f3_125 : decode cJ2_getChars_ba4f3 125 = .ok (.invokestatic 111, 3) := by decide +kernel
theorem dJ2_getChars_ba4f3_128 : decode cJ2_getChars_ba4f3 128 = .ok (.iload 5, 2) := by decide +kernel
theorem dJ2_getChars_ba4f3_130 : decode cJ2_getChars_ba4f3 130 = .ok (.ireturn, 1) := by decide +kernel
theorem dJ2_checkIndex_2214a_0 : decode cJ2_checkIndex_2214a 0 = .ok (.iload_n 0, 1) := by decide +kernel
theorem dJ2_checkIndex_2214a_1 : decode cJ2_checkIndex_2214a 1 = .ok (.aload_n 1, 1) := by decide +kernel
theorem dJ2_checkIndex_2214a_2 : decode cJ2_checkIndex_2214a 2 = .ok (.invokestatic 48, 3) := by decide +kernel
theorem dJ2_checkIndex_2214a_5 : decode cJ2_checkIndex_2214a 5 = .ok (.invokestatic 414, 3) := by decide +kernel
theorem dJ2_checkIndex_2214a_8 : decode cJ2_checkIndex_2214a 8 = .ok (.return_, 1) := by decide +kernel
theorem dJ2_checkBoundsBeginEnd_d044e_0 : decode cJ2_checkBoundsBeginEnd_d044e 0 = .ok (.iload_n 0, 1) := by decide +kernel
theorem dJ2_checkBoundsBeginEnd_d044e_1 : decode cJ2_checkBoundsBeginEnd_d044e 1 = .ok (.iload_n 1, 1) := by decide +kernel
theorem dJ2_checkBoundsBeginEnd_d044e_2 : decode cJ2_checkBoundsBeginEnd_d044e 2 = .ok (.aload_n 2, 1) := by decide +kernel
theorem dJ2_checkBoundsBeginEnd_d044e_3 : decode cJ2_checkBoundsBeginEnd_d044e 3 = .ok (.invokestatic 48, 3) := by decide +kernel
theorem dJ2_checkBoundsBeginEnd_d044e_6 : decode cJ2_checkBoundsBeginEnd_d044e 6 = .ok (.invokestatic 241, 3) := by decide +kernel
theorem dJ2_checkBoundsBeginEnd_d044e_9 : decode cJ2_checkBoundsBeginEnd_d044e 9 = .ok (.return_, 1) := by decide +kernel
theorem dJ2_checkBoundsOffCount_d044e_0 : decode cJ2_checkBoundsOffCount_d044e 0 = .ok (.iload_n 0, 1) := by decide +kernel
theorem dJ2_checkBoundsOffCount_d044e_1 : decode cJ2_checkBoundsOffCount_d044e 1 = .ok (.iload_n 1, 1) := by decide +kernel
theorem dJ2_checkBoundsOffCount_d044e_2 : decode cJ2_checkBoundsOffCount_d044e 2 = .ok (.aload_n 2, 1) := by decide +kernel
theorem dJ2_checkBoundsOffCount_d044e_3 : decode cJ2_checkBoundsOffCount_d044e 3 = .ok (.invokestatic 48, 3) := by decide +kernel
theorem dJ2_checkBoundsOffCount_d044e_6 : decode cJ2_checkBoundsOffCount_d044e 6 = .ok (.invokestatic 419, 3) := by decide +kernel
theorem dJ2_checkBoundsOffCount_d044e_9 : decode cJ2_checkBoundsOffCount_d044e 9 = .ok (.pop, 1) := by decide +kernel
theorem dJ2_checkBoundsOffCount_d044e_10 : decode cJ2_checkBoundsOffCount_d044e 10 = .ok (.return_, 1) := by decide +kernel
theorem dJ7_rangeCheck_23922_0 : decode cJ7_rangeCheck_23922 0 = .ok (.iload_n 1, 1) := by decide +kernel
theorem dJ7_rangeCheck_23922_1 : decode cJ7_rangeCheck_23922 1 = .ok (.iload_n 2, 1) := by decide +kernel
theorem dJ7_rangeCheck_23922_2 : decode cJ7_rangeCheck_23922 2 = .ok (.if_icmp .le 44, 3) := by decide +kernel
theorem dJ7_rangeCheck_23922_5 : decode cJ7_rangeCheck_23922 5 = .ok (.new 43, 3) := by decide +kernel
theorem dJ7_rangeCheck_23922_8 : decode cJ7_rangeCheck_23922 8 = .ok (.dup, 1) := by decide +kernel
theorem dJ7_rangeCheck_23922_9 : decode cJ7_rangeCheck_23922 9 = .ok (.new 45, 3) := by decide +kernel
theorem dJ7_rangeCheck_23922_12 : decode cJ7_rangeCheck_23922 12 = .ok (.dup, 1) := by decide +kernel
theorem dJ7_rangeCheck_23922_13 : decode cJ7_rangeCheck_23922 13 = .ok (.invokespecial 47, 3) := by decide +kernel
theorem dJ7_rangeCheck_23922_16 : decode cJ7_rangeCheck_23922 16 = .ok (.ldc 48, 2) := by decide +kernel
theorem dJ7_rangeCheck_23922_18 : decode cJ7_rangeCheck_23922 18 = .ok (.invokevirtual 50, 3) := by decide +kernel
theorem dJ7_rangeCheck_23922_21 : decode cJ7_rangeCheck_23922 21 = .ok (.iload_n 1, 1) := by decide +kernel
theorem dJ7_rangeCheck_23922_22 : decode cJ7_rangeCheck_23922 22 = .ok (.invokevirtual 54, 3) := by decide +kernel
theorem dJ7_rangeCheck_23922_25 : decode cJ7_rangeCheck_23922 25 = .ok (.ldc 57, 2) := by decide +kernel
theorem dJ7_rangeCheck_23922_27 : decode cJ7_rangeCheck_23922 27 = .ok (.invokevirtual 50, 3) := by decide +kernel
theorem dJ7_rangeCheck_23922_30 : decode cJ7_rangeCheck_23922 30 = .ok (.iload_n 2, 1) := by decide +kernel
theorem dJ7_rangeCheck_23922_31 : decode cJ7_rangeCheck_23922 31 = .ok (.invokevirtual 54, 3) := by decide +kernel
theorem dJ7_rangeCheck_23922_34 : decode cJ7_rangeCheck_23922 34 = .ok (.ldc 59, 2) := by decide +kernel
theorem dJ7_rangeCheck_23922_36 : decode cJ7_rangeCheck_23922 36 = .ok (.invokevirtual 50, 3) := by decide +kernel
theorem dJ7_rangeCheck_23922_39 : decode cJ7_rangeCheck_23922 39 = .ok (.invokevirtual 61, 3) := by decide +kernel
theorem dJ7_rangeCheck_23922_42 : decode cJ7_rangeCheck_23922 42 = .ok (.invokespecial 65, 3) := by decide +kernel
theorem dJ7_rangeCheck_23922_45 : decode cJ7_rangeCheck_23922 45 = .ok (.athrow, 1) := by decide +kernel
theorem dJ7_rangeCheck_23922_46 : decode cJ7_rangeCheck_23922 46 = .ok (.iload_n 1, 1) := by decide +kernel
theorem dJ7_rangeCheck_23922_47 : decode cJ7_rangeCheck_23922 47 = .ok (.ifCond .ge 12, 3) := by decide +kernel
theorem dJ7_rangeCheck_23922_50 : decode cJ7_rangeCheck_23922 50 = .ok (.new 68, 3) := by decide +kernel
theorem dJ7_rangeCheck_23922_53 : decode cJ7_rangeCheck_23922 53 = .ok (.dup, 1) := by decide +kernel
theorem dJ7_rangeCheck_23922_54 : decode cJ7_rangeCheck_23922 54 = .ok (.iload_n 1, 1) := by decide +kernel
theorem dJ7_rangeCheck_23922_55 : decode cJ7_rangeCheck_23922 55 = .ok (.invokespecial 70, 3) := by decide +kernel
theorem dJ7_rangeCheck_23922_58 : decode cJ7_rangeCheck_23922 58 = .ok (.athrow, 1) := by decide +kernel
theorem dJ7_rangeCheck_23922_59 : decode cJ7_rangeCheck_23922 59 = .ok (.iload_n 2, 1) := by decide +kernel
theorem dJ7_rangeCheck_23922_60 : decode cJ7_rangeCheck_23922 60 = .ok (.iload_n 0, 1) := by decide +kernel
theorem dJ7_rangeCheck_23922_61 : decode cJ7_rangeCheck_23922 61 = .ok (.if_icmp .le 12, 3) := by decide +kernel
theorem dJ7_rangeCheck_23922_64 : decode cJ7_rangeCheck_23922 64 = .ok (.new 68, 3) := by decide +kernel
theorem dJ7_rangeCheck_23922_67 : decode cJ7_rangeCheck_23922 67 = .ok (.dup, 1) := by decide +kernel
theorem dJ7_rangeCheck_23922_68 : decode cJ7_rangeCheck_23922 68 = .ok (.iload_n 2, 1) := by decide +kernel
theorem dJ7_rangeCheck_23922_69 : decode cJ7_rangeCheck_23922 69 = .ok (.invokespecial 70, 3) := by decide +kernel
theorem dJ7_rangeCheck_23922_72 : decode cJ7_rangeCheck_23922 72 = .ok (.athrow, 1) := by decide +kernel
theorem dJ7_rangeCheck_23922_73 : decode cJ7_rangeCheck_23922 73 = .ok (.return_, 1) := by decide +kernel
theorem dJ7_fill_eb02e_0 : decode cJ7_fill_eb02e 0 = .ok (.aload_n 0, 1) := by decide +kernel
theorem dJ7_fill_eb02e_1 : decode cJ7_fill_eb02e 1 = .ok (.arraylength, 1) := by decide +kernel
theorem dJ7_fill_eb02e_2 : decode cJ7_fill_eb02e 2 = .ok (.iload_n 1, 1) := by decide +kernel
theorem dJ7_fill_eb02e_3 : decode cJ7_fill_eb02e 3 = .ok (.iload_n 2, 1) := by decide +kernel
theorem dJ7_fill_eb02e_4 : decode cJ7_fill_eb02e 4 = .ok (.invokestatic 13, 3) := by decide +kernel
theorem dJ7_fill_eb02e_7 : decode cJ7_fill_eb02e 7 = .ok (.iload_n 1, 1) := by decide +kernel
theorem dJ7_fill_eb02e_8 : decode cJ7_fill_eb02e 8 = .ok (.istore 4, 2) := by decide +kernel
theorem dJ7_fill_eb02e_10 : decode cJ7_fill_eb02e 10 = .ok (.iload 4, 2) := by decide +kernel
theorem dJ7_fill_eb02e_12 : decode cJ7_fill_eb02e 12 = .ok (.iload_n 2, 1) := by decide +kernel
theorem dJ7_fill_eb02e_13 : decode cJ7_fill_eb02e 13 = .ok (.if_icmp .ge 14, 3) := by decide +kernel
theorem dJ7_fill_eb02e_16 : decode cJ7_fill_eb02e 16 = .ok (.aload_n 0, 1) := by decide +kernel
theorem dJ7_fill_eb02e_17 : decode cJ7_fill_eb02e 17 = .ok (.iload 4, 2) := by decide +kernel
theorem dJ7_fill_eb02e_19 : decode cJ7_fill_eb02e 19 = .ok (.iload_n 3, 1) := by decide +kernel
theorem dJ7_fill_eb02e_20 : decode cJ7_fill_eb02e 20 = .ok (.bastore, 1) := by decide +kernel
theorem dJ7_fill_eb02e_21 : decode cJ7_fill_eb02e 21 = .ok (.iinc 4 1, 3) := by decide +kernel
theorem dJ7_fill_eb02e_24 : decode cJ7_fill_eb02e 24 = .ok (.goto (-14), 3) := by decide +kernel
theorem dJ7_fill_eb02e_27 : decode cJ7_fill_eb02e 27 = .ok (.return_, 1) := by decide +kernel
theorem dJ7_copyOf_9075b_0 : decode cJ7_copyOf_9075b 0 = .ok (.iload_n 1, 1) := by decide +kernel
theorem dJ7_copyOf_9075b_1 : decode cJ7_copyOf_9075b 1 = .ok (.aload_n 0, 1) := by decide +kernel
theorem dJ7_copyOf_9075b_2 : decode cJ7_copyOf_9075b 2 = .ok (.arraylength, 1) := by decide +kernel
theorem dJ7_copyOf_9075b_3 : decode cJ7_copyOf_9075b 3 = .ok (.if_icmp .ne 11, 3) := by decide +kernel
theorem dJ7_copyOf_9075b_6 : decode cJ7_copyOf_9075b 6 = .ok (.aload_n 0, 1) := by decide +kernel
theorem dJ7_copyOf_9075b_7 : decode cJ7_copyOf_9075b 7 = .ok (.invokevirtual 310, 3) := by decide +kernel
theorem dJ7_copyOf_9075b_10 : decode cJ7_copyOf_9075b 10 = .ok (.checkcast 311, 3) := by decide +kernel
theorem dJ7_copyOf_9075b_13 : decode cJ7_copyOf_9075b 13 = .ok (.areturn, 1) := by decide +kernel
theorem dJ7_copyOf_9075b_14 : decode cJ7_copyOf_9075b 14 = .ok (.iload_n 1, 1) := by decide +kernel
theorem dJ7_copyOf_9075b_15 : decode cJ7_copyOf_9075b 15 = .ok (.newarray .byte, 2) := by decide +kernel
theorem dJ7_copyOf_9075b_17 : decode cJ7_copyOf_9075b 17 = .ok (.astore_n 2, 1) := by decide +kernel
theorem dJ7_copyOf_9075b_18 : decode cJ7_copyOf_9075b 18 = .ok (.aload_n 0, 1) := by decide +kernel
theorem dJ7_copyOf_9075b_19 : decode cJ7_copyOf_9075b 19 = .ok (.iconst 0, 1) := by decide +kernel
theorem dJ7_copyOf_9075b_20 : decode cJ7_copyOf_9075b 20 = .ok (.aload_n 2, 1) := by decide +kernel
theorem dJ7_copyOf_9075b_21 : decode cJ7_copyOf_9075b 21 = .ok (.iconst 0, 1) := by decide +kernel
theorem dJ7_copyOf_9075b_22 : decode cJ7_copyOf_9075b 22 = .ok (.aload_n 0, 1) := by decide +kernel
theorem dJ7_copyOf_9075b_23 : decode cJ7_copyOf_9075b 23 = .ok (.arraylength, 1) := by decide +kernel
theorem dJ7_copyOf_9075b_24 : decode cJ7_copyOf_9075b 24 = .ok (.iload_n 1, 1) := by decide +kernel
theorem dJ7_copyOf_9075b_25 : decode cJ7_copyOf_9075b 25 = .ok (.invokestatic 304, 3) := by decide +kernel
theorem dJ7_copyOf_9075b_28 : decode cJ7_copyOf_9075b 28 = .ok (.invokestatic 150, 3) := by decide +kernel
theorem dJ7_copyOf_9075b_31 : decode cJ7_copyOf_9075b 31 = .ok (.aload_n 2, 1) := by decide +kernel
theorem dJ7_copyOf_9075b_32 : decode cJ7_copyOf_9075b 32 = .ok (.areturn, 1) := by decide +kernel
theorem dJ7_checkLength_df160_0 : decode cJ7_checkLength_df160 0 = .ok (.iload_n 1, 1) := by decide +kernel
theorem dJ7_checkLength_df160_1 : decode cJ7_checkLength_df160 1 = .ok (.iload_n 0, 1) := by decide +kernel
theorem dJ7_checkLength_df160_2 : decode cJ7_checkLength_df160 2 = .ok (.if_icmp .ge 35, 3) := by decide +kernel
theorem dJ7_checkLength_df160_5 : decode cJ7_checkLength_df160 5 = .ok (.new 43, 3) := by decide +kernel
theorem dJ7_checkLength_df160_8 : decode cJ7_checkLength_df160 8 = .ok (.dup, 1) := by decide +kernel
theorem dJ7_checkLength_df160_9 : decode cJ7_checkLength_df160 9 = .ok (.new 45, 3) := by decide +kernel
theorem dJ7_checkLength_df160_12 : decode cJ7_checkLength_df160 12 = .ok (.dup, 1) := by decide +kernel
theorem dJ7_checkLength_df160_13 : decode cJ7_checkLength_df160 13 = .ok (.invokespecial 47, 3) := by decide +kernel
theorem dJ7_checkLength_df160_16 : decode cJ7_checkLength_df160 16 = .ok (.iload_n 0, 1) := by decide +kernel
theorem dJ7_checkLength_df160_17 : decode cJ7_checkLength_df160 17 = .ok (.invokevirtual 54, 3) := by decide +kernel
theorem dJ7_checkLength_df160_20 : decode cJ7_checkLength_df160 20 = .ok (.ldc_w 337, 3) := by decide +kernel
theorem dJ7_checkLength_df160_23 : decode cJ7_checkLength_df160 23 = .ok (.invokevirtual 50, 3) := by decide +kernel
theorem dJ7_checkLength_df160_26 : decode cJ7_checkLength_df160 26 = .ok (.iload_n 1, 1) := by decide +kernel
theorem dJ7_checkLength_df160_27 : decode cJ7_checkLength_df160 27 = .ok (.invokevirtual 54, 3) := by decide +kernel
theorem dJ7_checkLength_df160_30 : decode cJ7_checkLength_df160 30 = .ok (.invokevirtual 61, 3) := by decide +kernel
theorem dJ7_checkLength_df160_33 : decode cJ7_checkLength_df160 33 = .ok (.invokespecial 65, 3) := by decide +kernel
theorem dJ7_checkLength_df160_36 : decode cJ7_checkLength_df160 36 = .ok (.athrow, 1) := by decide +kernel
theorem dJ7_checkLength_df160_37 : decode cJ7_checkLength_df160 37 = .ok (.return_, 1) := by decide +kernel
theorem dJ7_copyOfRange_39247_0 : decode cJ7_copyOfRange_39247 0 = .ok (.iload_n 1, 1) := by decide +kernel
theorem dJ7_copyOfRange_39247_1 : decode cJ7_copyOfRange_39247 1 = .ok (.ifCond .ne 9, 3) := by decide +kernel
theorem dJ7_copyOfRange_39247_4 : decode cJ7_copyOfRange_39247 4 = .ok (.iload_n 2, 1) := by decide +kernel
theorem dJ7_copyOfRange_39247_5 : decode cJ7_copyOfRange_39247 5 = .ok (.aload_n 0, 1) := by decide +kernel
theorem dJ7_copyOfRange_39247_6 : decode cJ7_copyOfRange_39247 6 = .ok (.arraylength, 1) := by decide +kernel
theorem dJ7_copyOfRange_39247_7 : decode cJ7_copyOfRange_39247 7 = .ok (.if_icmp .eq 10, 3) := by decide +kernel
theorem dJ7_copyOfRange_39247_10 : decode cJ7_copyOfRange_39247 10 = .ok (.aload_n 0, 1) := by decide +kernel
theorem dJ7_copyOfRange_39247_11 : decode cJ7_copyOfRange_39247 11 = .ok (.iload_n 1, 1) := by decide +kernel
theorem dJ7_copyOfRange_39247_12 : decode cJ7_copyOfRange_39247 12 = .ok (.iload_n 2, 1) := by decide +kernel
theorem dJ7_copyOfRange_39247_13 : decode cJ7_copyOfRange_39247 13 = .ok (.invokestatic 339, 3) := by decide +kernel
theorem dJ7_copyOfRange_39247_16 : decode cJ7_copyOfRange_39247 16 = .ok (.areturn, 1) := by decide +kernel
theorem dJ7_copyOfRange_39247_17 : decode cJ7_copyOfRange_39247 17 = .ok (.aload_n 0, 1) := by decide +kernel
theorem dJ7_copyOfRange_39247_18 : decode cJ7_copyOfRange_39247 18 = .ok (.invokevirtual 310, 3) := by decide +kernel
theorem dJ7_copyOfRange_39247_21 : decode cJ7_copyOfRange_39247 21 = .ok (.checkcast 311, 3) := by decide +kernel
theorem dJ7_copyOfRange_39247_24 : decode cJ7_copyOfRange_39247 24 = .ok (.areturn, 1) := by decide +kernel
theorem dJ7_copyOfRangeByte_39247_0 : decode cJ7_copyOfRangeByte_39247 0 = .ok (.iload_n 1, 1) := by decide +kernel
theorem dJ7_copyOfRangeByte_39247_1 : decode cJ7_copyOfRangeByte_39247 1 = .ok (.iload_n 2, 1) := by decide +kernel
theorem dJ7_copyOfRangeByte_39247_2 : decode cJ7_copyOfRangeByte_39247 2 = .ok (.invokestatic 343, 3) := by decide +kernel
theorem dJ7_copyOfRangeByte_39247_5 : decode cJ7_copyOfRangeByte_39247 5 = .ok (.iload_n 2, 1) := by decide +kernel
theorem dJ7_copyOfRangeByte_39247_6 : decode cJ7_copyOfRangeByte_39247 6 = .ok (.iload_n 1, 1) := by decide +kernel
theorem dJ7_copyOfRangeByte_39247_7 : decode cJ7_copyOfRangeByte_39247 7 = .ok (.isub, 1) := by decide +kernel
theorem dJ7_copyOfRangeByte_39247_8 : decode cJ7_copyOfRangeByte_39247 8 = .ok (.istore_n 3, 1) := by decide +kernel
theorem dJ7_copyOfRangeByte_39247_9 : decode cJ7_copyOfRangeByte_39247 9 = .ok (.iload_n 3, 1) := by decide +kernel
theorem dJ7_copyOfRangeByte_39247_10 : decode cJ7_copyOfRangeByte_39247 10 = .ok (.newarray .byte, 2) := by decide +kernel
theorem dJ7_copyOfRangeByte_39247_12 : decode cJ7_copyOfRangeByte_39247 12 = .ok (.astore 4, 2) := by decide +kernel
theorem dJ7_copyOfRangeByte_39247_14 : decode cJ7_copyOfRangeByte_39247 14 = .ok (.aload_n 0, 1) := by decide +kernel
theorem dJ7_copyOfRangeByte_39247_15 : decode cJ7_copyOfRangeByte_39247 15 = .ok (.iload_n 1, 1) := by decide +kernel
theorem dJ7_copyOfRangeByte_39247_16 : decode cJ7_copyOfRangeByte_39247 16 = .ok (.aload 4, 2) := by decide +kernel
theorem dJ7_copyOfRangeByte_39247_18 : decode cJ7_copyOfRangeByte_39247 18 = .ok (.iconst 0, 1) := by decide +kernel
theorem dJ7_copyOfRangeByte_39247_19 : decode cJ7_copyOfRangeByte_39247 19 = .ok (.aload_n 0, 1) := by decide +kernel
theorem dJ7_copyOfRangeByte_39247_20 : decode cJ7_copyOfRangeByte_39247 20 = .ok (.arraylength, 1) := by decide +kernel
theorem dJ7_copyOfRangeByte_39247_21 : decode cJ7_copyOfRangeByte_39247 21 = .ok (.iload_n 1, 1) := by decide +kernel
theorem dJ7_copyOfRangeByte_39247_22 : decode cJ7_copyOfRangeByte_39247 22 = .ok (.isub, 1) := by decide +kernel
theorem dJ7_copyOfRangeByte_39247_23 : decode cJ7_copyOfRangeByte_39247 23 = .ok (.iload_n 3, 1) := by decide +kernel
theorem dJ7_copyOfRangeByte_39247_24 : decode cJ7_copyOfRangeByte_39247 24 = .ok (.invokestatic 304, 3) := by decide +kernel
theorem dJ7_copyOfRangeByte_39247_27 : decode cJ7_copyOfRangeByte_39247 27 = .ok (.invokestatic 150, 3) := by decide +kernel
theorem dJ7_copyOfRangeByte_39247_30 : decode cJ7_copyOfRangeByte_39247 30 = .ok (.aload 4, 2) := by decide +kernel
theorem dJ7_copyOfRangeByte_39247_32 : decode cJ7_copyOfRangeByte_39247 32 = .ok (.areturn, 1) := by decide +kernel
theorem dJ8_newLength_cabcc_0 : decode cJ8_newLength_cabcc 0 = .ok (.iload_n 0, 1) := by decide +kernel
theorem dJ8_newLength_cabcc_1 : decode cJ8_newLength_cabcc 1 = .ok (.iload_n 1, 1) := by decide +kernel
theorem dJ8_newLength_cabcc_2 : decode cJ8_newLength_cabcc 2 = .ok (.iload_n 2, 1) := by decide +kernel
theorem dJ8_newLength_cabcc_3 : decode cJ8_newLength_cabcc 3 = .ok (.invokestatic 194, 3) := by decide +kernel
theorem dJ8_newLength_cabcc_6 : decode cJ8_newLength_cabcc 6 = .ok (.iadd, 1) := by decide +kernel
theorem dJ8_newLength_cabcc_7 : decode cJ8_newLength_cabcc 7 = .ok (.istore_n 3, 1) := by decide +kernel
theorem dJ8_newLength_cabcc_8 : decode cJ8_newLength_cabcc 8 = .ok (.iconst 0, 1) := by decide +kernel
theorem dJ8_newLength_cabcc_9 : decode cJ8_newLength_cabcc 9 = .ok (.iload_n 3, 1) := by decide +kernel
theorem dJ8_newLength_cabcc_10 : decode cJ8_newLength_cabcc 10 = .ok (.if_icmp .ge 11, 3) := by decide +kernel
theorem dJ8_newLength_cabcc_13 : decode cJ8_newLength_cabcc 13 = .ok (.iload_n 3, 1) := by decide +kernel
theorem dJ8_newLength_cabcc_14 : decode cJ8_newLength_cabcc 14 = .ok (.ldc 200, 2) := by decide +kernel
theorem dJ8_newLength_cabcc_16 : decode cJ8_newLength_cabcc 16 = .ok (.if_icmp .gt 5, 3) := by decide +kernel
theorem dJ8_newLength_cabcc_19 : decode cJ8_newLength_cabcc 19 = .ok (.iload_n 3, 1) := by decide +kernel
theorem dJ8_newLength_cabcc_20 : decode cJ8_newLength_cabcc 20 = .ok (.ireturn, 1) := by decide +kernel
theorem dJ8_newLength_cabcc_21 : decode cJ8_newLength_cabcc 21 = .ok (.iload_n 0, 1) := by decide +kernel
theorem dJ8_newLength_cabcc_22 : decode cJ8_newLength_cabcc 22 = .ok (.iload_n 1, 1) := by decide +kernel
theorem dJ8_newLength_cabcc_23 : decode cJ8_newLength_cabcc 23 = .ok (.invokestatic 201, 3) := by decide +kernel
theorem dJ8_newLength_cabcc_26 : decode cJ8_newLength_cabcc 26 = .ok (.ireturn, 1) := by decide +kernel
theorem dJ8_hugeLength_7cf53_0 : decode cJ8_hugeLength_7cf53 0 = .ok (.iload_n 0, 1) := by decide +kernel
theorem dJ8_hugeLength_7cf53_1 : decode cJ8_hugeLength_7cf53 1 = .ok (.iload_n 1, 1) := by decide +kernel
theorem dJ8_hugeLength_7cf53_2 : decode cJ8_hugeLength_7cf53 2 = .ok (.iadd, 1) := by decide +kernel
theorem dJ8_hugeLength_7cf53_3 : decode cJ8_hugeLength_7cf53 3 = .ok (.istore_n 2, 1) := by decide +kernel
theorem dJ8_hugeLength_7cf53_4 : decode cJ8_hugeLength_7cf53 4 = .ok (.iload_n 2, 1) := by decide +kernel
theorem dJ8_hugeLength_7cf53_5 : decode cJ8_hugeLength_7cf53 5 = .ok (.ifCond .ge 44, 3) := by decide +kernel
theorem dJ8_hugeLength_7cf53_8 : decode cJ8_hugeLength_7cf53 8 = .ok (.new 204, 3) := by decide +kernel
theorem dJ8_hugeLength_7cf53_11 : decode cJ8_hugeLength_7cf53 11 = .ok (.dup, 1) := by decide +kernel
theorem dJ8_hugeLength_7cf53_12 : decode cJ8_hugeLength_7cf53 12 = .ok (.new 89, 3) := by decide +kernel
theorem dJ8_hugeLength_7cf53_15 : decode cJ8_hugeLength_7cf53 15 = .ok (.dup, 1) := by decide +kernel
theorem dJ8_hugeLength_7cf53_16 : decode cJ8_hugeLength_7cf53 16 = .ok (.invokespecial 91, 3) := by decide +kernel
theorem dJ8_hugeLength_7cf53_19 : decode cJ8_hugeLength_7cf53 19 = .ok (.ldc 206, 2) := by decide +kernel
theorem dJ8_hugeLength_7cf53_21 : decode cJ8_hugeLength_7cf53 21 = .ok (.invokevirtual 94, 3) := by decide +kernel
theorem dJ8_hugeLength_7cf53_24 : decode cJ8_hugeLength_7cf53 24 = .ok (.iload_n 0, 1) := by decide +kernel
theorem dJ8_hugeLength_7cf53_25 : decode cJ8_hugeLength_7cf53 25 = .ok (.invokevirtual 98, 3) := by decide +kernel
theorem dJ8_hugeLength_7cf53_28 : decode cJ8_hugeLength_7cf53 28 = .ok (.ldc 208, 2) := by decide +kernel
theorem dJ8_hugeLength_7cf53_30 : decode cJ8_hugeLength_7cf53 30 = .ok (.invokevirtual 94, 3) := by decide +kernel
theorem dJ8_hugeLength_7cf53_33 : decode cJ8_hugeLength_7cf53 33 = .ok (.iload_n 1, 1) := by decide +kernel
theorem dJ8_hugeLength_7cf53_34 : decode cJ8_hugeLength_7cf53 34 = .ok (.invokevirtual 98, 3) := by decide +kernel
theorem dJ8_hugeLength_7cf53_37 : decode cJ8_hugeLength_7cf53 37 = .ok (.ldc 210, 2) := by decide +kernel
theorem dJ8_hugeLength_7cf53_39 : decode cJ8_hugeLength_7cf53 39 = .ok (.invokevirtual 94, 3) := by decide +kernel
theorem dJ8_hugeLength_7cf53_42 : decode cJ8_hugeLength_7cf53 42 = .ok (.invokevirtual 101, 3) := by decide +kernel
theorem dJ8_hugeLength_7cf53_45 : decode cJ8_hugeLength_7cf53 45 = .ok (.invokespecial 212, 3) := by decide +kernel
theorem dJ8_hugeLength_7cf53_48 : decode cJ8_hugeLength_7cf53 48 = .ok (.athrow, 1) := by decide +kernel
theorem dJ8_hugeLength_7cf53_49 : decode cJ8_hugeLength_7cf53 49 = .ok (.iload_n 2, 1) := by decide +kernel
theorem dJ8_hugeLength_7cf53_50 : decode cJ8_hugeLength_7cf53 50 = .ok (.ldc 200, 2) := by decide +kernel
theorem dJ8_hugeLength_7cf53_52 : decode cJ8_hugeLength_7cf53 52 = .ok (.if_icmp .gt 6, 3) := by decide +kernel
theorem dJ8_hugeLength_7cf53_55 : decode cJ8_hugeLength_7cf53 55 = .ok (.ldc 200, 2) := by decide +kernel
theorem dJ8_hugeLength_7cf53_57 : decode cJ8_hugeLength_7cf53 57 = .ok (.ireturn, 1) := by decide +kernel
theorem dJ8_hugeLength_7cf53_58 : decode cJ8_hugeLength_7cf53 58 = .ok (.iload_n 2, 1) := by decide +kernel
theorem dJ8_hugeLength_7cf53_59 : decode cJ8_hugeLength_7cf53 59 = .ok (.ireturn, 1) := by decide +kernel
theorem dJ3_checkIndex_8e157_0 : decode cJ3_checkIndex_8e157 0 = .ok (.iload_n 0, 1) := by decide +kernel
theorem dJ3_checkIndex_8e157_1 : decode cJ3_checkIndex_8e157 1 = .ok (.ifCond .lt 8, 3) := by decide +kernel
theorem dJ3_checkIndex_8e157_4 : decode cJ3_checkIndex_8e157 4 = .ok (.iload_n 0, 1) := by decide +kernel
theorem dJ3_checkIndex_8e157_5 : decode cJ3_checkIndex_8e157 5 = .ok (.iload_n 1, 1) := by decide +kernel
theorem dJ3_checkIndex_8e157_6 : decode cJ3_checkIndex_8e157 6 = .ok (.if_icmp .lt 10, 3) := by decide +kernel
theorem dJ3_checkIndex_8e157_9 : decode cJ3_checkIndex_8e157 9 = .ok (.aload_n 2, 1) := by decide +kernel
theorem dJ3_checkIndex_8e157_10 : decode cJ3_checkIndex_8e157 10 = .ok (.iload_n 0, 1) := by decide +kernel
theorem dJ3_checkIndex_8e157_11 : decode cJ3_checkIndex_8e157 11 = .ok (.iload_n 1, 1) := by decide +kernel
theorem dJ3_checkIndex_8e157_12 : decode cJ3_checkIndex_8e157 12 = .ok (.invokestatic 95, 3) := by decide +kernel
theorem dJ3_checkIndex_8e157_15 : decode cJ3_checkIndex_8e157 15 = .ok (.athrow, 1) := by decide +kernel
theorem dJ3_checkIndex_8e157_16 : decode cJ3_checkIndex_8e157 16 = .ok (.iload_n 0, 1) := by decide +kernel
theorem dJ3_checkIndex_8e157_17 : decode cJ3_checkIndex_8e157 17 = .ok (.ireturn, 1) := by decide +kernel
theorem dJ3_checkFromToIndex_8c36e_0 : decode cJ3_checkFromToIndex_8c36e 0 = .ok (.iload_n 0, 1) := by decide +kernel
theorem dJ3_checkFromToIndex_8c36e_1 : decode cJ3_checkFromToIndex_8c36e 1 = .ok (.ifCond .lt 13, 3) := by decide +kernel
theorem dJ3_checkFromToIndex_8c36e_4 : decode cJ3_checkFromToIndex_8c36e 4 = .ok (.iload_n 0, 1) := by decide +kernel
theorem dJ3_checkFromToIndex_8c36e_5 : decode cJ3_checkFromToIndex_8c36e 5 = .ok (.iload_n 1, 1) := by decide +kernel
theorem dJ3_checkFromToIndex_8c36e_6 : decode cJ3_checkFromToIndex_8c36e 6 = .ok (.if_icmp .gt 8, 3) := by decide +kernel
theorem dJ3_checkFromToIndex_8c36e_9 : decode cJ3_checkFromToIndex_8c36e 9 = .ok (.iload_n 1, 1) := by decide +kernel
theorem dJ3_checkFromToIndex_8c36e_10 : decode cJ3_checkFromToIndex_8c36e 10 = .ok (.iload_n 2, 1) := by decide +kernel
theorem dJ3_checkFromToIndex_8c36e_11 : decode cJ3_checkFromToIndex_8c36e 11 = .ok (.if_icmp .le 11, 3) := by decide +kernel
theorem dJ3_checkFromToIndex_8c36e_14 : decode cJ3_checkFromToIndex_8c36e 14 = .ok (.aload_n 3, 1) := by decide +kernel
theorem dJ3_checkFromToIndex_8c36e_15 : decode cJ3_checkFromToIndex_8c36e 15 = .ok (.iload_n 0, 1) := by decide +kernel
theorem dJ3_checkFromToIndex_8c36e_16 : decode cJ3_checkFromToIndex_8c36e 16 = .ok (.iload_n 1, 1) := by decide +kernel
theorem dJ3_checkFromToIndex_8c36e_17 : decode cJ3_checkFromToIndex_8c36e 17 = .ok (.iload_n 2, 1) := by decide +kernel
theorem dJ3_checkFromToIndex_8c36e_18 : decode cJ3_checkFromToIndex_8c36e 18 = .ok (.invokestatic 99, 3) := by decide +kernel
theorem dJ3_checkFromToIndex_8c36e_21 : decode cJ3_checkFromToIndex_8c36e 21 = .ok (.athrow, 1) := by decide +kernel
theorem dJ3_checkFromToIndex_8c36e_22 : decode cJ3_checkFromToIndex_8c36e 22 = .ok (.iload_n 0, 1) := by decide +kernel
theorem dJ3_checkFromToIndex_8c36e_23 : decode cJ3_checkFromToIndex_8c36e 23 = .ok (.ireturn, 1) := by decide +kernel
theorem dJ3_checkFromIndexSize_8c36e_0 : decode cJ3_checkFromIndexSize_8c36e 0 = .ok (.iload_n 2, 1) := by decide +kernel
theorem dJ3_checkFromIndexSize_8c36e_1 : decode cJ3_checkFromIndexSize_8c36e 1 = .ok (.iload_n 0, 1) := by decide +kernel
theorem dJ3_checkFromIndexSize_8c36e_2 : decode cJ3_checkFromIndexSize_8c36e 2 = .ok (.ior, 1) := by decide +kernel
theorem dJ3_checkFromIndexSize_8c36e_3 : decode cJ3_checkFromIndexSize_8c36e 3 = .ok (.iload_n 1, 1) := by decide +kernel
theorem dJ3_checkFromIndexSize_8c36e_4 : decode cJ3_checkFromIndexSize_8c36e 4 = .ok (.ior, 1) := by decide +kernel
theorem dJ3_checkFromIndexSize_8c36e_5 : decode cJ3_checkFromIndexSize_8c36e 5 = .ok (.ifCond .lt 10, 3) := by decide +kernel
theorem dJ3_checkFromIndexSize_8c36e_8 : decode cJ3_checkFromIndexSize_8c36e 8 = .ok (.iload_n 1, 1) := by decide +kernel
theorem dJ3_checkFromIndexSize_8c36e_9 : decode cJ3_checkFromIndexSize_8c36e 9 = .ok (.iload_n 2, 1) := by decide +kernel
theorem dJ3_checkFromIndexSize_8c36e_10 : decode cJ3_checkFromIndexSize_8c36e 10 = .ok (.iload_n 0, 1) := by decide +kernel
theorem dJ3_checkFromIndexSize_8c36e_11 : decode cJ3_checkFromIndexSize_8c36e 11 = .ok (.isub, 1) := by decide +kernel
theorem dJ3_checkFromIndexSize_8c36e_12 : decode cJ3_checkFromIndexSize_8c36e 12 = .ok (.if_icmp .le 11, 3) := by decide +kernel
theorem dJ3_checkFromIndexSize_8c36e_15 : decode cJ3_checkFromIndexSize_8c36e 15 = .ok (.aload_n 3, 1) := by decide +kernel
theorem dJ3_checkFromIndexSize_8c36e_16 : decode cJ3_checkFromIndexSize_8c36e 16 = .ok (.iload_n 0, 1) := by decide +kernel
theorem dJ3_checkFromIndexSize_8c36e_17 : decode cJ3_checkFromIndexSize_8c36e 17 = .ok (.iload_n 1, 1) := by decide +kernel
theorem dJ3_checkFromIndexSize_8c36e_18 : decode cJ3_checkFromIndexSize_8c36e 18 = .ok (.iload_n 2, 1) := by decide +kernel
theorem dJ3_checkFromIndexSize_8c36e_19 : decode cJ3_checkFromIndexSize_8c36e 19 = .ok (.invokestatic 103, 3) := by decide +kernel
theorem dJ3_checkFromIndexSize_8c36e_22 : decode cJ3_checkFromIndexSize_8c36e 22 = .ok (.athrow, 1) := by decide +kernel
theorem dJ3_checkFromIndexSize_8c36e_23 : decode cJ3_checkFromIndexSize_8c36e 23 = .ok (.iload_n 0, 1) := by decide +kernel
theorem dJ3_checkFromIndexSize_8c36e_24 : decode cJ3_checkFromIndexSize_8c36e 24 = .ok (.ireturn, 1) := by decide +kernel
theorem dL_at_0 : decode cL_at 0 = .ok (.iload_n 1, 1) := by decide +kernel
theorem dL_at_1 : decode cL_at 1 = .ok (.aload_n 0, 1) := by decide +kernel
theorem dL_at_2 : decode cL_at 2 = .ok (.arraylength, 1) := by decide +kernel
theorem dL_at_3 : decode cL_at 3 = .ok (.if_icmp .ge 9, 3) := by decide +kernel
theorem dL_at_6 : decode cL_at 6 = .ok (.aload_n 0, 1) := by decide +kernel
theorem dL_at_7 : decode cL_at 7 = .ok (.iload_n 1, 1) := by decide +kernel
theorem dL_at_8 : decode cL_at 8 = .ok (.iaload, 1) := by decide +kernel
theorem dL_at_9 : decode cL_at 9 = .ok (.goto 4, 3) := by decide +kernel
theorem dL_at_12 : decode cL_at 12 = .ok (.iconst 0, 1) := by decide +kernel
theorem dL_at_13 : decode cL_at 13 = .ok (.ireturn, 1) := by decide +kernel
theorem dL_some_0 : decode cL_some 0 = .ok (.iload_n 0, 1) := by decide +kernel
theorem dL_some_1 : decode cL_some 1 = .ok (.iload_n 1, 1) := by decide +kernel
theorem dL_some_2 : decode cL_some 2 = .ok (.irem, 1) := by decide +kernel
theorem dL_some_3 : decode cL_some 3 = .ok (.istore_n 2, 1) := by decide +kernel
theorem dL_some_4 : decode cL_some 4 = .ok (.iload_n 2, 1) := by decide +kernel
theorem dL_some_5 : decode cL_some 5 = .ok (.ifCond .ge 9, 3) := by decide +kernel
theorem dL_some_8 : decode cL_some 8 = .ok (.iload_n 2, 1) := by decide +kernel
theorem dL_some_9 : decode cL_some 9 = .ok (.iload_n 1, 1) := by decide +kernel
theorem dL_some_10 : decode cL_some 10 = .ok (.iadd, 1) := by decide +kernel
theorem dL_some_11 : decode cL_some 11 = .ok (.goto 4, 3) := by decide +kernel
theorem dL_some_14 : decode cL_some 14 = .ok (.iload_n 2, 1) := by decide +kernel
theorem dL_some_15 : decode cL_some 15 = .ok (.ireturn, 1) := by decide +kernel
theorem dL_reads_0 : decode cL_reads 0 = .ok (.iconst 0, 1) := by decide +kernel
theorem dL_reads_1 : decode cL_reads 1 = .ok (.istore_n 2, 1) := by decide +kernel
theorem dL_reads_2 : decode cL_reads 2 = .ok (.iload_n 2, 1) := by decide +kernel
theorem dL_reads_3 : decode cL_reads 3 = .ok (.aload_n 1, 1) := by decide +kernel
theorem dL_reads_4 : decode cL_reads 4 = .ok (.invokevirtual 7, 3) := by decide +kernel
theorem dL_reads_7 : decode cL_reads 7 = .ok (.if_icmp .ge 28, 3) := by decide +kernel
theorem dL_reads_10 : decode cL_reads 10 = .ok (.aload_n 0, 1) := by decide +kernel
theorem dL_reads_11 : decode cL_reads 11 = .ok (.aload_n 1, 1) := by decide +kernel
theorem dL_reads_12 : decode cL_reads 12 = .ok (.iload_n 2, 1) := by decide +kernel
theorem dL_reads_13 : decode cL_reads 13 = .ok (.invokevirtual 13, 3) := by decide +kernel
theorem dL_reads_16 : decode cL_reads 16 = .ok (.invokevirtual 17, 3) := by decide +kernel
theorem dL_reads_19 : decode cL_reads 19 = .ok (.iload_n 2, 1) := by decide +kernel
theorem dL_reads_20 : decode cL_reads 20 = .ok (.iconst 1, 1) := by decide +kernel
theorem dL_reads_21 : decode cL_reads 21 = .ok (.iadd, 1) := by decide +kernel
theorem dL_reads_22 : decode cL_reads 22 = .ok (.if_icmp .eq 7, 3) := by decide +kernel
theorem dL_reads_25 : decode cL_reads 25 = .ok (.sipush (-9999), 3) := by decide +kernel
theorem dL_reads_28 : decode cL_reads 28 = .ok (.ireturn, 1) := by decide +kernel
theorem dL_reads_29 : decode cL_reads 29 = .ok (.iinc 2 1, 3) := by decide +kernel
theorem dL_reads_32 : decode cL_reads 32 = .ok (.goto (-30), 3) := by decide +kernel
theorem dL_reads_35 : decode cL_reads 35 = .ok (.aload_n 0, 1) := by decide +kernel
theorem dL_reads_36 : decode cL_reads 36 = .ok (.invokevirtual 23, 3) := by decide +kernel
theorem dL_reads_39 : decode cL_reads 39 = .ok (.ireturn, 1) := by decide +kernel
theorem dL_are_0 : decode cL_are 0 = .ok (.iconst 0, 1) := by decide +kernel
theorem dL_are_1 : decode cL_are 1 = .ok (.istore_n 2, 1) := by decide +kernel
theorem dL_are_2 : decode cL_are 2 = .ok (.iload_n 2, 1) := by decide +kernel
theorem dL_are_3 : decode cL_are 3 = .ok (.aload_n 1, 1) := by decide +kernel
theorem dL_are_4 : decode cL_are 4 = .ok (.arraylength, 1) := by decide +kernel
theorem dL_are_5 : decode cL_are 5 = .ok (.iconst 2, 1) := by decide +kernel
theorem dL_are_6 : decode cL_are 6 = .ok (.idiv, 1) := by decide +kernel
theorem dL_are_7 : decode cL_are 7 = .ok (.if_icmp .ge 41, 3) := by decide +kernel
theorem dL_are_10 : decode cL_are 10 = .ok (.aload_n 0, 1) := by decide +kernel
theorem dL_are_11 : decode cL_are 11 = .ok (.iload_n 2, 1) := by decide +kernel
theorem dL_are_12 : decode cL_are 12 = .ok (.iconst 0, 1) := by decide +kernel
theorem dL_are_13 : decode cL_are 13 = .ok (.invokevirtual 26, 3) := by decide +kernel
theorem dL_are_16 : decode cL_are 16 = .ok (.aload_n 1, 1) := by decide +kernel
theorem dL_are_17 : decode cL_are 17 = .ok (.iconst 2, 1) := by decide +kernel
theorem dL_are_18 : decode cL_are 18 = .ok (.iload_n 2, 1) := by decide +kernel
theorem dL_are_19 : decode cL_are 19 = .ok (.imul, 1) := by decide +kernel
theorem dL_are_20 : decode cL_are 20 = .ok (.iaload, 1) := by decide +kernel
theorem dL_are_21 : decode cL_are 21 = .ok (.if_icmp .ne 19, 3) := by decide +kernel
theorem dL_are_24 : decode cL_are 24 = .ok (.aload_n 0, 1) := by decide +kernel
theorem dL_are_25 : decode cL_are 25 = .ok (.iload_n 2, 1) := by decide +kernel
theorem dL_are_26 : decode cL_are 26 = .ok (.iconst 1, 1) := by decide +kernel
theorem dL_are_27 : decode cL_are 27 = .ok (.invokevirtual 26, 3) := by decide +kernel
theorem dL_are_30 : decode cL_are 30 = .ok (.aload_n 1, 1) := by decide +kernel
theorem dL_are_31 : decode cL_are 31 = .ok (.iconst 2, 1) := by decide +kernel
theorem dL_are_32 : decode cL_are 32 = .ok (.iload_n 2, 1) := by decide +kernel
theorem dL_are_33 : decode cL_are 33 = .ok (.imul, 1) := by decide +kernel
theorem dL_are_34 : decode cL_are 34 = .ok (.iconst 1, 1) := by decide +kernel
theorem dL_are_35 : decode cL_are 35 = .ok (.iadd, 1) := by decide +kernel
theorem dL_are_36 : decode cL_are 36 = .ok (.iaload, 1) := by decide +kernel
theorem dL_are_37 : decode cL_are 37 = .ok (.if_icmp .eq 5, 3) := by decide +kernel
theorem dL_are_40 : decode cL_are 40 = .ok (.iconst 0, 1) := by decide +kernel
theorem dL_are_41 : decode cL_are 41 = .ok (.ireturn, 1) := by decide +kernel
theorem dL_are_42 : decode cL_are 42 = .ok (.iinc 2 1, 3) := by decide +kernel
theorem dL_are_45 : decode cL_are 45 = .ok (.goto (-43), 3) := by decide +kernel
theorem dL_are_48 : decode cL_are 48 = .ok (.aload_n 0, 1) := by decide +kernel
theorem dL_are_49 : decode cL_are 49 = .ok (.aload_n 1, 1) := by decide +kernel
theorem dL_are_50 : decode cL_are 50 = .ok (.arraylength, 1) := by decide +kernel
theorem dL_are_51 : decode cL_are 51 = .ok (.iconst 2, 1) := by decide +kernel
theorem dL_are_52 : decode cL_are 52 = .ok (.idiv, 1) := by decide +kernel
theorem dL_are_53 : decode cL_are 53 = .ok (.iconst 0, 1) := by decide +kernel
theorem dL_are_54 : decode cL_are 54 = .ok (.invokevirtual 26, 3) := by decide +kernel
theorem dL_are_57 : decode cL_are 57 = .ok (.bipush (-4), 2) := by decide +kernel
theorem dL_are_59 : decode cL_are 59 = .ok (.if_icmp .ne 18, 3) := by decide +kernel
theorem dL_are_62 : decode cL_are 62 = .ok (.aload_n 0, 1) := by decide +kernel
theorem dL_are_63 : decode cL_are 63 = .ok (.iconst (-1), 1) := by decide +kernel
theorem dL_are_64 : decode cL_are 64 = .ok (.iconst 1, 1) := by decide +kernel
theorem dL_are_65 : decode cL_are 65 = .ok (.invokevirtual 26, 3) := by decide +kernel
theorem dL_are_68 : decode cL_are 68 = .ok (.bipush (-2), 2) := by decide +kernel
theorem dL_are_70 : decode cL_are 70 = .ok (.if_icmp .ne 7, 3) := by decide +kernel
theorem dL_are_73 : decode cL_are 73 = .ok (.iconst 1, 1) := by decide +kernel
theorem dL_are_74 : decode cL_are 74 = .ok (.goto 4, 3) := by decide +kernel
theorem dL_are_77 : decode cL_are 77 = .ok (.iconst 0, 1) := by decide +kernel
theorem dL_are_78 : decode cL_are 78 = .ok (.ireturn, 1) := by decide +kernel
theorem dL_isLine_0 : decode cL_isLine 0 = .ok (.aload_n 0, 1) := by decide +kernel
theorem dL_isLine_1 : decode cL_isLine 1 = .ok (.iload_n 1, 1) := by decide +kernel
theorem dL_isLine_2 : decode cL_isLine 2 = .ok (.invokevirtual 30, 3) := by decide +kernel
theorem dL_isLine_5 : decode cL_isLine 5 = .ok (.aload_n 2, 1) := by decide +kernel
theorem dL_isLine_6 : decode cL_isLine 6 = .ok (.invokevirtual 7, 3) := by decide +kernel
theorem dL_isLine_9 : decode cL_isLine 9 = .ok (.if_icmp .eq 5, 3) := by decide +kernel
theorem dL_isLine_12 : decode cL_isLine 12 = .ok (.iconst 0, 1) := by decide +kernel
theorem dL_isLine_13 : decode cL_isLine 13 = .ok (.ireturn, 1) := by decide +kernel
theorem dL_isLine_14 : decode cL_isLine 14 = .ok (.iconst 0, 1) := by decide +kernel
theorem dL_isLine_15 : decode cL_isLine 15 = .ok (.istore_n 3, 1) := by decide +kernel
theorem dL_isLine_16 : decode cL_isLine 16 = .ok (.iload_n 3, 1) := by decide +kernel
theorem dL_isLine_17 : decode cL_isLine 17 = .ok (.aload_n 2, 1) := by decide +kernel
theorem dL_isLine_18 : decode cL_isLine 18 = .ok (.invokevirtual 7, 3) := by decide +kernel
theorem dL_isLine_21 : decode cL_isLine 21 = .ok (.if_icmp .ge 24, 3) := by decide +kernel
theorem dL_isLine_24 : decode cL_isLine 24 = .ok (.aload_n 0, 1) := by decide +kernel
theorem dL_isLine_25 : decode cL_isLine 25 = .ok (.iload_n 3, 1) := by decide +kernel
theorem dL_isLine_26 : decode cL_isLine 26 = .ok (.invokevirtual 34, 3) := by decide +kernel
theorem dL_isLine_29 : decode cL_isLine 29 = .ok (.aload_n 2, 1) := by decide +kernel
theorem dL_isLine_30 : decode cL_isLine 30 = .ok (.iload_n 3, 1) := by decide +kernel
theorem dL_isLine_31 : decode cL_isLine 31 = .ok (.invokevirtual 13, 3) := by decide +kernel
theorem dL_isLine_34 : decode cL_isLine 34 = .ok (.if_icmp .eq 5, 3) := by decide +kernel
theorem dL_isLine_37 : decode cL_isLine 37 = .ok (.iconst 0, 1) := by decide +kernel
theorem dL_isLine_38 : decode cL_isLine 38 = .ok (.ireturn, 1) := by decide +kernel
theorem dL_isLine_39 : decode cL_isLine 39 = .ok (.iinc 3 1, 3) := by decide +kernel
theorem dL_isLine_42 : decode cL_isLine 42 = .ok (.goto (-26), 3) := by decide +kernel
theorem dL_isLine_45 : decode cL_isLine 45 = .ok (.aload_n 0, 1) := by decide +kernel
theorem dL_isLine_46 : decode cL_isLine 46 = .ok (.aload_n 2, 1) := by decide +kernel
theorem dL_isLine_47 : decode cL_isLine 47 = .ok (.invokevirtual 7, 3) := by decide +kernel
theorem dL_isLine_50 : decode cL_isLine 50 = .ok (.invokevirtual 34, 3) := by decide +kernel
theorem dL_isLine_53 : decode cL_isLine 53 = .ok (.iconst (-1), 1) := by decide +kernel
theorem dL_isLine_54 : decode cL_isLine 54 = .ok (.if_icmp .ne 7, 3) := by decide +kernel
theorem dL_isLine_57 : decode cL_isLine 57 = .ok (.iconst 1, 1) := by decide +kernel
theorem dL_isLine_58 : decode cL_isLine 58 = .ok (.goto 4, 3) := by decide +kernel
theorem dL_isLine_61 : decode cL_isLine 61 = .ok (.iconst 0, 1) := by decide +kernel
theorem dL_isLine_62 : decode cL_isLine 62 = .ok (.ireturn, 1) := by decide +kernel
theorem dL_makes_0 : decode cL_makes 0 = .ok (.iconst 0, 1) := by decide +kernel
theorem dL_makes_1 : decode cL_makes 1 = .ok (.istore_n 2, 1) := by decide +kernel
theorem dL_makes_2 : decode cL_makes 2 = .ok (.iload_n 2, 1) := by decide +kernel
theorem dL_makes_3 : decode cL_makes 3 = .ok (.iconst 3, 1) := by decide +kernel
theorem dL_makes_4 : decode cL_makes 4 = .ok (.if_icmp .ge 50, 3) := by decide +kernel
theorem dL_makes_7 : decode cL_makes 7 = .ok (.bipush 10, 2) := by decide +kernel
theorem dL_makes_9 : decode cL_makes 9 = .ok (.iload_n 2, 1) := by decide +kernel
theorem dL_makes_10 : decode cL_makes 10 = .ok (.imul, 1) := by decide +kernel
theorem dL_makes_11 : decode cL_makes 11 = .ok (.aload_n 1, 1) := by decide +kernel
theorem dL_makes_12 : decode cL_makes 12 = .ok (.iload_n 2, 1) := by decide +kernel
theorem dL_makes_13 : decode cL_makes 13 = .ok (.invokestatic 37, 3) := by decide +kernel
theorem dL_makes_16 : decode cL_makes 16 = .ok (.iconst 4, 1) := by decide +kernel
theorem dL_makes_17 : decode cL_makes 17 = .ok (.invokestatic 43, 3) := by decide +kernel
theorem dL_makes_20 : decode cL_makes 20 = .ok (.iadd, 1) := by decide +kernel
theorem dL_makes_21 : decode cL_makes 21 = .ok (.istore_n 3, 1) := by decide +kernel
theorem dL_makes_22 : decode cL_makes 22 = .ok (.aload_n 0, 1) := by decide +kernel
theorem dL_makes_23 : decode cL_makes 23 = .ok (.iload_n 3, 1) := by decide +kernel
theorem dL_makes_24 : decode cL_makes 24 = .ok (.iload_n 3, 1) := by decide +kernel
theorem dL_makes_25 : decode cL_makes 25 = .ok (.iconst 2, 1) := by decide +kernel
theorem dL_makes_26 : decode cL_makes 26 = .ok (.iadd, 1) := by decide +kernel
theorem dL_makes_27 : decode cL_makes 27 = .ok (.aload_n 1, 1) := by decide +kernel
theorem dL_makes_28 : decode cL_makes 28 = .ok (.iload_n 2, 1) := by decide +kernel
theorem dL_makes_29 : decode cL_makes 29 = .ok (.invokestatic 37, 3) := by decide +kernel
theorem dL_makes_32 : decode cL_makes 32 = .ok (.iconst 4, 1) := by decide +kernel
theorem dL_makes_33 : decode cL_makes 33 = .ok (.ishr, 1) := by decide +kernel
theorem dL_makes_34 : decode cL_makes 34 = .ok (.iconst 5, 1) := by decide +kernel
theorem dL_makes_35 : decode cL_makes 35 = .ok (.invokestatic 43, 3) := by decide +kernel
theorem dL_makes_38 : decode cL_makes 38 = .ok (.iadd, 1) := by decide +kernel
theorem dL_makes_39 : decode cL_makes 39 = .ok (.invokevirtual 47, 3) := by decide +kernel
theorem dL_makes_42 : decode cL_makes 42 = .ok (.iload_n 2, 1) := by decide +kernel
theorem dL_makes_43 : decode cL_makes 43 = .ok (.if_icmp .eq 5, 3) := by decide +kernel
theorem dL_makes_46 : decode cL_makes 46 = .ok (.iconst 0, 1) := by decide +kernel
theorem dL_makes_47 : decode cL_makes 47 = .ok (.ireturn, 1) := by decide +kernel
theorem dL_makes_48 : decode cL_makes 48 = .ok (.iinc 2 1, 3) := by decide +kernel
theorem dL_makes_51 : decode cL_makes 51 = .ok (.goto (-49), 3) := by decide +kernel
theorem dL_makes_54 : decode cL_makes 54 = .ok (.iconst 0, 1) := by decide +kernel
theorem dL_makes_55 : decode cL_makes 55 = .ok (.istore_n 2, 1) := by decide +kernel
theorem dL_makes_56 : decode cL_makes 56 = .ok (.iload_n 2, 1) := by decide +kernel
theorem dL_makes_57 : decode cL_makes 57 = .ok (.bipush 16, 2) := by decide +kernel
theorem dL_makes_59 : decode cL_makes 59 = .ok (.if_icmp .ge 34, 3) := by decide +kernel
theorem dL_makes_62 : decode cL_makes 62 = .ok (.aload_n 0, 1) := by decide +kernel
theorem dL_makes_63 : decode cL_makes 63 = .ok (.iload_n 2, 1) := by decide +kernel
theorem dL_makes_64 : decode cL_makes 64 = .ok (.iconst 2, 1) := by decide +kernel
theorem dL_makes_65 : decode cL_makes 65 = .ok (.irem, 1) := by decide +kernel
theorem dL_makes_66 : decode cL_makes 66 = .ok (.aload_n 1, 1) := by decide +kernel
theorem dL_makes_67 : decode cL_makes 67 = .ok (.iconst 3, 1) := by decide +kernel
theorem dL_makes_68 : decode cL_makes 68 = .ok (.iload_n 2, 1) := by decide +kernel
theorem dL_makes_69 : decode cL_makes 69 = .ok (.iadd, 1) := by decide +kernel
theorem dL_makes_70 : decode cL_makes 70 = .ok (.invokestatic 37, 3) := by decide +kernel
theorem dL_makes_73 : decode cL_makes 73 = .ok (.bipush 10, 2) := by decide +kernel
theorem dL_makes_75 : decode cL_makes 75 = .ok (.invokestatic 43, 3) := by decide +kernel
theorem dL_makes_78 : decode cL_makes 78 = .ok (.invokevirtual 50, 3) := by decide +kernel
theorem dL_makes_81 : decode cL_makes 81 = .ok (.iload_n 2, 1) := by decide +kernel
theorem dL_makes_82 : decode cL_makes 82 = .ok (.if_icmp .eq 5, 3) := by decide +kernel
theorem dL_makes_85 : decode cL_makes 85 = .ok (.iconst 0, 1) := by decide +kernel
theorem dL_makes_86 : decode cL_makes 86 = .ok (.ireturn, 1) := by decide +kernel
theorem dL_makes_87 : decode cL_makes 87 = .ok (.iinc 2 1, 3) := by decide +kernel
theorem dL_makes_90 : decode cL_makes 90 = .ok (.goto (-34), 3) := by decide +kernel
theorem dL_makes_93 : decode cL_makes 93 = .ok (.aload_n 0, 1) := by decide +kernel
theorem dL_makes_94 : decode cL_makes 94 = .ok (.aload_n 1, 1) := by decide +kernel
theorem dL_makes_95 : decode cL_makes 95 = .ok (.bipush 19, 2) := by decide +kernel
theorem dL_makes_97 : decode cL_makes 97 = .ok (.invokestatic 37, 3) := by decide +kernel
theorem dL_makes_100 : decode cL_makes 100 = .ok (.iconst 4, 1) := by decide +kernel
theorem dL_makes_101 : decode cL_makes 101 = .ok (.invokestatic 43, 3) := by decide +kernel
theorem dL_makes_104 : decode cL_makes 104 = .ok (.invokevirtual 53, 3) := by decide +kernel
theorem dL_makes_107 : decode cL_makes 107 = .ok (.iconst 1, 1) := by decide +kernel
theorem dL_makes_108 : decode cL_makes 108 = .ok (.if_icmp .ne 44, 3) := by decide +kernel
theorem dL_makes_111 : decode cL_makes 111 = .ok (.aload_n 0, 1) := by decide +kernel
theorem dL_makes_112 : decode cL_makes 112 = .ok (.aload_n 1, 1) := by decide +kernel
theorem dL_makes_113 : decode cL_makes 113 = .ok (.bipush 20, 2) := by decide +kernel
theorem dL_makes_115 : decode cL_makes 115 = .ok (.invokestatic 37, 3) := by decide +kernel
theorem dL_makes_118 : decode cL_makes 118 = .ok (.iconst 4, 1) := by decide +kernel
theorem dL_makes_119 : decode cL_makes 119 = .ok (.invokestatic 43, 3) := by decide +kernel
theorem dL_makes_122 : decode cL_makes 122 = .ok (.invokevirtual 56, 3) := by decide +kernel
theorem dL_makes_125 : decode cL_makes 125 = .ok (.iconst 2, 1) := by decide +kernel
theorem dL_makes_126 : decode cL_makes 126 = .ok (.if_icmp .ne 26, 3) := by decide +kernel
theorem dL_makes_129 : decode cL_makes 129 = .ok (.aload_n 0, 1) := by decide +kernel
theorem dL_makes_130 : decode cL_makes 130 = .ok (.iconst 1, 1) := by decide +kernel
theorem dL_makes_131 : decode cL_makes 131 = .ok (.aload_n 1, 1) := by decide +kernel
theorem dL_makes_132 : decode cL_makes 132 = .ok (.bipush 21, 2) := by decide +kernel
theorem dL_makes_134 : decode cL_makes 134 = .ok (.invokestatic 37, 3) := by decide +kernel
theorem dL_makes_137 : decode cL_makes 137 = .ok (.iconst 5, 1) := by decide +kernel
theorem dL_makes_138 : decode cL_makes 138 = .ok (.invokestatic 43, 3) := by decide +kernel
theorem dL_makes_141 : decode cL_makes 141 = .ok (.iadd, 1) := by decide +kernel
theorem dL_makes_142 : decode cL_makes 142 = .ok (.invokevirtual 59, 3) := by decide +kernel
theorem dL_makes_145 : decode cL_makes 145 = .ok (.ifCond .lt 7, 3) := by decide +kernel
theorem dL_makes_148 : decode cL_makes 148 = .ok (.iconst 1, 1) := by decide +kernel
theorem dL_makes_149 : decode cL_makes 149 = .ok (.goto 4, 3) := by decide +kernel
theorem dL_makes_152 : decode cL_makes 152 = .ok (.iconst 0, 1) := by decide +kernel
theorem dL_makes_153 : decode cL_makes 153 = .ok (.ireturn, 1) := by decide +kernel
theorem dL_asks_0 : decode cL_asks 0 = .ok (.ldc2_w 62, 3) := by decide +kernel
theorem dL_asks_3 : decode cL_asks 3 = .ok (.aload_n 0, 1) := by decide +kernel
theorem dL_asks_4 : decode cL_asks 4 = .ok (.invokevirtual 64, 3) := by decide +kernel
theorem dL_asks_7 : decode cL_asks 7 = .ok (.invokestatic 68, 3) := by decide +kernel
theorem dL_asks_10 : decode cL_asks 10 = .ok (.lmul, 1) := by decide +kernel
theorem dL_asks_11 : decode cL_asks 11 = .ok (.aload_n 0, 1) := by decide +kernel
theorem dL_asks_12 : decode cL_asks 12 = .ok (.invokevirtual 74, 3) := by decide +kernel
theorem dL_asks_15 : decode cL_asks 15 = .ok (.invokestatic 78, 3) := by decide +kernel
theorem dL_asks_18 : decode cL_asks 18 = .ok (.i2l, 1) := by decide +kernel
theorem dL_asks_19 : decode cL_asks 19 = .ok (.ladd, 1) := by decide +kernel
theorem dL_asks_20 : decode cL_asks 20 = .ok (.lstore_n 1, 1) := by decide +kernel
theorem dL_asks_21 : decode cL_asks 21 = .ok (.iconst 0, 1) := by decide +kernel
theorem dL_asks_22 : decode cL_asks 22 = .ok (.istore_n 3, 1) := by decide +kernel
theorem dL_asks_23 : decode cL_asks 23 = .ok (.iload_n 3, 1) := by decide +kernel
theorem dL_asks_24 : decode cL_asks 24 = .ok (.bipush 13, 2) := by decide +kernel
theorem dL_asks_26 : decode cL_asks 26 = .ok (.if_icmp .ge 22, 3) := by decide +kernel
theorem dL_asks_29 : decode cL_asks 29 = .ok (.ldc2_w 62, 3) := by decide +kernel
theorem dL_asks_32 : decode cL_asks 32 = .ok (.lload_n 1, 1) := by decide +kernel
theorem dL_asks_33 : decode cL_asks 33 = .ok (.lmul, 1) := by decide +kernel
theorem dL_asks_34 : decode cL_asks 34 = .ok (.aload_n 0, 1) := by decide +kernel
theorem dL_asks_35 : decode cL_asks 35 = .ok (.iload_n 3, 1) := by decide +kernel
theorem dL_asks_36 : decode cL_asks 36 = .ok (.invokevirtual 84, 3) := by decide +kernel
theorem dL_asks_39 : decode cL_asks 39 = .ok (.i2l, 1) := by decide +kernel
theorem dL_asks_40 : decode cL_asks 40 = .ok (.ladd, 1) := by decide +kernel
theorem dL_asks_41 : decode cL_asks 41 = .ok (.lstore_n 1, 1) := by decide +kernel
theorem dL_asks_42 : decode cL_asks 42 = .ok (.iinc 3 1, 3) := by decide +kernel
theorem dL_asks_45 : decode cL_asks 45 = .ok (.goto (-22), 3) := by decide +kernel
theorem dL_asks_48 : decode cL_asks 48 = .ok (.iconst 0, 1) := by decide +kernel
theorem dL_asks_49 : decode cL_asks 49 = .ok (.istore_n 3, 1) := by decide +kernel
theorem dL_asks_50 : decode cL_asks 50 = .ok (.iload_n 3, 1) := by decide +kernel
theorem dL_asks_51 : decode cL_asks 51 = .ok (.aload_n 0, 1) := by decide +kernel
theorem dL_asks_52 : decode cL_asks 52 = .ok (.iconst 3, 1) := by decide +kernel
theorem dL_asks_53 : decode cL_asks 53 = .ok (.invokevirtual 84, 3) := by decide +kernel
theorem dL_asks_56 : decode cL_asks 56 = .ok (.if_icmp .ge 214, 3) := by decide +kernel
theorem dL_asks_59 : decode cL_asks 59 = .ok (.iconst 0, 1) := by decide +kernel
theorem dL_asks_60 : decode cL_asks 60 = .ok (.istore 4, 2) := by decide +kernel
theorem dL_asks_62 : decode cL_asks 62 = .ok (.iload 4, 2) := by decide +kernel
theorem dL_asks_64 : decode cL_asks 64 = .ok (.bipush 9, 2) := by decide +kernel
theorem dL_asks_66 : decode cL_asks 66 = .ok (.if_icmp .ge 24, 3) := by decide +kernel
theorem dL_asks_69 : decode cL_asks 69 = .ok (.ldc2_w 62, 3) := by decide +kernel
theorem dL_asks_72 : decode cL_asks 72 = .ok (.lload_n 1, 1) := by decide +kernel
theorem dL_asks_73 : decode cL_asks 73 = .ok (.lmul, 1) := by decide +kernel
theorem dL_asks_74 : decode cL_asks 74 = .ok (.aload_n 0, 1) := by decide +kernel
theorem dL_asks_75 : decode cL_asks 75 = .ok (.iload_n 3, 1) := by decide +kernel
theorem dL_asks_76 : decode cL_asks 76 = .ok (.iload 4, 2) := by decide +kernel
theorem dL_asks_78 : decode cL_asks 78 = .ok (.invokevirtual 87, 3) := by decide +kernel
theorem dL_asks_81 : decode cL_asks 81 = .ok (.i2l, 1) := by decide +kernel
theorem dL_asks_82 : decode cL_asks 82 = .ok (.ladd, 1) := by decide +kernel
theorem dL_asks_83 : decode cL_asks 83 = .ok (.lstore_n 1, 1) := by decide +kernel
theorem dL_asks_84 : decode cL_asks 84 = .ok (.iinc 4 1, 3) := by decide +kernel
theorem dL_asks_87 : decode cL_asks 87 = .ok (.goto (-25), 3) := by decide +kernel
theorem dL_asks_90 : decode cL_asks 90 = .ok (.aload_n 0, 1) := by decide +kernel
theorem dL_asks_91 : decode cL_asks 91 = .ok (.iload_n 3, 1) := by decide +kernel
theorem dL_asks_92 : decode cL_asks 92 = .ok (.iconst 0, 1) := by decide +kernel
theorem dL_asks_93 : decode cL_asks 93 = .ok (.invokevirtual 87, 3) := by decide +kernel
theorem dL_asks_96 : decode cL_asks 96 = .ok (.iconst 1, 1) := by decide +kernel
theorem dL_asks_97 : decode cL_asks 97 = .ok (.iadd, 1) := by decide +kernel
theorem dL_asks_98 : decode cL_asks 98 = .ok (.istore 4, 2) := by decide +kernel
theorem dL_asks_100 : decode cL_asks 100 = .ok (.iconst 0, 1) := by decide +kernel
theorem dL_asks_101 : decode cL_asks 101 = .ok (.istore 5, 2) := by decide +kernel
theorem dL_asks_103 : decode cL_asks 103 = .ok (.iload 5, 2) := by decide +kernel
theorem dL_asks_105 : decode cL_asks 105 = .ok (.iconst 2, 1) := by decide +kernel
theorem dL_asks_106 : decode cL_asks 106 = .ok (.if_icmp .ge 58, 3) := by decide +kernel
theorem dL_asks_109 : decode cL_asks 109 = .ok (.ldc2_w 62, 3) := by decide +kernel
theorem dL_asks_112 : decode cL_asks 112 = .ok (.ldc2_w 62, 3) := by decide +kernel
theorem dL_asks_115 : decode cL_asks 115 = .ok (.ldc2_w 62, 3) := by decide +kernel
theorem dL_asks_118 : decode cL_asks 118 = .ok (.lload_n 1, 1) := by decide +kernel
theorem dL_asks_119 : decode cL_asks 119 = .ok (.lmul, 1) := by decide +kernel
theorem dL_asks_120 : decode cL_asks 120 = .ok (.aload_n 0, 1) := by decide +kernel
theorem dL_asks_121 : decode cL_asks 121 = .ok (.iload_n 3, 1) := by decide +kernel
theorem dL_asks_122 : decode cL_asks 122 = .ok (.iload 5, 2) := by decide +kernel
theorem dL_asks_124 : decode cL_asks 124 = .ok (.invokevirtual 90, 3) := by decide +kernel
theorem dL_asks_127 : decode cL_asks 127 = .ok (.i2l, 1) := by decide +kernel
theorem dL_asks_128 : decode cL_asks 128 = .ok (.ladd, 1) := by decide +kernel
theorem dL_asks_129 : decode cL_asks 129 = .ok (.lmul, 1) := by decide +kernel
theorem dL_asks_130 : decode cL_asks 130 = .ok (.aload_n 0, 1) := by decide +kernel
theorem dL_asks_131 : decode cL_asks 131 = .ok (.iload_n 3, 1) := by decide +kernel
theorem dL_asks_132 : decode cL_asks 132 = .ok (.iload 5, 2) := by decide +kernel
theorem dL_asks_134 : decode cL_asks 134 = .ok (.iload 4, 2) := by decide +kernel
theorem dL_asks_136 : decode cL_asks 136 = .ok (.bipush 13, 2) := by decide +kernel
theorem dL_asks_138 : decode cL_asks 138 = .ok (.iconst 1, 1) := by decide +kernel
theorem dL_asks_139 : decode cL_asks 139 = .ok (.invokevirtual 93, 3) := by decide +kernel
theorem dL_asks_142 : decode cL_asks 142 = .ok (.i2l, 1) := by decide +kernel
theorem dL_asks_143 : decode cL_asks 143 = .ok (.ladd, 1) := by decide +kernel
theorem dL_asks_144 : decode cL_asks 144 = .ok (.lmul, 1) := by decide +kernel
theorem dL_asks_145 : decode cL_asks 145 = .ok (.aload_n 0, 1) := by decide +kernel
theorem dL_asks_146 : decode cL_asks 146 = .ok (.iload_n 3, 1) := by decide +kernel
theorem dL_asks_147 : decode cL_asks 147 = .ok (.iload 5, 2) := by decide +kernel
theorem dL_asks_149 : decode cL_asks 149 = .ok (.iload 4, 2) := by decide +kernel
theorem dL_asks_151 : decode cL_asks 151 = .ok (.iconst 0, 1) := by decide +kernel
theorem dL_asks_152 : decode cL_asks 152 = .ok (.invokevirtual 97, 3) := by decide +kernel
theorem dL_asks_155 : decode cL_asks 155 = .ok (.i2l, 1) := by decide +kernel
theorem dL_asks_156 : decode cL_asks 156 = .ok (.ladd, 1) := by decide +kernel
theorem dL_asks_157 : decode cL_asks 157 = .ok (.lstore_n 1, 1) := by decide +kernel
theorem dL_asks_158 : decode cL_asks 158 = .ok (.iinc 5 1, 3) := by decide +kernel
theorem dL_asks_161 : decode cL_asks 161 = .ok (.goto (-58), 3) := by decide +kernel
theorem dL_asks_164 : decode cL_asks 164 = .ok (.ldc2_w 62, 3) := by decide +kernel
theorem dL_asks_167 : decode cL_asks 167 = .ok (.ldc2_w 62, 3) := by decide +kernel
theorem dL_asks_170 : decode cL_asks 170 = .ok (.ldc2_w 62, 3) := by decide +kernel
theorem dL_asks_173 : decode cL_asks 173 = .ok (.ldc2_w 62, 3) := by decide +kernel
theorem dL_asks_176 : decode cL_asks 176 = .ok (.ldc2_w 62, 3) := by decide +kernel
theorem dL_asks_179 : decode cL_asks 179 = .ok (.lload_n 1, 1) := by decide +kernel
theorem dL_asks_180 : decode cL_asks 180 = .ok (.lmul, 1) := by decide +kernel
theorem dL_asks_181 : decode cL_asks 181 = .ok (.aload_n 0, 1) := by decide +kernel
theorem dL_asks_182 : decode cL_asks 182 = .ok (.iload_n 3, 1) := by decide +kernel
theorem dL_asks_183 : decode cL_asks 183 = .ok (.iconst 1, 1) := by decide +kernel
theorem dL_asks_184 : decode cL_asks 184 = .ok (.invokevirtual 101, 3) := by decide +kernel
theorem dL_asks_187 : decode cL_asks 187 = .ok (.i2l, 1) := by decide +kernel
theorem dL_asks_188 : decode cL_asks 188 = .ok (.ladd, 1) := by decide +kernel
theorem dL_asks_189 : decode cL_asks 189 = .ok (.lmul, 1) := by decide +kernel
theorem dL_asks_190 : decode cL_asks 190 = .ok (.aload_n 0, 1) := by decide +kernel
theorem dL_asks_191 : decode cL_asks 191 = .ok (.iload_n 3, 1) := by decide +kernel
theorem dL_asks_192 : decode cL_asks 192 = .ok (.iconst 0, 1) := by decide +kernel
theorem dL_asks_193 : decode cL_asks 193 = .ok (.invokevirtual 101, 3) := by decide +kernel
theorem dL_asks_196 : decode cL_asks 196 = .ok (.i2l, 1) := by decide +kernel
theorem dL_asks_197 : decode cL_asks 197 = .ok (.ladd, 1) := by decide +kernel
theorem dL_asks_198 : decode cL_asks 198 = .ok (.lmul, 1) := by decide +kernel
theorem dL_asks_199 : decode cL_asks 199 = .ok (.aload_n 0, 1) := by decide +kernel
theorem dL_asks_200 : decode cL_asks 200 = .ok (.iload_n 3, 1) := by decide +kernel
theorem dL_asks_201 : decode cL_asks 201 = .ok (.bipush 9, 2) := by decide +kernel
theorem dL_asks_203 : decode cL_asks 203 = .ok (.invokevirtual 104, 3) := by decide +kernel
theorem dL_asks_206 : decode cL_asks 206 = .ok (.i2l, 1) := by decide +kernel
theorem dL_asks_207 : decode cL_asks 207 = .ok (.ladd, 1) := by decide +kernel
theorem dL_asks_208 : decode cL_asks 208 = .ok (.lmul, 1) := by decide +kernel
theorem dL_asks_209 : decode cL_asks 209 = .ok (.aload_n 0, 1) := by decide +kernel
theorem dL_asks_210 : decode cL_asks 210 = .ok (.iload_n 3, 1) := by decide +kernel
theorem dL_asks_211 : decode cL_asks 211 = .ok (.bipush 9, 2) := by decide +kernel
theorem dL_asks_213 : decode cL_asks 213 = .ok (.invokevirtual 107, 3) := by decide +kernel
theorem dL_asks_216 : decode cL_asks 216 = .ok (.i2l, 1) := by decide +kernel
theorem dL_asks_217 : decode cL_asks 217 = .ok (.ladd, 1) := by decide +kernel
theorem dL_asks_218 : decode cL_asks 218 = .ok (.lmul, 1) := by decide +kernel
theorem dL_asks_219 : decode cL_asks 219 = .ok (.aload_n 0, 1) := by decide +kernel
theorem dL_asks_220 : decode cL_asks 220 = .ok (.iload_n 3, 1) := by decide +kernel
theorem dL_asks_221 : decode cL_asks 221 = .ok (.invokevirtual 110, 3) := by decide +kernel
theorem dL_asks_224 : decode cL_asks 224 = .ok (.i2l, 1) := by decide +kernel
theorem dL_asks_225 : decode cL_asks 225 = .ok (.ladd, 1) := by decide +kernel
theorem dL_asks_226 : decode cL_asks 226 = .ok (.lstore_n 1, 1) := by decide +kernel
theorem dL_asks_227 : decode cL_asks 227 = .ok (.aload_n 0, 1) := by decide +kernel
theorem dL_asks_228 : decode cL_asks 228 = .ok (.iload_n 3, 1) := by decide +kernel
theorem dL_asks_229 : decode cL_asks 229 = .ok (.invokevirtual 30, 3) := by decide +kernel
theorem dL_asks_232 : decode cL_asks 232 = .ok (.istore 5, 2) := by decide +kernel
theorem dL_asks_234 : decode cL_asks 234 = .ok (.iconst 0, 1) := by decide +kernel
theorem dL_asks_235 : decode cL_asks 235 = .ok (.istore 6, 2) := by decide +kernel
theorem dL_asks_237 : decode cL_asks 237 = .ok (.iload 6, 2) := by decide +kernel
theorem dL_asks_239 : decode cL_asks 239 = .ok (.iload 5, 2) := by decide +kernel
theorem dL_asks_241 : decode cL_asks 241 = .ok (.if_icmp .ge 23, 3) := by decide +kernel
theorem dL_asks_244 : decode cL_asks 244 = .ok (.ldc2_w 62, 3) := by decide +kernel
theorem dL_asks_247 : decode cL_asks 247 = .ok (.lload_n 1, 1) := by decide +kernel
theorem dL_asks_248 : decode cL_asks 248 = .ok (.lmul, 1) := by decide +kernel
theorem dL_asks_249 : decode cL_asks 249 = .ok (.aload_n 0, 1) := by decide +kernel
theorem dL_asks_250 : decode cL_asks 250 = .ok (.iload 6, 2) := by decide +kernel
theorem dL_asks_252 : decode cL_asks 252 = .ok (.invokevirtual 34, 3) := by decide +kernel
theorem dL_asks_255 : decode cL_asks 255 = .ok (.i2l, 1) := by decide +kernel
theorem dL_asks_256 : decode cL_asks 256 = .ok (.ladd, 1) := by decide +kernel
theorem dL_asks_257 : decode cL_asks 257 = .ok (.lstore_n 1, 1) := by decide +kernel
theorem dL_asks_258 : decode cL_asks 258 = .ok (.iinc 6 1, 3) := by decide +kernel
theorem dL_asks_261 : decode cL_asks 261 = .ok (.goto (-24), 3) := by decide +kernel
theorem dL_asks_264 : decode cL_asks 264 = .ok (.iinc 3 1, 3) := by decide +kernel
theorem dL_asks_267 : decode cL_asks 267 = .ok (.goto (-217), 3) := by decide +kernel
theorem dL_asks_270 : decode cL_asks 270 = .ok (.iconst 0, 1) := by decide +kernel
theorem dL_asks_271 : decode cL_asks 271 = .ok (.istore_n 3, 1) := by decide +kernel
theorem dL_asks_272 : decode cL_asks 272 = .ok (.iload_n 3, 1) := by decide +kernel
theorem dL_asks_273 : decode cL_asks 273 = .ok (.aload_n 0, 1) := by decide +kernel
theorem dL_asks_274 : decode cL_asks 274 = .ok (.iconst 4, 1) := by decide +kernel
theorem dL_asks_275 : decode cL_asks 275 = .ok (.invokevirtual 84, 3) := by decide +kernel
theorem dL_asks_278 : decode cL_asks 278 = .ok (.if_icmp .ge 40, 3) := by decide +kernel
theorem dL_asks_281 : decode cL_asks 281 = .ok (.iconst 0, 1) := by decide +kernel
theorem dL_asks_282 : decode cL_asks 282 = .ok (.istore 4, 2) := by decide +kernel
theorem dL_asks_284 : decode cL_asks 284 = .ok (.iload 4, 2) := by decide +kernel
theorem dL_asks_286 : decode cL_asks 286 = .ok (.bipush 8, 2) := by decide +kernel
theorem dL_asks_288 : decode cL_asks 288 = .ok (.if_icmp .ge 24, 3) := by decide +kernel
theorem dL_asks_291 : decode cL_asks 291 = .ok (.ldc2_w 62, 3) := by decide +kernel
theorem dL_asks_294 : decode cL_asks 294 = .ok (.lload_n 1, 1) := by decide +kernel
theorem dL_asks_295 : decode cL_asks 295 = .ok (.lmul, 1) := by decide +kernel
theorem dL_asks_296 : decode cL_asks 296 = .ok (.aload_n 0, 1) := by decide +kernel
theorem dL_asks_297 : decode cL_asks 297 = .ok (.iload_n 3, 1) := by decide +kernel
theorem dL_asks_298 : decode cL_asks 298 = .ok (.iload 4, 2) := by decide +kernel
theorem dL_asks_300 : decode cL_asks 300 = .ok (.invokevirtual 113, 3) := by decide +kernel
theorem dL_asks_303 : decode cL_asks 303 = .ok (.i2l, 1) := by decide +kernel
theorem dL_asks_304 : decode cL_asks 304 = .ok (.ladd, 1) := by decide +kernel
theorem dL_asks_305 : decode cL_asks 305 = .ok (.lstore_n 1, 1) := by decide +kernel
theorem dL_asks_306 : decode cL_asks 306 = .ok (.iinc 4 1, 3) := by decide +kernel
theorem dL_asks_309 : decode cL_asks 309 = .ok (.goto (-25), 3) := by decide +kernel
theorem dL_asks_312 : decode cL_asks 312 = .ok (.iinc 3 1, 3) := by decide +kernel
theorem dL_asks_315 : decode cL_asks 315 = .ok (.goto (-43), 3) := by decide +kernel
theorem dL_asks_318 : decode cL_asks 318 = .ok (.iconst 0, 1) := by decide +kernel
theorem dL_asks_319 : decode cL_asks 319 = .ok (.istore_n 3, 1) := by decide +kernel
theorem dL_asks_320 : decode cL_asks 320 = .ok (.iload_n 3, 1) := by decide +kernel
theorem dL_asks_321 : decode cL_asks 321 = .ok (.iconst 2, 1) := by decide +kernel
theorem dL_asks_322 : decode cL_asks 322 = .ok (.if_icmp .ge 40, 3) := by decide +kernel
theorem dL_asks_325 : decode cL_asks 325 = .ok (.iconst 0, 1) := by decide +kernel
theorem dL_asks_326 : decode cL_asks 326 = .ok (.istore 4, 2) := by decide +kernel
theorem dL_asks_328 : decode cL_asks 328 = .ok (.iload 4, 2) := by decide +kernel
theorem dL_asks_330 : decode cL_asks 330 = .ok (.bipush 6, 2) := by decide +kernel
theorem dL_asks_332 : decode cL_asks 332 = .ok (.if_icmp .ge 24, 3) := by decide +kernel
theorem dL_asks_335 : decode cL_asks 335 = .ok (.ldc2_w 62, 3) := by decide +kernel
theorem dL_asks_338 : decode cL_asks 338 = .ok (.lload_n 1, 1) := by decide +kernel
theorem dL_asks_339 : decode cL_asks 339 = .ok (.lmul, 1) := by decide +kernel
theorem dL_asks_340 : decode cL_asks 340 = .ok (.aload_n 0, 1) := by decide +kernel
theorem dL_asks_341 : decode cL_asks 341 = .ok (.iload_n 3, 1) := by decide +kernel
theorem dL_asks_342 : decode cL_asks 342 = .ok (.iload 4, 2) := by decide +kernel
theorem dL_asks_344 : decode cL_asks 344 = .ok (.invokevirtual 116, 3) := by decide +kernel
theorem dL_asks_347 : decode cL_asks 347 = .ok (.i2l, 1) := by decide +kernel
theorem dL_asks_348 : decode cL_asks 348 = .ok (.ladd, 1) := by decide +kernel
theorem dL_asks_349 : decode cL_asks 349 = .ok (.lstore_n 1, 1) := by decide +kernel
theorem dL_asks_350 : decode cL_asks 350 = .ok (.iinc 4 1, 3) := by decide +kernel
theorem dL_asks_353 : decode cL_asks 353 = .ok (.goto (-25), 3) := by decide +kernel
theorem dL_asks_356 : decode cL_asks 356 = .ok (.iinc 3 1, 3) := by decide +kernel
theorem dL_asks_359 : decode cL_asks 359 = .ok (.goto (-39), 3) := by decide +kernel
theorem dL_asks_362 : decode cL_asks 362 = .ok (.ldc2_w 62, 3) := by decide +kernel
theorem dL_asks_365 : decode cL_asks 365 = .ok (.ldc2_w 62, 3) := by decide +kernel
theorem dL_asks_368 : decode cL_asks 368 = .ok (.lload_n 1, 1) := by decide +kernel
theorem dL_asks_369 : decode cL_asks 369 = .ok (.lmul, 1) := by decide +kernel
theorem dL_asks_370 : decode cL_asks 370 = .ok (.aload_n 0, 1) := by decide +kernel
theorem dL_asks_371 : decode cL_asks 371 = .ok (.iconst 0, 1) := by decide +kernel
theorem dL_asks_372 : decode cL_asks 372 = .ok (.invokevirtual 119, 3) := by decide +kernel
theorem dL_asks_375 : decode cL_asks 375 = .ok (.i2l, 1) := by decide +kernel
theorem dL_asks_376 : decode cL_asks 376 = .ok (.ladd, 1) := by decide +kernel
theorem dL_asks_377 : decode cL_asks 377 = .ok (.lmul, 1) := by decide +kernel
theorem dL_asks_378 : decode cL_asks 378 = .ok (.aload_n 0, 1) := by decide +kernel
theorem dL_asks_379 : decode cL_asks 379 = .ok (.invokevirtual 122, 3) := by decide +kernel
theorem dL_asks_382 : decode cL_asks 382 = .ok (.i2l, 1) := by decide +kernel
theorem dL_asks_383 : decode cL_asks 383 = .ok (.ladd, 1) := by decide +kernel
theorem dL_asks_384 : decode cL_asks 384 = .ok (.lreturn, 1) := by decide +kernel
theorem dL_changes_0 : decode cL_changes 0 = .ok (.iload_n 1, 1) := by decide +kernel
theorem dL_changes_1 : decode cL_changes 1 = .ok (.iconst 4, 1) := by decide +kernel
theorem dL_changes_2 : decode cL_changes 2 = .ok (.ishr, 1) := by decide +kernel
theorem dL_changes_3 : decode cL_changes 3 = .ok (.aload_n 0, 1) := by decide +kernel
theorem dL_changes_4 : decode cL_changes 4 = .ok (.iconst 3, 1) := by decide +kernel
theorem dL_changes_5 : decode cL_changes 5 = .ok (.invokevirtual 84, 3) := by decide +kernel
theorem dL_changes_8 : decode cL_changes 8 = .ok (.iconst 1, 1) := by decide +kernel
theorem dL_changes_9 : decode cL_changes 9 = .ok (.iadd, 1) := by decide +kernel
theorem dL_changes_10 : decode cL_changes 10 = .ok (.invokestatic 43, 3) := by decide +kernel
theorem dL_changes_13 : decode cL_changes 13 = .ok (.istore_n 2, 1) := by decide +kernel
theorem dL_changes_14 : decode cL_changes 14 = .ok (.iload_n 1, 1) := by decide +kernel
theorem dL_changes_15 : decode cL_changes 15 = .ok (.bipush 15, 2) := by decide +kernel
theorem dL_changes_17 : decode cL_changes 17 = .ok (.invokestatic 43, 3) := by decide +kernel
theorem dL_changes_20 : decode cL_changes 20 = .ok (.tableswitch 356 0 13 #[72, 102, 131, 131, 157, 157, 157, 224, 238, 252, 273, 294, 315, 335], 72) := by decide +kernel
theorem dL_changes_92 : decode cL_changes 92 = .ok (.aload_n 0, 1) := by decide +kernel
theorem dL_changes_93 : decode cL_changes 93 = .ok (.iload_n 1, 1) := by decide +kernel
theorem dL_changes_94 : decode cL_changes 94 = .ok (.iconst 4, 1) := by decide +kernel
theorem dL_changes_95 : decode cL_changes 95 = .ok (.ishr, 1) := by decide +kernel
theorem dL_changes_96 : decode cL_changes 96 = .ok (.bipush 30, 2) := by decide +kernel
theorem dL_changes_98 : decode cL_changes 98 = .ok (.invokestatic 43, 3) := by decide +kernel
theorem dL_changes_101 : decode cL_changes 101 = .ok (.iload_n 1, 1) := by decide +kernel
theorem dL_changes_102 : decode cL_changes 102 = .ok (.bipush 6, 2) := by decide +kernel
theorem dL_changes_104 : decode cL_changes 104 = .ok (.ishr, 1) := by decide +kernel
theorem dL_changes_105 : decode cL_changes 105 = .ok (.bipush 31, 2) := by decide +kernel
theorem dL_changes_107 : decode cL_changes 107 = .ok (.invokestatic 43, 3) := by decide +kernel
theorem dL_changes_110 : decode cL_changes 110 = .ok (.invokevirtual 47, 3) := by decide +kernel
theorem dL_changes_113 : decode cL_changes 113 = .ok (.ifCond .lt 7, 3) := by decide +kernel
theorem dL_changes_116 : decode cL_changes 116 = .ok (.iconst 1, 1) := by decide +kernel
theorem dL_changes_117 : decode cL_changes 117 = .ok (.goto 4, 3) := by decide +kernel
theorem dL_changes_120 : decode cL_changes 120 = .ok (.iconst 0, 1) := by decide +kernel
theorem dL_changes_121 : decode cL_changes 121 = .ok (.ireturn, 1) := by decide +kernel
theorem dL_changes_122 : decode cL_changes 122 = .ok (.aload_n 0, 1) := by decide +kernel
theorem dL_changes_123 : decode cL_changes 123 = .ok (.iload_n 1, 1) := by decide +kernel
theorem dL_changes_124 : decode cL_changes 124 = .ok (.iconst 4, 1) := by decide +kernel
theorem dL_changes_125 : decode cL_changes 125 = .ok (.ishr, 1) := by decide +kernel
theorem dL_changes_126 : decode cL_changes 126 = .ok (.iconst 3, 1) := by decide +kernel
theorem dL_changes_127 : decode cL_changes 127 = .ok (.invokestatic 43, 3) := by decide +kernel
theorem dL_changes_130 : decode cL_changes 130 = .ok (.iload_n 1, 1) := by decide +kernel
theorem dL_changes_131 : decode cL_changes 131 = .ok (.bipush 6, 2) := by decide +kernel
theorem dL_changes_133 : decode cL_changes 133 = .ok (.ishr, 1) := by decide +kernel
theorem dL_changes_134 : decode cL_changes 134 = .ok (.bipush 11, 2) := by decide +kernel
theorem dL_changes_136 : decode cL_changes 136 = .ok (.invokestatic 43, 3) := by decide +kernel
theorem dL_changes_139 : decode cL_changes 139 = .ok (.invokevirtual 50, 3) := by decide +kernel
theorem dL_changes_142 : decode cL_changes 142 = .ok (.ifCond .lt 7, 3) := by decide +kernel
theorem dL_changes_145 : decode cL_changes 145 = .ok (.iconst 1, 1) := by decide +kernel
theorem dL_changes_146 : decode cL_changes 146 = .ok (.goto 4, 3) := by decide +kernel
theorem dL_changes_149 : decode cL_changes 149 = .ok (.iconst 0, 1) := by decide +kernel
theorem dL_changes_150 : decode cL_changes 150 = .ok (.ireturn, 1) := by decide +kernel
theorem dL_changes_151 : decode cL_changes 151 = .ok (.aload_n 0, 1) := by decide +kernel
theorem dL_changes_152 : decode cL_changes 152 = .ok (.iload_n 2, 1) := by decide +kernel
theorem dL_changes_153 : decode cL_changes 153 = .ok (.bipush 19, 2) := by decide +kernel
theorem dL_changes_155 : decode cL_changes 155 = .ok (.iload_n 1, 1) := by decide +kernel
theorem dL_changes_156 : decode cL_changes 156 = .ok (.bipush 6, 2) := by decide +kernel
theorem dL_changes_158 : decode cL_changes 158 = .ok (.ishr, 1) := by decide +kernel
theorem dL_changes_159 : decode cL_changes 159 = .ok (.bipush 23, 2) := by decide +kernel
theorem dL_changes_161 : decode cL_changes 161 = .ok (.invokestatic 43, 3) := by decide +kernel
theorem dL_changes_164 : decode cL_changes 164 = .ok (.iadd, 1) := by decide +kernel
theorem dL_changes_165 : decode cL_changes 165 = .ok (.invokevirtual 125, 3) := by decide +kernel
theorem dL_changes_168 : decode cL_changes 168 = .ok (.ifCond .lt 7, 3) := by decide +kernel
theorem dL_changes_171 : decode cL_changes 171 = .ok (.iconst 1, 1) := by decide +kernel
theorem dL_changes_172 : decode cL_changes 172 = .ok (.goto 4, 3) := by decide +kernel
theorem dL_changes_175 : decode cL_changes 175 = .ok (.iconst 0, 1) := by decide +kernel
theorem dL_changes_176 : decode cL_changes 176 = .ok (.ireturn, 1) := by decide +kernel
theorem dL_changes_177 : decode cL_changes 177 = .ok (.aload_n 0, 1) := by decide +kernel
theorem dL_changes_178 : decode cL_changes 178 = .ok (.iload_n 2, 1) := by decide +kernel
theorem dL_changes_179 : decode cL_changes 179 = .ok (.iload_n 1, 1) := by decide +kernel
theorem dL_changes_180 : decode cL_changes 180 = .ok (.iconst 5, 1) := by decide +kernel
theorem dL_changes_181 : decode cL_changes 181 = .ok (.ishr, 1) := by decide +kernel
theorem dL_changes_182 : decode cL_changes 182 = .ok (.aload_n 0, 1) := by decide +kernel
theorem dL_changes_183 : decode cL_changes 183 = .ok (.iconst 4, 1) := by decide +kernel
theorem dL_changes_184 : decode cL_changes 184 = .ok (.invokevirtual 84, 3) := by decide +kernel
theorem dL_changes_187 : decode cL_changes 187 = .ok (.iconst 1, 1) := by decide +kernel
theorem dL_changes_188 : decode cL_changes 188 = .ok (.iadd, 1) := by decide +kernel
theorem dL_changes_189 : decode cL_changes 189 = .ok (.invokestatic 43, 3) := by decide +kernel
theorem dL_changes_192 : decode cL_changes 192 = .ok (.iload_n 1, 1) := by decide +kernel
theorem dL_changes_193 : decode cL_changes 193 = .ok (.bipush 8, 2) := by decide +kernel
theorem dL_changes_195 : decode cL_changes 195 = .ok (.ishr, 1) := by decide +kernel
theorem dL_changes_196 : decode cL_changes 196 = .ok (.bipush 30, 2) := by decide +kernel
theorem dL_changes_198 : decode cL_changes 198 = .ok (.invokestatic 43, 3) := by decide +kernel
theorem dL_changes_201 : decode cL_changes 201 = .ok (.iload_n 1, 1) := by decide +kernel
theorem dL_changes_202 : decode cL_changes 202 = .ok (.bipush 6, 2) := by decide +kernel
theorem dL_changes_204 : decode cL_changes 204 = .ok (.ishr, 1) := by decide +kernel
theorem dL_changes_205 : decode cL_changes 205 = .ok (.bipush 22, 2) := by decide +kernel
theorem dL_changes_207 : decode cL_changes 207 = .ok (.invokestatic 43, 3) := by decide +kernel
theorem dL_changes_210 : decode cL_changes 210 = .ok (.iload_n 1, 1) := by decide +kernel
theorem dL_changes_211 : decode cL_changes 211 = .ok (.bipush 7, 2) := by decide +kernel
theorem dL_changes_213 : decode cL_changes 213 = .ok (.ishr, 1) := by decide +kernel
theorem dL_changes_214 : decode cL_changes 214 = .ok (.iconst 1, 1) := by decide +kernel
theorem dL_changes_215 : decode cL_changes 215 = .ok (.iand, 1) := by decide +kernel
theorem dL_changes_216 : decode cL_changes 216 = .ok (.ifCond .ne 7, 3) := by decide +kernel
theorem dL_changes_219 : decode cL_changes 219 = .ok (.iconst 1, 1) := by decide +kernel
theorem dL_changes_220 : decode cL_changes 220 = .ok (.goto 4, 3) := by decide +kernel
theorem dL_changes_223 : decode cL_changes 223 = .ok (.iconst 0, 1) := by decide +kernel
theorem dL_changes_224 : decode cL_changes 224 = .ok (.invokevirtual 128, 3) := by decide +kernel
theorem dL_changes_227 : decode cL_changes 227 = .ok (.istore_n 3, 1) := by decide +kernel
theorem dL_changes_228 : decode cL_changes 228 = .ok (.iload_n 3, 1) := by decide +kernel
theorem dL_changes_229 : decode cL_changes 229 = .ok (.ifCond .ge 9, 3) := by decide +kernel
theorem dL_changes_232 : decode cL_changes 232 = .ok (.iload_n 3, 1) := by decide +kernel
theorem dL_changes_233 : decode cL_changes 233 = .ok (.bipush (-4), 2) := by decide +kernel
theorem dL_changes_235 : decode cL_changes 235 = .ok (.if_icmp .ne 7, 3) := by decide +kernel
theorem dL_changes_238 : decode cL_changes 238 = .ok (.iconst 1, 1) := by decide +kernel
theorem dL_changes_239 : decode cL_changes 239 = .ok (.goto 4, 3) := by decide +kernel
theorem dL_changes_242 : decode cL_changes 242 = .ok (.iconst 0, 1) := by decide +kernel
theorem dL_changes_243 : decode cL_changes 243 = .ok (.ireturn, 1) := by decide +kernel
theorem dL_changes_244 : decode cL_changes 244 = .ok (.aload_n 0, 1) := by decide +kernel
theorem dL_changes_245 : decode cL_changes 245 = .ok (.iload_n 2, 1) := by decide +kernel
theorem dL_changes_246 : decode cL_changes 246 = .ok (.invokevirtual 131, 3) := by decide +kernel
theorem dL_changes_249 : decode cL_changes 249 = .ok (.ifCond .lt 7, 3) := by decide +kernel
theorem dL_changes_252 : decode cL_changes 252 = .ok (.iconst 1, 1) := by decide +kernel
theorem dL_changes_253 : decode cL_changes 253 = .ok (.goto 4, 3) := by decide +kernel
theorem dL_changes_256 : decode cL_changes 256 = .ok (.iconst 0, 1) := by decide +kernel
theorem dL_changes_257 : decode cL_changes 257 = .ok (.ireturn, 1) := by decide +kernel
theorem dL_changes_258 : decode cL_changes 258 = .ok (.aload_n 0, 1) := by decide +kernel
theorem dL_changes_259 : decode cL_changes 259 = .ok (.iload_n 2, 1) := by decide +kernel
theorem dL_changes_260 : decode cL_changes 260 = .ok (.invokevirtual 134, 3) := by decide +kernel
theorem dL_changes_263 : decode cL_changes 263 = .ok (.ifCond .lt 7, 3) := by decide +kernel
theorem dL_changes_266 : decode cL_changes 266 = .ok (.iconst 1, 1) := by decide +kernel
theorem dL_changes_267 : decode cL_changes 267 = .ok (.goto 4, 3) := by decide +kernel
theorem dL_changes_270 : decode cL_changes 270 = .ok (.iconst 0, 1) := by decide +kernel
theorem dL_changes_271 : decode cL_changes 271 = .ok (.ireturn, 1) := by decide +kernel
theorem dL_changes_272 : decode cL_changes 272 = .ok (.aload_n 0, 1) := by decide +kernel
theorem dL_changes_273 : decode cL_changes 273 = .ok (.iload_n 1, 1) := by decide +kernel
theorem dL_changes_274 : decode cL_changes 274 = .ok (.iconst 4, 1) := by decide +kernel
theorem dL_changes_275 : decode cL_changes 275 = .ok (.ishr, 1) := by decide +kernel
theorem dL_changes_276 : decode cL_changes 276 = .ok (.bipush 11, 2) := by decide +kernel
theorem dL_changes_278 : decode cL_changes 278 = .ok (.invokestatic 43, 3) := by decide +kernel
theorem dL_changes_281 : decode cL_changes 281 = .ok (.invokevirtual 53, 3) := by decide +kernel
theorem dL_changes_284 : decode cL_changes 284 = .ok (.ifCond .lt 7, 3) := by decide +kernel
theorem dL_changes_287 : decode cL_changes 287 = .ok (.iconst 1, 1) := by decide +kernel
theorem dL_changes_288 : decode cL_changes 288 = .ok (.goto 4, 3) := by decide +kernel
theorem dL_changes_291 : decode cL_changes 291 = .ok (.iconst 0, 1) := by decide +kernel
theorem dL_changes_292 : decode cL_changes 292 = .ok (.ireturn, 1) := by decide +kernel
theorem dL_changes_293 : decode cL_changes 293 = .ok (.aload_n 0, 1) := by decide +kernel
theorem dL_changes_294 : decode cL_changes 294 = .ok (.iload_n 1, 1) := by decide +kernel
theorem dL_changes_295 : decode cL_changes 295 = .ok (.iconst 4, 1) := by decide +kernel
theorem dL_changes_296 : decode cL_changes 296 = .ok (.ishr, 1) := by decide +kernel
theorem dL_changes_297 : decode cL_changes 297 = .ok (.bipush 11, 2) := by decide +kernel
theorem dL_changes_299 : decode cL_changes 299 = .ok (.invokestatic 43, 3) := by decide +kernel
theorem dL_changes_302 : decode cL_changes 302 = .ok (.invokevirtual 56, 3) := by decide +kernel
theorem dL_changes_305 : decode cL_changes 305 = .ok (.ifCond .lt 7, 3) := by decide +kernel
theorem dL_changes_308 : decode cL_changes 308 = .ok (.iconst 1, 1) := by decide +kernel
theorem dL_changes_309 : decode cL_changes 309 = .ok (.goto 4, 3) := by decide +kernel
theorem dL_changes_312 : decode cL_changes 312 = .ok (.iconst 0, 1) := by decide +kernel
theorem dL_changes_313 : decode cL_changes 313 = .ok (.ireturn, 1) := by decide +kernel
theorem dL_changes_314 : decode cL_changes 314 = .ok (.aload_n 0, 1) := by decide +kernel
theorem dL_changes_315 : decode cL_changes 315 = .ok (.iload_n 1, 1) := by decide +kernel
theorem dL_changes_316 : decode cL_changes 316 = .ok (.iconst 4, 1) := by decide +kernel
theorem dL_changes_317 : decode cL_changes 317 = .ok (.ishr, 1) := by decide +kernel
theorem dL_changes_318 : decode cL_changes 318 = .ok (.bipush 22, 2) := by decide +kernel
theorem dL_changes_320 : decode cL_changes 320 = .ok (.invokestatic 43, 3) := by decide +kernel
theorem dL_changes_323 : decode cL_changes 323 = .ok (.invokevirtual 137, 3) := by decide +kernel
theorem dL_changes_326 : decode cL_changes 326 = .ok (.ifCond .lt 7, 3) := by decide +kernel
theorem dL_changes_329 : decode cL_changes 329 = .ok (.iconst 1, 1) := by decide +kernel
theorem dL_changes_330 : decode cL_changes 330 = .ok (.goto 4, 3) := by decide +kernel
theorem dL_changes_333 : decode cL_changes 333 = .ok (.iconst 0, 1) := by decide +kernel
theorem dL_changes_334 : decode cL_changes 334 = .ok (.ireturn, 1) := by decide +kernel
theorem dL_changes_335 : decode cL_changes 335 = .ok (.aload_n 0, 1) := by decide +kernel
theorem dL_changes_336 : decode cL_changes 336 = .ok (.iload_n 1, 1) := by decide +kernel
theorem dL_changes_337 : decode cL_changes 337 = .ok (.iconst 4, 1) := by decide +kernel
theorem dL_changes_338 : decode cL_changes 338 = .ok (.ishr, 1) := by decide +kernel
theorem dL_changes_339 : decode cL_changes 339 = .ok (.iconst 3, 1) := by decide +kernel
theorem dL_changes_340 : decode cL_changes 340 = .ok (.invokestatic 43, 3) := by decide +kernel
theorem dL_changes_343 : decode cL_changes 343 = .ok (.invokevirtual 140, 3) := by decide +kernel
theorem dL_changes_346 : decode cL_changes 346 = .ok (.ifCond .lt 7, 3) := by decide +kernel
theorem dL_changes_349 : decode cL_changes 349 = .ok (.iconst 1, 1) := by decide +kernel
theorem dL_changes_350 : decode cL_changes 350 = .ok (.goto 4, 3) := by decide +kernel
theorem dL_changes_353 : decode cL_changes 353 = .ok (.iconst 0, 1) := by decide +kernel
theorem dL_changes_354 : decode cL_changes 354 = .ok (.ireturn, 1) := by decide +kernel
theorem dL_changes_355 : decode cL_changes 355 = .ok (.aload_n 0, 1) := by decide +kernel
theorem dL_changes_356 : decode cL_changes 356 = .ok (.iload_n 1, 1) := by decide +kernel
theorem dL_changes_357 : decode cL_changes 357 = .ok (.iconst 4, 1) := by decide +kernel
theorem dL_changes_358 : decode cL_changes 358 = .ok (.ishr, 1) := by decide +kernel
theorem dL_changes_359 : decode cL_changes 359 = .ok (.bipush 26, 2) := by decide +kernel
theorem dL_changes_361 : decode cL_changes 361 = .ok (.invokestatic 43, 3) := by decide +kernel
theorem dL_changes_364 : decode cL_changes 364 = .ok (.invokevirtual 59, 3) := by decide +kernel
theorem dL_changes_367 : decode cL_changes 367 = .ok (.ifCond .lt 7, 3) := by decide +kernel
theorem dL_changes_370 : decode cL_changes 370 = .ok (.iconst 1, 1) := by decide +kernel
theorem dL_changes_371 : decode cL_changes 371 = .ok (.goto 4, 3) := by decide +kernel
theorem dL_changes_374 : decode cL_changes 374 = .ok (.iconst 0, 1) := by decide +kernel
theorem dL_changes_375 : decode cL_changes 375 = .ok (.ireturn, 1) := by decide +kernel
theorem dL_changes_376 : decode cL_changes 376 = .ok (.aload_n 0, 1) := by decide +kernel
theorem dL_changes_377 : decode cL_changes 377 = .ok (.iload_n 1, 1) := by decide +kernel
theorem dL_changes_378 : decode cL_changes 378 = .ok (.bipush 6, 2) := by decide +kernel
theorem dL_changes_380 : decode cL_changes 380 = .ok (.ishr, 1) := by decide +kernel
theorem dL_changes_381 : decode cL_changes 381 = .ok (.iconst 1, 1) := by decide +kernel
theorem dL_changes_382 : decode cL_changes 382 = .ok (.iand, 1) := by decide +kernel
theorem dL_changes_383 : decode cL_changes 383 = .ok (.ifCond .ne 48, 3) := by decide +kernel
theorem dL_changes_386 : decode cL_changes 386 = .ok (.new 143, 3) := by decide +kernel
theorem dL_changes_389 : decode cL_changes 389 = .ok (.dup, 1) := by decide +kernel
theorem dL_changes_390 : decode cL_changes 390 = .ok (.invokespecial 145, 3) := by decide +kernel
theorem dL_changes_393 : decode cL_changes 393 = .ok (.ldc 146, 2) := by decide +kernel
theorem dL_changes_395 : decode cL_changes 395 = .ok (.invokevirtual 148, 3) := by decide +kernel
theorem dL_changes_398 : decode cL_changes 398 = .ok (.iload_n 1, 1) := by decide +kernel
theorem dL_changes_399 : decode cL_changes 399 = .ok (.iconst 3, 1) := by decide +kernel
theorem dL_changes_400 : decode cL_changes 400 = .ok (.ishr, 1) := by decide +kernel
theorem dL_changes_401 : decode cL_changes 401 = .ok (.bipush 10, 2) := by decide +kernel
theorem dL_changes_403 : decode cL_changes 403 = .ok (.invokestatic 43, 3) := by decide +kernel
theorem dL_changes_406 : decode cL_changes 406 = .ok (.invokevirtual 151, 3) := by decide +kernel
theorem dL_changes_409 : decode cL_changes 409 = .ok (.ldc 154, 2) := by decide +kernel
theorem dL_changes_411 : decode cL_changes 411 = .ok (.invokevirtual 148, 3) := by decide +kernel
theorem dL_changes_414 : decode cL_changes 414 = .ok (.iload_n 1, 1) := by decide +kernel
theorem dL_changes_415 : decode cL_changes 415 = .ok (.iconst 5, 1) := by decide +kernel
theorem dL_changes_416 : decode cL_changes 416 = .ok (.ishr, 1) := by decide +kernel
theorem dL_changes_417 : decode cL_changes 417 = .ok (.bipush 9, 2) := by decide +kernel
theorem dL_changes_419 : decode cL_changes 419 = .ok (.invokestatic 43, 3) := by decide +kernel
theorem dL_changes_422 : decode cL_changes 422 = .ok (.invokevirtual 151, 3) := by decide +kernel
theorem dL_changes_425 : decode cL_changes 425 = .ok (.invokevirtual 156, 3) := by decide +kernel
theorem dL_changes_428 : decode cL_changes 428 = .ok (.goto 62, 3) := by decide +kernel
theorem dL_changes_431 : decode cL_changes 431 = .ok (.new 143, 3) := by decide +kernel
theorem dL_changes_434 : decode cL_changes 434 = .ok (.dup, 1) := by decide +kernel
theorem dL_changes_435 : decode cL_changes 435 = .ok (.invokespecial 145, 3) := by decide +kernel
theorem dL_changes_438 : decode cL_changes 438 = .ok (.ldc 160, 2) := by decide +kernel
theorem dL_changes_440 : decode cL_changes 440 = .ok (.invokevirtual 148, 3) := by decide +kernel
theorem dL_changes_443 : decode cL_changes 443 = .ok (.iload_n 1, 1) := by decide +kernel
theorem dL_changes_444 : decode cL_changes 444 = .ok (.iconst 3, 1) := by decide +kernel
theorem dL_changes_445 : decode cL_changes 445 = .ok (.ishr, 1) := by decide +kernel
theorem dL_changes_446 : decode cL_changes 446 = .ok (.iconst 4, 1) := by decide +kernel
theorem dL_changes_447 : decode cL_changes 447 = .ok (.invokestatic 43, 3) := by decide +kernel
theorem dL_changes_450 : decode cL_changes 450 = .ok (.invokevirtual 151, 3) := by decide +kernel
theorem dL_changes_453 : decode cL_changes 453 = .ok (.ldc 162, 2) := by decide +kernel
theorem dL_changes_455 : decode cL_changes 455 = .ok (.invokevirtual 148, 3) := by decide +kernel
theorem dL_changes_458 : decode cL_changes 458 = .ok (.iload_n 1, 1) := by decide +kernel
theorem dL_changes_459 : decode cL_changes 459 = .ok (.iconst 5, 1) := by decide +kernel
theorem dL_changes_460 : decode cL_changes 460 = .ok (.ishr, 1) := by decide +kernel
theorem dL_changes_461 : decode cL_changes 461 = .ok (.iconst 4, 1) := by decide +kernel
theorem dL_changes_462 : decode cL_changes 462 = .ok (.invokestatic 43, 3) := by decide +kernel
theorem dL_changes_465 : decode cL_changes 465 = .ok (.invokevirtual 151, 3) := by decide +kernel
theorem dL_changes_468 : decode cL_changes 468 = .ok (.ldc 164, 2) := by decide +kernel
theorem dL_changes_470 : decode cL_changes 470 = .ok (.invokevirtual 148, 3) := by decide +kernel
theorem dL_changes_473 : decode cL_changes 473 = .ok (.bipush 19, 2) := by decide +kernel
theorem dL_changes_475 : decode cL_changes 475 = .ok (.iload_n 1, 1) := by decide +kernel
theorem dL_changes_476 : decode cL_changes 476 = .ok (.iconst 4, 1) := by decide +kernel
theorem dL_changes_477 : decode cL_changes 477 = .ok (.ishr, 1) := by decide +kernel
theorem dL_changes_478 : decode cL_changes 478 = .ok (.bipush 23, 2) := by decide +kernel
theorem dL_changes_480 : decode cL_changes 480 = .ok (.invokestatic 43, 3) := by decide +kernel
theorem dL_changes_483 : decode cL_changes 483 = .ok (.iadd, 1) := by decide +kernel
theorem dL_changes_484 : decode cL_changes 484 = .ok (.invokevirtual 151, 3) := by decide +kernel
theorem dL_changes_487 : decode cL_changes 487 = .ok (.invokevirtual 156, 3) := by decide +kernel
theorem dL_changes_490 : decode cL_changes 490 = .ok (.invokestatic 166, 3) := by decide +kernel
theorem dL_changes_493 : decode cL_changes 493 = .ok (.ifCond .lt 7, 3) := by decide +kernel
theorem dL_changes_496 : decode cL_changes 496 = .ok (.iconst 1, 1) := by decide +kernel
theorem dL_changes_497 : decode cL_changes 497 = .ok (.goto 4, 3) := by decide +kernel
theorem dL_changes_500 : decode cL_changes 500 = .ok (.iconst 0, 1) := by decide +kernel
theorem dL_changes_501 : decode cL_changes 501 = .ok (.ireturn, 1) := by decide +kernel
theorem dL_refused_0 : decode cL_refused 0 = .ok (.aload_n 0, 1) := by decide +kernel
theorem dL_refused_1 : decode cL_refused 1 = .ok (.invokestatic 170, 3) := by decide +kernel
theorem dL_refused_4 : decode cL_refused 4 = .ok (.lstore_n 1, 1) := by decide +kernel
theorem dL_refused_5 : decode cL_refused 5 = .ok (.aload_n 0, 1) := by decide +kernel
theorem dL_refused_6 : decode cL_refused 6 = .ok (.iconst 3, 1) := by decide +kernel
theorem dL_refused_7 : decode cL_refused 7 = .ok (.invokevirtual 84, 3) := by decide +kernel
theorem dL_refused_10 : decode cL_refused 10 = .ok (.istore_n 3, 1) := by decide +kernel
theorem dL_refused_11 : decode cL_refused 11 = .ok (.aload_n 0, 1) := by decide +kernel
theorem dL_refused_12 : decode cL_refused 12 = .ok (.iconst 4, 1) := by decide +kernel
theorem dL_refused_13 : decode cL_refused 13 = .ok (.invokevirtual 84, 3) := by decide +kernel
theorem dL_refused_16 : decode cL_refused 16 = .ok (.istore 4, 2) := by decide +kernel
theorem dL_refused_18 : decode cL_refused 18 = .ok (.aload_n 0, 1) := by decide +kernel
theorem dL_refused_19 : decode cL_refused 19 = .ok (.iconst 0, 1) := by decide +kernel
theorem dL_refused_20 : decode cL_refused 20 = .ok (.iconst 0, 1) := by decide +kernel
theorem dL_refused_21 : decode cL_refused 21 = .ok (.invokevirtual 26, 3) := by decide +kernel
theorem dL_refused_24 : decode cL_refused 24 = .ok (.istore 5, 2) := by decide +kernel
theorem dL_refused_26 : decode cL_refused 26 = .ok (.aload_n 0, 1) := by decide +kernel
theorem dL_refused_27 : decode cL_refused 27 = .ok (.iconst 0, 1) := by decide +kernel
theorem dL_refused_28 : decode cL_refused 28 = .ok (.iconst 0, 1) := by decide +kernel
theorem dL_refused_29 : decode cL_refused 29 = .ok (.invokevirtual 87, 3) := by decide +kernel
theorem dL_refused_32 : decode cL_refused 32 = .ok (.istore 6, 2) := by decide +kernel
theorem dL_refused_34 : decode cL_refused 34 = .ok (.aload_n 0, 1) := by decide +kernel
theorem dL_refused_35 : decode cL_refused 35 = .ok (.iconst 0, 1) := by decide +kernel
theorem dL_refused_36 : decode cL_refused 36 = .ok (.iconst 1, 1) := by decide +kernel
theorem dL_refused_37 : decode cL_refused 37 = .ok (.invokevirtual 87, 3) := by decide +kernel
theorem dL_refused_40 : decode cL_refused 40 = .ok (.istore 7, 2) := by decide +kernel
theorem dL_refused_42 : decode cL_refused 42 = .ok (.aload_n 0, 1) := by decide +kernel
theorem dL_refused_43 : decode cL_refused 43 = .ok (.iconst (-1), 1) := by decide +kernel
theorem dL_refused_44 : decode cL_refused 44 = .ok (.iconst 3, 1) := by decide +kernel
theorem dL_refused_45 : decode cL_refused 45 = .ok (.invokevirtual 47, 3) := by decide +kernel
theorem dL_refused_48 : decode cL_refused 48 = .ok (.bipush (-2), 2) := by decide +kernel
theorem dL_refused_50 : decode cL_refused 50 = .ok (.if_icmp .ne 345, 3) := by decide +kernel
theorem dL_refused_53 : decode cL_refused 53 = .ok (.aload_n 0, 1) := by decide +kernel
theorem dL_refused_54 : decode cL_refused 54 = .ok (.iconst 0, 1) := by decide +kernel
theorem dL_refused_55 : decode cL_refused 55 = .ok (.iconst 1, 1) := by decide +kernel
theorem dL_refused_56 : decode cL_refused 56 = .ok (.invokevirtual 47, 3) := by decide +kernel
theorem dL_refused_59 : decode cL_refused 59 = .ok (.bipush (-2), 2) := by decide +kernel
theorem dL_refused_61 : decode cL_refused 61 = .ok (.if_icmp .ne 334, 3) := by decide +kernel
theorem dL_refused_64 : decode cL_refused 64 = .ok (.aload_n 0, 1) := by decide +kernel
theorem dL_refused_65 : decode cL_refused 65 = .ok (.iconst 0, 1) := by decide +kernel
theorem dL_refused_66 : decode cL_refused 66 = .ok (.bipush 10, 2) := by decide +kernel
theorem dL_refused_68 : decode cL_refused 68 = .ok (.invokevirtual 47, 3) := by decide +kernel
theorem dL_refused_71 : decode cL_refused 71 = .ok (.bipush (-2), 2) := by decide +kernel
theorem dL_refused_73 : decode cL_refused 73 = .ok (.if_icmp .ne 322, 3) := by decide +kernel
theorem dL_refused_76 : decode cL_refused 76 = .ok (.aload_n 0, 1) := by decide +kernel
theorem dL_refused_77 : decode cL_refused 77 = .ok (.bipush 28, 2) := by decide +kernel
theorem dL_refused_79 : decode cL_refused 79 = .ok (.bipush 30, 2) := by decide +kernel
theorem dL_refused_81 : decode cL_refused 81 = .ok (.invokevirtual 47, 3) := by decide +kernel
theorem dL_refused_84 : decode cL_refused 84 = .ok (.bipush (-2), 2) := by decide +kernel
theorem dL_refused_86 : decode cL_refused 86 = .ok (.if_icmp .ne 309, 3) := by decide +kernel
theorem dL_refused_89 : decode cL_refused 89 = .ok (.aload_n 0, 1) := by decide +kernel
theorem dL_refused_90 : decode cL_refused 90 = .ok (.bipush 9, 2) := by decide +kernel
theorem dL_refused_92 : decode cL_refused 92 = .ok (.iconst 5, 1) := by decide +kernel
theorem dL_refused_93 : decode cL_refused 93 = .ok (.invokevirtual 47, 3) := by decide +kernel
theorem dL_refused_96 : decode cL_refused 96 = .ok (.bipush (-2), 2) := by decide +kernel
theorem dL_refused_98 : decode cL_refused 98 = .ok (.if_icmp .ne 297, 3) := by decide +kernel
theorem dL_refused_101 : decode cL_refused 101 = .ok (.aload_n 0, 1) := by decide +kernel
theorem dL_refused_102 : decode cL_refused 102 = .ok (.iconst 2, 1) := by decide +kernel
theorem dL_refused_103 : decode cL_refused 103 = .ok (.bipush 99, 2) := by decide +kernel
theorem dL_refused_105 : decode cL_refused 105 = .ok (.invokevirtual 50, 3) := by decide +kernel
theorem dL_refused_108 : decode cL_refused 108 = .ok (.iconst (-1), 1) := by decide +kernel
theorem dL_refused_109 : decode cL_refused 109 = .ok (.if_icmp .ne 286, 3) := by decide +kernel
theorem dL_refused_112 : decode cL_refused 112 = .ok (.aload_n 0, 1) := by decide +kernel
theorem dL_refused_113 : decode cL_refused 113 = .ok (.iconst (-1), 1) := by decide +kernel
theorem dL_refused_114 : decode cL_refused 114 = .ok (.iconst 0, 1) := by decide +kernel
theorem dL_refused_115 : decode cL_refused 115 = .ok (.invokevirtual 50, 3) := by decide +kernel
theorem dL_refused_118 : decode cL_refused 118 = .ok (.iconst (-1), 1) := by decide +kernel
theorem dL_refused_119 : decode cL_refused 119 = .ok (.if_icmp .ne 276, 3) := by decide +kernel
theorem dL_refused_122 : decode cL_refused 122 = .ok (.aload_n 0, 1) := by decide +kernel
theorem dL_refused_123 : decode cL_refused 123 = .ok (.iconst 0, 1) := by decide +kernel
theorem dL_refused_124 : decode cL_refused 124 = .ok (.bipush 10, 2) := by decide +kernel
theorem dL_refused_126 : decode cL_refused 126 = .ok (.invokevirtual 50, 3) := by decide +kernel
theorem dL_refused_129 : decode cL_refused 129 = .ok (.bipush (-2), 2) := by decide +kernel
theorem dL_refused_131 : decode cL_refused 131 = .ok (.if_icmp .ne 264, 3) := by decide +kernel
theorem dL_refused_134 : decode cL_refused 134 = .ok (.aload_n 0, 1) := by decide +kernel
theorem dL_refused_135 : decode cL_refused 135 = .ok (.iconst 0, 1) := by decide +kernel
theorem dL_refused_136 : decode cL_refused 136 = .ok (.iconst (-1), 1) := by decide +kernel
theorem dL_refused_137 : decode cL_refused 137 = .ok (.invokevirtual 50, 3) := by decide +kernel
theorem dL_refused_140 : decode cL_refused 140 = .ok (.bipush (-2), 2) := by decide +kernel
theorem dL_refused_142 : decode cL_refused 142 = .ok (.if_icmp .ne 253, 3) := by decide +kernel
theorem dL_refused_145 : decode cL_refused 145 = .ok (.aload_n 0, 1) := by decide +kernel
theorem dL_refused_146 : decode cL_refused 146 = .ok (.iload_n 3, 1) := by decide +kernel
theorem dL_refused_147 : decode cL_refused 147 = .ok (.iconst 0, 1) := by decide +kernel
theorem dL_refused_148 : decode cL_refused 148 = .ok (.invokevirtual 125, 3) := by decide +kernel
theorem dL_refused_151 : decode cL_refused 151 = .ok (.iconst (-1), 1) := by decide +kernel
theorem dL_refused_152 : decode cL_refused 152 = .ok (.if_icmp .ne 243, 3) := by decide +kernel
theorem dL_refused_155 : decode cL_refused 155 = .ok (.aload_n 0, 1) := by decide +kernel
theorem dL_refused_156 : decode cL_refused 156 = .ok (.iconst 0, 1) := by decide +kernel
theorem dL_refused_157 : decode cL_refused 157 = .ok (.bipush 19, 2) := by decide +kernel
theorem dL_refused_159 : decode cL_refused 159 = .ok (.invokevirtual 125, 3) := by decide +kernel
theorem dL_refused_162 : decode cL_refused 162 = .ok (.bipush (-2), 2) := by decide +kernel
theorem dL_refused_164 : decode cL_refused 164 = .ok (.if_icmp .ne 231, 3) := by decide +kernel
theorem dL_refused_167 : decode cL_refused 167 = .ok (.aload_n 0, 1) := by decide +kernel
theorem dL_refused_168 : decode cL_refused 168 = .ok (.iconst 0, 1) := by decide +kernel
theorem dL_refused_169 : decode cL_refused 169 = .ok (.bipush 41, 2) := by decide +kernel
theorem dL_refused_171 : decode cL_refused 171 = .ok (.invokevirtual 125, 3) := by decide +kernel
theorem dL_refused_174 : decode cL_refused 174 = .ok (.bipush (-2), 2) := by decide +kernel
theorem dL_refused_176 : decode cL_refused 176 = .ok (.if_icmp .ne 219, 3) := by decide +kernel
theorem dL_refused_179 : decode cL_refused 179 = .ok (.aload_n 0, 1) := by decide +kernel
theorem dL_refused_180 : decode cL_refused 180 = .ok (.iload_n 3, 1) := by decide +kernel
theorem dL_refused_181 : decode cL_refused 181 = .ok (.iconst 0, 1) := by decide +kernel
theorem dL_refused_182 : decode cL_refused 182 = .ok (.iconst 0, 1) := by decide +kernel
theorem dL_refused_183 : decode cL_refused 183 = .ok (.iconst 0, 1) := by decide +kernel
theorem dL_refused_184 : decode cL_refused 184 = .ok (.iconst 1, 1) := by decide +kernel
theorem dL_refused_185 : decode cL_refused 185 = .ok (.invokevirtual 128, 3) := by decide +kernel
theorem dL_refused_188 : decode cL_refused 188 = .ok (.iconst (-1), 1) := by decide +kernel
theorem dL_refused_189 : decode cL_refused 189 = .ok (.if_icmp .ne 206, 3) := by decide +kernel
theorem dL_refused_192 : decode cL_refused 192 = .ok (.aload_n 0, 1) := by decide +kernel
theorem dL_refused_193 : decode cL_refused 193 = .ok (.iconst 0, 1) := by decide +kernel
theorem dL_refused_194 : decode cL_refused 194 = .ok (.iload 4, 2) := by decide +kernel
theorem dL_refused_196 : decode cL_refused 196 = .ok (.iconst 0, 1) := by decide +kernel
theorem dL_refused_197 : decode cL_refused 197 = .ok (.iconst 0, 1) := by decide +kernel
theorem dL_refused_198 : decode cL_refused 198 = .ok (.iconst 1, 1) := by decide +kernel
theorem dL_refused_199 : decode cL_refused 199 = .ok (.invokevirtual 128, 3) := by decide +kernel
theorem dL_refused_202 : decode cL_refused 202 = .ok (.iconst (-1), 1) := by decide +kernel
theorem dL_refused_203 : decode cL_refused 203 = .ok (.if_icmp .ne 192, 3) := by decide +kernel
theorem dL_refused_206 : decode cL_refused 206 = .ok (.aload_n 0, 1) := by decide +kernel
theorem dL_refused_207 : decode cL_refused 207 = .ok (.iconst 0, 1) := by decide +kernel
theorem dL_refused_208 : decode cL_refused 208 = .ok (.iconst 0, 1) := by decide +kernel
theorem dL_refused_209 : decode cL_refused 209 = .ok (.iload 6, 2) := by decide +kernel
theorem dL_refused_211 : decode cL_refused 211 = .ok (.iconst 1, 1) := by decide +kernel
theorem dL_refused_212 : decode cL_refused 212 = .ok (.isub, 1) := by decide +kernel
theorem dL_refused_213 : decode cL_refused 213 = .ok (.iconst 1, 1) := by decide +kernel
theorem dL_refused_214 : decode cL_refused 214 = .ok (.iconst 1, 1) := by decide +kernel
theorem dL_refused_215 : decode cL_refused 215 = .ok (.invokevirtual 128, 3) := by decide +kernel
theorem dL_refused_218 : decode cL_refused 218 = .ok (.bipush (-2), 2) := by decide +kernel
theorem dL_refused_220 : decode cL_refused 220 = .ok (.if_icmp .ne 175, 3) := by decide +kernel
theorem dL_refused_223 : decode cL_refused 223 = .ok (.aload_n 0, 1) := by decide +kernel
theorem dL_refused_224 : decode cL_refused 224 = .ok (.iconst 0, 1) := by decide +kernel
theorem dL_refused_225 : decode cL_refused 225 = .ok (.iconst 0, 1) := by decide +kernel
theorem dL_refused_226 : decode cL_refused 226 = .ok (.iload 7, 2) := by decide +kernel
theorem dL_refused_228 : decode cL_refused 228 = .ok (.iconst 1, 1) := by decide +kernel
theorem dL_refused_229 : decode cL_refused 229 = .ok (.iadd, 1) := by decide +kernel
theorem dL_refused_230 : decode cL_refused 230 = .ok (.iconst 1, 1) := by decide +kernel
theorem dL_refused_231 : decode cL_refused 231 = .ok (.iconst 1, 1) := by decide +kernel
theorem dL_refused_232 : decode cL_refused 232 = .ok (.invokevirtual 128, 3) := by decide +kernel
theorem dL_refused_235 : decode cL_refused 235 = .ok (.bipush (-2), 2) := by decide +kernel
theorem dL_refused_237 : decode cL_refused 237 = .ok (.if_icmp .ne 158, 3) := by decide +kernel
theorem dL_refused_240 : decode cL_refused 240 = .ok (.aload_n 0, 1) := by decide +kernel
theorem dL_refused_241 : decode cL_refused 241 = .ok (.iconst 0, 1) := by decide +kernel
theorem dL_refused_242 : decode cL_refused 242 = .ok (.iconst 0, 1) := by decide +kernel
theorem dL_refused_243 : decode cL_refused 243 = .ok (.iload 6, 2) := by decide +kernel
theorem dL_refused_245 : decode cL_refused 245 = .ok (.iconst 0, 1) := by decide +kernel
theorem dL_refused_246 : decode cL_refused 246 = .ok (.iconst 1, 1) := by decide +kernel
theorem dL_refused_247 : decode cL_refused 247 = .ok (.invokevirtual 128, 3) := by decide +kernel
theorem dL_refused_250 : decode cL_refused 250 = .ok (.bipush (-2), 2) := by decide +kernel
theorem dL_refused_252 : decode cL_refused 252 = .ok (.if_icmp .ne 143, 3) := by decide +kernel
theorem dL_refused_255 : decode cL_refused 255 = .ok (.aload_n 0, 1) := by decide +kernel
theorem dL_refused_256 : decode cL_refused 256 = .ok (.iconst 0, 1) := by decide +kernel
theorem dL_refused_257 : decode cL_refused 257 = .ok (.iconst 0, 1) := by decide +kernel
theorem dL_refused_258 : decode cL_refused 258 = .ok (.iload 6, 2) := by decide +kernel
theorem dL_refused_260 : decode cL_refused 260 = .ok (.bipush 21, 2) := by decide +kernel
theorem dL_refused_262 : decode cL_refused 262 = .ok (.iconst 1, 1) := by decide +kernel
theorem dL_refused_263 : decode cL_refused 263 = .ok (.invokevirtual 128, 3) := by decide +kernel
theorem dL_refused_266 : decode cL_refused 266 = .ok (.bipush (-2), 2) := by decide +kernel
theorem dL_refused_268 : decode cL_refused 268 = .ok (.if_icmp .ne 127, 3) := by decide +kernel
theorem dL_refused_271 : decode cL_refused 271 = .ok (.aload_n 0, 1) := by decide +kernel
theorem dL_refused_272 : decode cL_refused 272 = .ok (.iload_n 3, 1) := by decide +kernel
theorem dL_refused_273 : decode cL_refused 273 = .ok (.invokevirtual 131, 3) := by decide +kernel
theorem dL_refused_276 : decode cL_refused 276 = .ok (.iconst (-1), 1) := by decide +kernel
theorem dL_refused_277 : decode cL_refused 277 = .ok (.if_icmp .ne 118, 3) := by decide +kernel
theorem dL_refused_280 : decode cL_refused 280 = .ok (.aload_n 0, 1) := by decide +kernel
theorem dL_refused_281 : decode cL_refused 281 = .ok (.iconst (-1), 1) := by decide +kernel
theorem dL_refused_282 : decode cL_refused 282 = .ok (.invokevirtual 131, 3) := by decide +kernel
theorem dL_refused_285 : decode cL_refused 285 = .ok (.iconst (-1), 1) := by decide +kernel
theorem dL_refused_286 : decode cL_refused 286 = .ok (.if_icmp .ne 109, 3) := by decide +kernel
theorem dL_refused_289 : decode cL_refused 289 = .ok (.aload_n 0, 1) := by decide +kernel
theorem dL_refused_290 : decode cL_refused 290 = .ok (.iload_n 3, 1) := by decide +kernel
theorem dL_refused_291 : decode cL_refused 291 = .ok (.invokevirtual 134, 3) := by decide +kernel
theorem dL_refused_294 : decode cL_refused 294 = .ok (.iconst (-1), 1) := by decide +kernel
theorem dL_refused_295 : decode cL_refused 295 = .ok (.if_icmp .ne 100, 3) := by decide +kernel
theorem dL_refused_298 : decode cL_refused 298 = .ok (.aload_n 0, 1) := by decide +kernel
theorem dL_refused_299 : decode cL_refused 299 = .ok (.iconst (-1), 1) := by decide +kernel
theorem dL_refused_300 : decode cL_refused 300 = .ok (.invokevirtual 53, 3) := by decide +kernel
theorem dL_refused_303 : decode cL_refused 303 = .ok (.bipush (-2), 2) := by decide +kernel
theorem dL_refused_305 : decode cL_refused 305 = .ok (.if_icmp .ne 90, 3) := by decide +kernel
theorem dL_refused_308 : decode cL_refused 308 = .ok (.aload_n 0, 1) := by decide +kernel
theorem dL_refused_309 : decode cL_refused 309 = .ok (.bipush 10, 2) := by decide +kernel
theorem dL_refused_311 : decode cL_refused 311 = .ok (.invokevirtual 53, 3) := by decide +kernel
theorem dL_refused_314 : decode cL_refused 314 = .ok (.bipush (-2), 2) := by decide +kernel
theorem dL_refused_316 : decode cL_refused 316 = .ok (.if_icmp .ne 79, 3) := by decide +kernel
theorem dL_refused_319 : decode cL_refused 319 = .ok (.aload_n 0, 1) := by decide +kernel
theorem dL_refused_320 : decode cL_refused 320 = .ok (.iconst (-1), 1) := by decide +kernel
theorem dL_refused_321 : decode cL_refused 321 = .ok (.invokevirtual 56, 3) := by decide +kernel
theorem dL_refused_324 : decode cL_refused 324 = .ok (.bipush (-2), 2) := by decide +kernel
theorem dL_refused_326 : decode cL_refused 326 = .ok (.if_icmp .ne 69, 3) := by decide +kernel
theorem dL_refused_329 : decode cL_refused 329 = .ok (.aload_n 0, 1) := by decide +kernel
theorem dL_refused_330 : decode cL_refused 330 = .ok (.bipush 10, 2) := by decide +kernel
theorem dL_refused_332 : decode cL_refused 332 = .ok (.invokevirtual 56, 3) := by decide +kernel
theorem dL_refused_335 : decode cL_refused 335 = .ok (.bipush (-2), 2) := by decide +kernel
theorem dL_refused_337 : decode cL_refused 337 = .ok (.if_icmp .ne 58, 3) := by decide +kernel
theorem dL_refused_340 : decode cL_refused 340 = .ok (.aload_n 0, 1) := by decide +kernel
theorem dL_refused_341 : decode cL_refused 341 = .ok (.iconst 0, 1) := by decide +kernel
theorem dL_refused_342 : decode cL_refused 342 = .ok (.invokevirtual 137, 3) := by decide +kernel
theorem dL_refused_345 : decode cL_refused 345 = .ok (.bipush (-2), 2) := by decide +kernel
theorem dL_refused_347 : decode cL_refused 347 = .ok (.if_icmp .ne 48, 3) := by decide +kernel
theorem dL_refused_350 : decode cL_refused 350 = .ok (.aload_n 0, 1) := by decide +kernel
theorem dL_refused_351 : decode cL_refused 351 = .ok (.bipush 21, 2) := by decide +kernel
theorem dL_refused_353 : decode cL_refused 353 = .ok (.invokevirtual 137, 3) := by decide +kernel
theorem dL_refused_356 : decode cL_refused 356 = .ok (.bipush (-2), 2) := by decide +kernel
theorem dL_refused_358 : decode cL_refused 358 = .ok (.if_icmp .ne 37, 3) := by decide +kernel
theorem dL_refused_361 : decode cL_refused 361 = .ok (.aload_n 0, 1) := by decide +kernel
theorem dL_refused_362 : decode cL_refused 362 = .ok (.iconst 2, 1) := by decide +kernel
theorem dL_refused_363 : decode cL_refused 363 = .ok (.invokevirtual 140, 3) := by decide +kernel
theorem dL_refused_366 : decode cL_refused 366 = .ok (.iconst (-1), 1) := by decide +kernel
theorem dL_refused_367 : decode cL_refused 367 = .ok (.if_icmp .ne 28, 3) := by decide +kernel
theorem dL_refused_370 : decode cL_refused 370 = .ok (.aload_n 0, 1) := by decide +kernel
theorem dL_refused_371 : decode cL_refused 371 = .ok (.iconst 0, 1) := by decide +kernel
theorem dL_refused_372 : decode cL_refused 372 = .ok (.invokevirtual 59, 3) := by decide +kernel
theorem dL_refused_375 : decode cL_refused 375 = .ok (.bipush (-2), 2) := by decide +kernel
theorem dL_refused_377 : decode cL_refused 377 = .ok (.if_icmp .ne 18, 3) := by decide +kernel
theorem dL_refused_380 : decode cL_refused 380 = .ok (.aload_n 0, 1) := by decide +kernel
theorem dL_refused_381 : decode cL_refused 381 = .ok (.bipush 25, 2) := by decide +kernel
theorem dL_refused_383 : decode cL_refused 383 = .ok (.invokevirtual 59, 3) := by decide +kernel
theorem dL_refused_386 : decode cL_refused 386 = .ok (.bipush (-2), 2) := by decide +kernel
theorem dL_refused_388 : decode cL_refused 388 = .ok (.if_icmp .ne 7, 3) := by decide +kernel
theorem dL_refused_391 : decode cL_refused 391 = .ok (.iconst 1, 1) := by decide +kernel
theorem dL_refused_392 : decode cL_refused 392 = .ok (.goto 4, 3) := by decide +kernel
theorem dL_refused_395 : decode cL_refused 395 = .ok (.iconst 0, 1) := by decide +kernel
theorem dL_refused_396 : decode cL_refused 396 = .ok (.istore 8, 2) := by decide +kernel
theorem dL_refused_398 : decode cL_refused 398 = .ok (.iload 8, 2) := by decide +kernel
theorem dL_refused_400 : decode cL_refused 400 = .ok (.ifCond .eq 418, 3) := by decide +kernel
theorem dL_refused_403 : decode cL_refused 403 = .ok (.aload_n 0, 1) := by decide +kernel
theorem dL_refused_404 : decode cL_refused 404 = .ok (.iload_n 3, 1) := by decide +kernel
theorem dL_refused_405 : decode cL_refused 405 = .ok (.bipush 9, 2) := by decide +kernel
theorem dL_refused_407 : decode cL_refused 407 = .ok (.invokevirtual 87, 3) := by decide +kernel
theorem dL_refused_410 : decode cL_refused 410 = .ok (.iconst (-1), 1) := by decide +kernel
theorem dL_refused_411 : decode cL_refused 411 = .ok (.if_icmp .ne 407, 3) := by decide +kernel
theorem dL_refused_414 : decode cL_refused 414 = .ok (.aload_n 0, 1) := by decide +kernel
theorem dL_refused_415 : decode cL_refused 415 = .ok (.iconst 0, 1) := by decide +kernel
theorem dL_refused_416 : decode cL_refused 416 = .ok (.bipush 9, 2) := by decide +kernel
theorem dL_refused_418 : decode cL_refused 418 = .ok (.invokevirtual 87, 3) := by decide +kernel
theorem dL_refused_421 : decode cL_refused 421 = .ok (.bipush (-2), 2) := by decide +kernel
theorem dL_refused_423 : decode cL_refused 423 = .ok (.if_icmp .ne 395, 3) := by decide +kernel
theorem dL_refused_426 : decode cL_refused 426 = .ok (.aload_n 0, 1) := by decide +kernel
theorem dL_refused_427 : decode cL_refused 427 = .ok (.iconst 0, 1) := by decide +kernel
theorem dL_refused_428 : decode cL_refused 428 = .ok (.iconst (-1), 1) := by decide +kernel
theorem dL_refused_429 : decode cL_refused 429 = .ok (.invokevirtual 87, 3) := by decide +kernel
theorem dL_refused_432 : decode cL_refused 432 = .ok (.bipush (-2), 2) := by decide +kernel
theorem dL_refused_434 : decode cL_refused 434 = .ok (.if_icmp .ne 384, 3) := by decide +kernel
theorem dL_refused_437 : decode cL_refused 437 = .ok (.aload_n 0, 1) := by decide +kernel
theorem dL_refused_438 : decode cL_refused 438 = .ok (.iload 4, 2) := by decide +kernel
theorem dL_refused_440 : decode cL_refused 440 = .ok (.bipush 9, 2) := by decide +kernel
theorem dL_refused_442 : decode cL_refused 442 = .ok (.invokevirtual 113, 3) := by decide +kernel
theorem dL_refused_445 : decode cL_refused 445 = .ok (.iconst (-1), 1) := by decide +kernel
theorem dL_refused_446 : decode cL_refused 446 = .ok (.if_icmp .ne 372, 3) := by decide +kernel
theorem dL_refused_449 : decode cL_refused 449 = .ok (.aload_n 0, 1) := by decide +kernel
theorem dL_refused_450 : decode cL_refused 450 = .ok (.iconst 0, 1) := by decide +kernel
theorem dL_refused_451 : decode cL_refused 451 = .ok (.bipush 8, 2) := by decide +kernel
theorem dL_refused_453 : decode cL_refused 453 = .ok (.invokevirtual 113, 3) := by decide +kernel
theorem dL_refused_456 : decode cL_refused 456 = .ok (.bipush (-2), 2) := by decide +kernel
theorem dL_refused_458 : decode cL_refused 458 = .ok (.if_icmp .ne 360, 3) := by decide +kernel
theorem dL_refused_461 : decode cL_refused 461 = .ok (.aload_n 0, 1) := by decide +kernel
theorem dL_refused_462 : decode cL_refused 462 = .ok (.iconst 0, 1) := by decide +kernel
theorem dL_refused_463 : decode cL_refused 463 = .ok (.iconst (-1), 1) := by decide +kernel
theorem dL_refused_464 : decode cL_refused 464 = .ok (.invokevirtual 113, 3) := by decide +kernel
theorem dL_refused_467 : decode cL_refused 467 = .ok (.bipush (-2), 2) := by decide +kernel
theorem dL_refused_469 : decode cL_refused 469 = .ok (.if_icmp .ne 349, 3) := by decide +kernel
theorem dL_refused_472 : decode cL_refused 472 = .ok (.aload_n 0, 1) := by decide +kernel
theorem dL_refused_473 : decode cL_refused 473 = .ok (.iconst 2, 1) := by decide +kernel
theorem dL_refused_474 : decode cL_refused 474 = .ok (.bipush 9, 2) := by decide +kernel
theorem dL_refused_476 : decode cL_refused 476 = .ok (.invokevirtual 116, 3) := by decide +kernel
theorem dL_refused_479 : decode cL_refused 479 = .ok (.iconst (-1), 1) := by decide +kernel
theorem dL_refused_480 : decode cL_refused 480 = .ok (.if_icmp .ne 338, 3) := by decide +kernel
theorem dL_refused_483 : decode cL_refused 483 = .ok (.aload_n 0, 1) := by decide +kernel
theorem dL_refused_484 : decode cL_refused 484 = .ok (.iconst 0, 1) := by decide +kernel
theorem dL_refused_485 : decode cL_refused 485 = .ok (.bipush 6, 2) := by decide +kernel
theorem dL_refused_487 : decode cL_refused 487 = .ok (.invokevirtual 116, 3) := by decide +kernel
theorem dL_refused_490 : decode cL_refused 490 = .ok (.bipush (-2), 2) := by decide +kernel
theorem dL_refused_492 : decode cL_refused 492 = .ok (.if_icmp .ne 326, 3) := by decide +kernel
theorem dL_refused_495 : decode cL_refused 495 = .ok (.aload_n 0, 1) := by decide +kernel
theorem dL_refused_496 : decode cL_refused 496 = .ok (.iconst 0, 1) := by decide +kernel
theorem dL_refused_497 : decode cL_refused 497 = .ok (.iconst (-1), 1) := by decide +kernel
theorem dL_refused_498 : decode cL_refused 498 = .ok (.invokevirtual 116, 3) := by decide +kernel
theorem dL_refused_501 : decode cL_refused 501 = .ok (.bipush (-2), 2) := by decide +kernel
theorem dL_refused_503 : decode cL_refused 503 = .ok (.if_icmp .ne 315, 3) := by decide +kernel
theorem dL_refused_506 : decode cL_refused 506 = .ok (.aload_n 0, 1) := by decide +kernel
theorem dL_refused_507 : decode cL_refused 507 = .ok (.iload_n 3, 1) := by decide +kernel
theorem dL_refused_508 : decode cL_refused 508 = .ok (.invokevirtual 119, 3) := by decide +kernel
theorem dL_refused_511 : decode cL_refused 511 = .ok (.iconst (-1), 1) := by decide +kernel
theorem dL_refused_512 : decode cL_refused 512 = .ok (.if_icmp .ne 306, 3) := by decide +kernel
theorem dL_refused_515 : decode cL_refused 515 = .ok (.aload_n 0, 1) := by decide +kernel
theorem dL_refused_516 : decode cL_refused 516 = .ok (.iconst (-1), 1) := by decide +kernel
theorem dL_refused_517 : decode cL_refused 517 = .ok (.invokevirtual 119, 3) := by decide +kernel
theorem dL_refused_520 : decode cL_refused 520 = .ok (.iconst (-1), 1) := by decide +kernel
theorem dL_refused_521 : decode cL_refused 521 = .ok (.if_icmp .ne 297, 3) := by decide +kernel
theorem dL_refused_524 : decode cL_refused 524 = .ok (.aload_n 0, 1) := by decide +kernel
theorem dL_refused_525 : decode cL_refused 525 = .ok (.iload_n 3, 1) := by decide +kernel
theorem dL_refused_526 : decode cL_refused 526 = .ok (.iconst 0, 1) := by decide +kernel
theorem dL_refused_527 : decode cL_refused 527 = .ok (.invokevirtual 90, 3) := by decide +kernel
theorem dL_refused_530 : decode cL_refused 530 = .ok (.iconst (-1), 1) := by decide +kernel
theorem dL_refused_531 : decode cL_refused 531 = .ok (.if_icmp .ne 287, 3) := by decide +kernel
theorem dL_refused_534 : decode cL_refused 534 = .ok (.aload_n 0, 1) := by decide +kernel
theorem dL_refused_535 : decode cL_refused 535 = .ok (.iconst 0, 1) := by decide +kernel
theorem dL_refused_536 : decode cL_refused 536 = .ok (.bipush 16, 2) := by decide +kernel
theorem dL_refused_538 : decode cL_refused 538 = .ok (.invokevirtual 90, 3) := by decide +kernel
theorem dL_refused_541 : decode cL_refused 541 = .ok (.bipush (-4), 2) := by decide +kernel
theorem dL_refused_543 : decode cL_refused 543 = .ok (.if_icmp .ne 275, 3) := by decide +kernel
theorem dL_refused_546 : decode cL_refused 546 = .ok (.aload_n 0, 1) := by decide +kernel
theorem dL_refused_547 : decode cL_refused 547 = .ok (.iconst 0, 1) := by decide +kernel
theorem dL_refused_548 : decode cL_refused 548 = .ok (.iconst (-1), 1) := by decide +kernel
theorem dL_refused_549 : decode cL_refused 549 = .ok (.invokevirtual 90, 3) := by decide +kernel
theorem dL_refused_552 : decode cL_refused 552 = .ok (.bipush (-4), 2) := by decide +kernel
theorem dL_refused_554 : decode cL_refused 554 = .ok (.if_icmp .ne 264, 3) := by decide +kernel
theorem dL_refused_557 : decode cL_refused 557 = .ok (.aload_n 0, 1) := by decide +kernel
theorem dL_refused_558 : decode cL_refused 558 = .ok (.iload_n 3, 1) := by decide +kernel
theorem dL_refused_559 : decode cL_refused 559 = .ok (.iconst 1, 1) := by decide +kernel
theorem dL_refused_560 : decode cL_refused 560 = .ok (.invokevirtual 101, 3) := by decide +kernel
theorem dL_refused_563 : decode cL_refused 563 = .ok (.iconst (-1), 1) := by decide +kernel
theorem dL_refused_564 : decode cL_refused 564 = .ok (.if_icmp .ne 254, 3) := by decide +kernel
theorem dL_refused_567 : decode cL_refused 567 = .ok (.aload_n 0, 1) := by decide +kernel
theorem dL_refused_568 : decode cL_refused 568 = .ok (.iload_n 3, 1) := by decide +kernel
theorem dL_refused_569 : decode cL_refused 569 = .ok (.iconst 0, 1) := by decide +kernel
theorem dL_refused_570 : decode cL_refused 570 = .ok (.iconst 0, 1) := by decide +kernel
theorem dL_refused_571 : decode cL_refused 571 = .ok (.iconst 0, 1) := by decide +kernel
theorem dL_refused_572 : decode cL_refused 572 = .ok (.iconst 1, 1) := by decide +kernel
theorem dL_refused_573 : decode cL_refused 573 = .ok (.invokevirtual 93, 3) := by decide +kernel
theorem dL_refused_576 : decode cL_refused 576 = .ok (.iconst (-1), 1) := by decide +kernel
theorem dL_refused_577 : decode cL_refused 577 = .ok (.if_icmp .ne 241, 3) := by decide +kernel
theorem dL_refused_580 : decode cL_refused 580 = .ok (.aload_n 0, 1) := by decide +kernel
theorem dL_refused_581 : decode cL_refused 581 = .ok (.iconst 0, 1) := by decide +kernel
theorem dL_refused_582 : decode cL_refused 582 = .ok (.iload 4, 2) := by decide +kernel
theorem dL_refused_584 : decode cL_refused 584 = .ok (.iconst 0, 1) := by decide +kernel
theorem dL_refused_585 : decode cL_refused 585 = .ok (.iconst 0, 1) := by decide +kernel
theorem dL_refused_586 : decode cL_refused 586 = .ok (.iconst 1, 1) := by decide +kernel
theorem dL_refused_587 : decode cL_refused 587 = .ok (.invokevirtual 93, 3) := by decide +kernel
theorem dL_refused_590 : decode cL_refused 590 = .ok (.iconst (-1), 1) := by decide +kernel
theorem dL_refused_591 : decode cL_refused 591 = .ok (.if_icmp .ne 227, 3) := by decide +kernel
theorem dL_refused_594 : decode cL_refused 594 = .ok (.aload_n 0, 1) := by decide +kernel
theorem dL_refused_595 : decode cL_refused 595 = .ok (.iconst 0, 1) := by decide +kernel
theorem dL_refused_596 : decode cL_refused 596 = .ok (.iconst 0, 1) := by decide +kernel
theorem dL_refused_597 : decode cL_refused 597 = .ok (.iload 7, 2) := by decide +kernel
theorem dL_refused_599 : decode cL_refused 599 = .ok (.iconst 1, 1) := by decide +kernel
theorem dL_refused_600 : decode cL_refused 600 = .ok (.iadd, 1) := by decide +kernel
theorem dL_refused_601 : decode cL_refused 601 = .ok (.iconst 1, 1) := by decide +kernel
theorem dL_refused_602 : decode cL_refused 602 = .ok (.iconst 1, 1) := by decide +kernel
theorem dL_refused_603 : decode cL_refused 603 = .ok (.invokevirtual 93, 3) := by decide +kernel
theorem dL_refused_606 : decode cL_refused 606 = .ok (.bipush (-2), 2) := by decide +kernel
theorem dL_refused_608 : decode cL_refused 608 = .ok (.if_icmp .ne 210, 3) := by decide +kernel
theorem dL_refused_611 : decode cL_refused 611 = .ok (.aload_n 0, 1) := by decide +kernel
theorem dL_refused_612 : decode cL_refused 612 = .ok (.iconst 0, 1) := by decide +kernel
theorem dL_refused_613 : decode cL_refused 613 = .ok (.iconst 0, 1) := by decide +kernel
theorem dL_refused_614 : decode cL_refused 614 = .ok (.iload 6, 2) := by decide +kernel
theorem dL_refused_616 : decode cL_refused 616 = .ok (.bipush 21, 2) := by decide +kernel
theorem dL_refused_618 : decode cL_refused 618 = .ok (.iconst 1, 1) := by decide +kernel
theorem dL_refused_619 : decode cL_refused 619 = .ok (.invokevirtual 93, 3) := by decide +kernel
theorem dL_refused_622 : decode cL_refused 622 = .ok (.bipush (-2), 2) := by decide +kernel
theorem dL_refused_624 : decode cL_refused 624 = .ok (.if_icmp .ne 194, 3) := by decide +kernel
theorem dL_refused_627 : decode cL_refused 627 = .ok (.aload_n 0, 1) := by decide +kernel
theorem dL_refused_628 : decode cL_refused 628 = .ok (.iload_n 3, 1) := by decide +kernel
theorem dL_refused_629 : decode cL_refused 629 = .ok (.iconst 0, 1) := by decide +kernel
theorem dL_refused_630 : decode cL_refused 630 = .ok (.iconst 0, 1) := by decide +kernel
theorem dL_refused_631 : decode cL_refused 631 = .ok (.iconst 1, 1) := by decide +kernel
theorem dL_refused_632 : decode cL_refused 632 = .ok (.invokevirtual 97, 3) := by decide +kernel
theorem dL_refused_635 : decode cL_refused 635 = .ok (.iconst (-1), 1) := by decide +kernel
theorem dL_refused_636 : decode cL_refused 636 = .ok (.if_icmp .ne 182, 3) := by decide +kernel
theorem dL_refused_639 : decode cL_refused 639 = .ok (.aload_n 0, 1) := by decide +kernel
theorem dL_refused_640 : decode cL_refused 640 = .ok (.iconst 0, 1) := by decide +kernel
theorem dL_refused_641 : decode cL_refused 641 = .ok (.iconst (-1), 1) := by decide +kernel
theorem dL_refused_642 : decode cL_refused 642 = .ok (.iconst 0, 1) := by decide +kernel
theorem dL_refused_643 : decode cL_refused 643 = .ok (.iconst 1, 1) := by decide +kernel
theorem dL_refused_644 : decode cL_refused 644 = .ok (.invokevirtual 97, 3) := by decide +kernel
theorem dL_refused_647 : decode cL_refused 647 = .ok (.iconst (-1), 1) := by decide +kernel
theorem dL_refused_648 : decode cL_refused 648 = .ok (.if_icmp .ne 170, 3) := by decide +kernel
theorem dL_refused_651 : decode cL_refused 651 = .ok (.aload_n 0, 1) := by decide +kernel
theorem dL_refused_652 : decode cL_refused 652 = .ok (.iconst 0, 1) := by decide +kernel
theorem dL_refused_653 : decode cL_refused 653 = .ok (.iconst 0, 1) := by decide +kernel
theorem dL_refused_654 : decode cL_refused 654 = .ok (.iload 6, 2) := by decide +kernel
theorem dL_refused_656 : decode cL_refused 656 = .ok (.iconst 1, 1) := by decide +kernel
theorem dL_refused_657 : decode cL_refused 657 = .ok (.isub, 1) := by decide +kernel
theorem dL_refused_658 : decode cL_refused 658 = .ok (.iconst 1, 1) := by decide +kernel
theorem dL_refused_659 : decode cL_refused 659 = .ok (.invokevirtual 97, 3) := by decide +kernel
theorem dL_refused_662 : decode cL_refused 662 = .ok (.bipush (-2), 2) := by decide +kernel
theorem dL_refused_664 : decode cL_refused 664 = .ok (.if_icmp .ne 154, 3) := by decide +kernel
theorem dL_refused_667 : decode cL_refused 667 = .ok (.aload_n 0, 1) := by decide +kernel
theorem dL_refused_668 : decode cL_refused 668 = .ok (.iload_n 3, 1) := by decide +kernel
theorem dL_refused_669 : decode cL_refused 669 = .ok (.bipush 99, 2) := by decide +kernel
theorem dL_refused_671 : decode cL_refused 671 = .ok (.invokevirtual 104, 3) := by decide +kernel
theorem dL_refused_674 : decode cL_refused 674 = .ok (.iconst (-1), 1) := by decide +kernel
theorem dL_refused_675 : decode cL_refused 675 = .ok (.if_icmp .ne 143, 3) := by decide +kernel
theorem dL_refused_678 : decode cL_refused 678 = .ok (.aload_n 0, 1) := by decide +kernel
theorem dL_refused_679 : decode cL_refused 679 = .ok (.iconst 0, 1) := by decide +kernel
theorem dL_refused_680 : decode cL_refused 680 = .ok (.bipush 41, 2) := by decide +kernel
theorem dL_refused_682 : decode cL_refused 682 = .ok (.invokevirtual 104, 3) := by decide +kernel
theorem dL_refused_685 : decode cL_refused 685 = .ok (.bipush (-2), 2) := by decide +kernel
theorem dL_refused_687 : decode cL_refused 687 = .ok (.if_icmp .ne 131, 3) := by decide +kernel
theorem dL_refused_690 : decode cL_refused 690 = .ok (.aload_n 0, 1) := by decide +kernel
theorem dL_refused_691 : decode cL_refused 691 = .ok (.iconst 0, 1) := by decide +kernel
theorem dL_refused_692 : decode cL_refused 692 = .ok (.iconst (-1), 1) := by decide +kernel
theorem dL_refused_693 : decode cL_refused 693 = .ok (.invokevirtual 104, 3) := by decide +kernel
theorem dL_refused_696 : decode cL_refused 696 = .ok (.bipush (-2), 2) := by decide +kernel
theorem dL_refused_698 : decode cL_refused 698 = .ok (.if_icmp .ne 120, 3) := by decide +kernel
theorem dL_refused_701 : decode cL_refused 701 = .ok (.aload_n 0, 1) := by decide +kernel
theorem dL_refused_702 : decode cL_refused 702 = .ok (.iconst (-1), 1) := by decide +kernel
theorem dL_refused_703 : decode cL_refused 703 = .ok (.iconst 0, 1) := by decide +kernel
theorem dL_refused_704 : decode cL_refused 704 = .ok (.invokevirtual 107, 3) := by decide +kernel
theorem dL_refused_707 : decode cL_refused 707 = .ok (.iconst (-1), 1) := by decide +kernel
theorem dL_refused_708 : decode cL_refused 708 = .ok (.if_icmp .ne 110, 3) := by decide +kernel
theorem dL_refused_711 : decode cL_refused 711 = .ok (.aload_n 0, 1) := by decide +kernel
theorem dL_refused_712 : decode cL_refused 712 = .ok (.iconst 0, 1) := by decide +kernel
theorem dL_refused_713 : decode cL_refused 713 = .ok (.bipush 41, 2) := by decide +kernel
theorem dL_refused_715 : decode cL_refused 715 = .ok (.invokevirtual 107, 3) := by decide +kernel
theorem dL_refused_718 : decode cL_refused 718 = .ok (.bipush (-2), 2) := by decide +kernel
theorem dL_refused_720 : decode cL_refused 720 = .ok (.if_icmp .ne 98, 3) := by decide +kernel
theorem dL_refused_723 : decode cL_refused 723 = .ok (.aload_n 0, 1) := by decide +kernel
theorem dL_refused_724 : decode cL_refused 724 = .ok (.iload_n 3, 1) := by decide +kernel
theorem dL_refused_725 : decode cL_refused 725 = .ok (.invokevirtual 110, 3) := by decide +kernel
theorem dL_refused_728 : decode cL_refused 728 = .ok (.iconst (-1), 1) := by decide +kernel
theorem dL_refused_729 : decode cL_refused 729 = .ok (.if_icmp .ne 89, 3) := by decide +kernel
theorem dL_refused_732 : decode cL_refused 732 = .ok (.aload_n 0, 1) := by decide +kernel
theorem dL_refused_733 : decode cL_refused 733 = .ok (.iload_n 3, 1) := by decide +kernel
theorem dL_refused_734 : decode cL_refused 734 = .ok (.invokevirtual 30, 3) := by decide +kernel
theorem dL_refused_737 : decode cL_refused 737 = .ok (.iconst (-1), 1) := by decide +kernel
theorem dL_refused_738 : decode cL_refused 738 = .ok (.if_icmp .ne 80, 3) := by decide +kernel
theorem dL_refused_741 : decode cL_refused 741 = .ok (.aload_n 0, 1) := by decide +kernel
theorem dL_refused_742 : decode cL_refused 742 = .ok (.iconst (-1), 1) := by decide +kernel
theorem dL_refused_743 : decode cL_refused 743 = .ok (.invokevirtual 34, 3) := by decide +kernel
theorem dL_refused_746 : decode cL_refused 746 = .ok (.iconst (-1), 1) := by decide +kernel
theorem dL_refused_747 : decode cL_refused 747 = .ok (.if_icmp .ne 71, 3) := by decide +kernel
theorem dL_refused_750 : decode cL_refused 750 = .ok (.aload_n 0, 1) := by decide +kernel
theorem dL_refused_751 : decode cL_refused 751 = .ok (.bipush 110, 2) := by decide +kernel
theorem dL_refused_753 : decode cL_refused 753 = .ok (.invokevirtual 34, 3) := by decide +kernel
theorem dL_refused_756 : decode cL_refused 756 = .ok (.iconst (-1), 1) := by decide +kernel
theorem dL_refused_757 : decode cL_refused 757 = .ok (.if_icmp .ne 61, 3) := by decide +kernel
theorem dL_refused_760 : decode cL_refused 760 = .ok (.aload_n 0, 1) := by decide +kernel
theorem dL_refused_761 : decode cL_refused 761 = .ok (.bipush 31, 2) := by decide +kernel
theorem dL_refused_763 : decode cL_refused 763 = .ok (.invokevirtual 17, 3) := by decide +kernel
theorem dL_refused_766 : decode cL_refused 766 = .ok (.bipush (-2), 2) := by decide +kernel
theorem dL_refused_768 : decode cL_refused 768 = .ok (.if_icmp .ne 50, 3) := by decide +kernel
theorem dL_refused_771 : decode cL_refused 771 = .ok (.aload_n 0, 1) := by decide +kernel
theorem dL_refused_772 : decode cL_refused 772 = .ok (.bipush 127, 2) := by decide +kernel
theorem dL_refused_774 : decode cL_refused 774 = .ok (.invokevirtual 17, 3) := by decide +kernel
theorem dL_refused_777 : decode cL_refused 777 = .ok (.bipush (-2), 2) := by decide +kernel
theorem dL_refused_779 : decode cL_refused 779 = .ok (.if_icmp .ne 39, 3) := by decide +kernel
theorem dL_refused_782 : decode cL_refused 782 = .ok (.aload_n 0, 1) := by decide +kernel
theorem dL_refused_783 : decode cL_refused 783 = .ok (.bipush 15, 2) := by decide +kernel
theorem dL_refused_785 : decode cL_refused 785 = .ok (.invokevirtual 84, 3) := by decide +kernel
theorem dL_refused_788 : decode cL_refused 788 = .ok (.bipush (-2), 2) := by decide +kernel
theorem dL_refused_790 : decode cL_refused 790 = .ok (.if_icmp .ne 28, 3) := by decide +kernel
theorem dL_refused_793 : decode cL_refused 793 = .ok (.aload_n 0, 1) := by decide +kernel
theorem dL_refused_794 : decode cL_refused 794 = .ok (.iconst (-1), 1) := by decide +kernel
theorem dL_refused_795 : decode cL_refused 795 = .ok (.invokevirtual 84, 3) := by decide +kernel
theorem dL_refused_798 : decode cL_refused 798 = .ok (.bipush (-2), 2) := by decide +kernel
theorem dL_refused_800 : decode cL_refused 800 = .ok (.if_icmp .ne 18, 3) := by decide +kernel
theorem dL_refused_803 : decode cL_refused 803 = .ok (.aload_n 0, 1) := by decide +kernel
theorem dL_refused_804 : decode cL_refused 804 = .ok (.iconst 0, 1) := by decide +kernel
theorem dL_refused_805 : decode cL_refused 805 = .ok (.iconst 0, 1) := by decide +kernel
theorem dL_refused_806 : decode cL_refused 806 = .ok (.invokevirtual 26, 3) := by decide +kernel
theorem dL_refused_809 : decode cL_refused 809 = .ok (.iload 5, 2) := by decide +kernel
theorem dL_refused_811 : decode cL_refused 811 = .ok (.if_icmp .ne 7, 3) := by decide +kernel
theorem dL_refused_814 : decode cL_refused 814 = .ok (.iconst 1, 1) := by decide +kernel
theorem dL_refused_815 : decode cL_refused 815 = .ok (.goto 4, 3) := by decide +kernel
theorem dL_refused_818 : decode cL_refused 818 = .ok (.iconst 0, 1) := by decide +kernel
theorem dL_refused_819 : decode cL_refused 819 = .ok (.istore 8, 2) := by decide +kernel
theorem dL_refused_821 : decode cL_refused 821 = .ok (.iload 8, 2) := by decide +kernel
theorem dL_refused_823 : decode cL_refused 823 = .ok (.ifCond .eq 75, 3) := by decide +kernel
theorem dL_refused_826 : decode cL_refused 826 = .ok (.aload_n 0, 1) := by decide +kernel
theorem dL_refused_827 : decode cL_refused 827 = .ok (.ldc 174, 2) := by decide +kernel
theorem dL_refused_829 : decode cL_refused 829 = .ok (.invokestatic 166, 3) := by decide +kernel
theorem dL_refused_832 : decode cL_refused 832 = .ok (.bipush (-2), 2) := by decide +kernel
theorem dL_refused_834 : decode cL_refused 834 = .ok (.if_icmp .ne 64, 3) := by decide +kernel
theorem dL_refused_837 : decode cL_refused 837 = .ok (.aload_n 0, 1) := by decide +kernel
theorem dL_refused_838 : decode cL_refused 838 = .ok (.invokevirtual 176, 3) := by decide +kernel
theorem dL_refused_841 : decode cL_refused 841 = .ok (.ifCond .ne 57, 3) := by decide +kernel
theorem dL_refused_844 : decode cL_refused 844 = .ok (.aload_n 0, 1) := by decide +kernel
theorem dL_refused_845 : decode cL_refused 845 = .ok (.iconst 0, 1) := by decide +kernel
theorem dL_refused_846 : decode cL_refused 846 = .ok (.iconst 0, 1) := by decide +kernel
theorem dL_refused_847 : decode cL_refused 847 = .ok (.invokevirtual 26, 3) := by decide +kernel
theorem dL_refused_850 : decode cL_refused 850 = .ok (.iload 5, 2) := by decide +kernel
theorem dL_refused_852 : decode cL_refused 852 = .ok (.if_icmp .ne 46, 3) := by decide +kernel
theorem dL_refused_855 : decode cL_refused 855 = .ok (.aload_n 0, 1) := by decide +kernel
theorem dL_refused_856 : decode cL_refused 856 = .ok (.ldc 179, 2) := by decide +kernel
theorem dL_refused_858 : decode cL_refused 858 = .ok (.invokestatic 166, 3) := by decide +kernel
theorem dL_refused_861 : decode cL_refused 861 = .ok (.bipush (-3), 2) := by decide +kernel
theorem dL_refused_863 : decode cL_refused 863 = .ok (.if_icmp .ne 35, 3) := by decide +kernel
theorem dL_refused_866 : decode cL_refused 866 = .ok (.aload_n 0, 1) := by decide +kernel
theorem dL_refused_867 : decode cL_refused 867 = .ok (.iconst 2, 1) := by decide +kernel
theorem dL_refused_868 : decode cL_refused 868 = .ok (.newarray .int, 2) := by decide +kernel
theorem dL_refused_870 : decode cL_refused 870 = .ok (.dup, 1) := by decide +kernel
theorem dL_refused_871 : decode cL_refused 871 = .ok (.iconst 0, 1) := by decide +kernel
theorem dL_refused_872 : decode cL_refused 872 = .ok (.bipush 12, 2) := by decide +kernel
theorem dL_refused_874 : decode cL_refused 874 = .ok (.iastore, 1) := by decide +kernel
theorem dL_refused_875 : decode cL_refused 875 = .ok (.dup, 1) := by decide +kernel
theorem dL_refused_876 : decode cL_refused 876 = .ok (.iconst 1, 1) := by decide +kernel
theorem dL_refused_877 : decode cL_refused 877 = .ok (.iconst 1, 1) := by decide +kernel
theorem dL_refused_878 : decode cL_refused 878 = .ok (.iastore, 1) := by decide +kernel
theorem dL_refused_879 : decode cL_refused 879 = .ok (.invokestatic 181, 3) := by decide +kernel
theorem dL_refused_882 : decode cL_refused 882 = .ok (.ifCond .eq 16, 3) := by decide +kernel
theorem dL_refused_885 : decode cL_refused 885 = .ok (.aload_n 0, 1) := by decide +kernel
theorem dL_refused_886 : decode cL_refused 886 = .ok (.invokestatic 170, 3) := by decide +kernel
theorem dL_refused_889 : decode cL_refused 889 = .ok (.lload_n 1, 1) := by decide +kernel
theorem dL_refused_890 : decode cL_refused 890 = .ok (.lcmp, 1) := by decide +kernel
theorem dL_refused_891 : decode cL_refused 891 = .ok (.ifCond .ne 7, 3) := by decide +kernel
theorem dL_refused_894 : decode cL_refused 894 = .ok (.iconst 1, 1) := by decide +kernel
theorem dL_refused_895 : decode cL_refused 895 = .ok (.goto 4, 3) := by decide +kernel
theorem dL_refused_898 : decode cL_refused 898 = .ok (.iconst 0, 1) := by decide +kernel
theorem dL_refused_899 : decode cL_refused 899 = .ok (.ireturn, 1) := by decide +kernel
theorem dL_law_0 : decode cL_law 0 = .ok (.new 18, 3) := by decide +kernel
theorem dL_law_3 : decode cL_law 3 = .ok (.dup, 1) := by decide +kernel
theorem dL_law_4 : decode cL_law 4 = .ok (.invokespecial 185, 3) := by decide +kernel
theorem dL_law_7 : decode cL_law 7 = .ok (.astore_n 1, 1) := by decide +kernel
theorem dL_law_8 : decode cL_law 8 = .ok (.aload_n 1, 1) := by decide +kernel
theorem dL_law_9 : decode cL_law 9 = .ok (.invokevirtual 186, 3) := by decide +kernel
theorem dL_law_12 : decode cL_law 12 = .ok (.bipush (-4), 2) := by decide +kernel
theorem dL_law_14 : decode cL_law 14 = .ok (.if_icmp .ne 38, 3) := by decide +kernel
theorem dL_law_17 : decode cL_law 17 = .ok (.aload_n 1, 1) := by decide +kernel
theorem dL_law_18 : decode cL_law 18 = .ok (.invokevirtual 189, 3) := by decide +kernel
theorem dL_law_21 : decode cL_law 21 = .ok (.bipush (-4), 2) := by decide +kernel
theorem dL_law_23 : decode cL_law 23 = .ok (.if_icmp .ne 29, 3) := by decide +kernel
theorem dL_law_26 : decode cL_law 26 = .ok (.aload_n 1, 1) := by decide +kernel
theorem dL_law_27 : decode cL_law 27 = .ok (.invokevirtual 192, 3) := by decide +kernel
theorem dL_law_30 : decode cL_law 30 = .ok (.ifCond .ne 22, 3) := by decide +kernel
theorem dL_law_33 : decode cL_law 33 = .ok (.aload_n 1, 1) := by decide +kernel
theorem dL_law_34 : decode cL_law 34 = .ok (.bipush 24, 2) := by decide +kernel
theorem dL_law_36 : decode cL_law 36 = .ok (.invokevirtual 59, 3) := by decide +kernel
theorem dL_law_39 : decode cL_law 39 = .ok (.ifCond .ne 13, 3) := by decide +kernel
theorem dL_law_42 : decode cL_law 42 = .ok (.aload_n 1, 1) := by decide +kernel
theorem dL_law_43 : decode cL_law 43 = .ok (.iconst 0, 1) := by decide +kernel
theorem dL_law_44 : decode cL_law 44 = .ok (.invokevirtual 84, 3) := by decide +kernel
theorem dL_law_47 : decode cL_law 47 = .ok (.bipush 24, 2) := by decide +kernel
theorem dL_law_49 : decode cL_law 49 = .ok (.if_icmp .eq 5, 3) := by decide +kernel
theorem dL_law_52 : decode cL_law 52 = .ok (.iconst 0, 1) := by decide +kernel
theorem dL_law_53 : decode cL_law 53 = .ok (.ireturn, 1) := by decide +kernel
theorem dL_law_54 : decode cL_law 54 = .ok (.iconst 0, 1) := by decide +kernel
theorem dL_law_55 : decode cL_law 55 = .ok (.istore_n 2, 1) := by decide +kernel
theorem dL_law_56 : decode cL_law 56 = .ok (.iload_n 2, 1) := by decide +kernel
theorem dL_law_57 : decode cL_law 57 = .ok (.bipush 60, 2) := by decide +kernel
theorem dL_law_59 : decode cL_law 59 = .ok (.if_icmp .ge 26, 3) := by decide +kernel
theorem dL_law_62 : decode cL_law 62 = .ok (.aload_n 1, 1) := by decide +kernel
theorem dL_law_63 : decode cL_law 63 = .ok (.bipush 32, 2) := by decide +kernel
theorem dL_law_65 : decode cL_law 65 = .ok (.iload_n 2, 1) := by decide +kernel
theorem dL_law_66 : decode cL_law 66 = .ok (.iadd, 1) := by decide +kernel
theorem dL_law_67 : decode cL_law 67 = .ok (.i2c, 1) := by decide +kernel
theorem dL_law_68 : decode cL_law 68 = .ok (.invokevirtual 17, 3) := by decide +kernel
theorem dL_law_71 : decode cL_law 71 = .ok (.iload_n 2, 1) := by decide +kernel
theorem dL_law_72 : decode cL_law 72 = .ok (.iconst 1, 1) := by decide +kernel
theorem dL_law_73 : decode cL_law 73 = .ok (.iadd, 1) := by decide +kernel
theorem dL_law_74 : decode cL_law 74 = .ok (.if_icmp .eq 5, 3) := by decide +kernel
theorem dL_law_77 : decode cL_law 77 = .ok (.iconst 0, 1) := by decide +kernel
theorem dL_law_78 : decode cL_law 78 = .ok (.ireturn, 1) := by decide +kernel
theorem dL_law_79 : decode cL_law 79 = .ok (.iinc 2 1, 3) := by decide +kernel
theorem dL_law_82 : decode cL_law 82 = .ok (.goto (-26), 3) := by decide +kernel
theorem dL_law_85 : decode cL_law 85 = .ok (.aload_n 1, 1) := by decide +kernel
theorem dL_law_86 : decode cL_law 86 = .ok (.bipush 104, 2) := by decide +kernel
theorem dL_law_88 : decode cL_law 88 = .ok (.invokevirtual 17, 3) := by decide +kernel
theorem dL_law_91 : decode cL_law 91 = .ok (.bipush (-2), 2) := by decide +kernel
theorem dL_law_93 : decode cL_law 93 = .ok (.if_icmp .ne 28, 3) := by decide +kernel
theorem dL_law_96 : decode cL_law 96 = .ok (.aload_n 1, 1) := by decide +kernel
theorem dL_law_97 : decode cL_law 97 = .ok (.invokevirtual 23, 3) := by decide +kernel
theorem dL_law_100 : decode cL_law 100 = .ok (.bipush (-2), 2) := by decide +kernel
theorem dL_law_102 : decode cL_law 102 = .ok (.if_icmp .ne 19, 3) := by decide +kernel
theorem dL_law_105 : decode cL_law 105 = .ok (.aload_n 1, 1) := by decide +kernel
theorem dL_law_106 : decode cL_law 106 = .ok (.invokevirtual 176, 3) := by decide +kernel
theorem dL_law_109 : decode cL_law 109 = .ok (.ifCond .ne 12, 3) := by decide +kernel
theorem dL_law_112 : decode cL_law 112 = .ok (.aload_n 1, 1) := by decide +kernel
theorem dL_law_113 : decode cL_law 113 = .ok (.bipush 13, 2) := by decide +kernel
theorem dL_law_115 : decode cL_law 115 = .ok (.invokevirtual 84, 3) := by decide +kernel
theorem dL_law_118 : decode cL_law 118 = .ok (.ifCond .eq 5, 3) := by decide +kernel
theorem dL_law_121 : decode cL_law 121 = .ok (.iconst 0, 1) := by decide +kernel
theorem dL_law_122 : decode cL_law 122 = .ok (.ireturn, 1) := by decide +kernel
theorem dL_law_123 : decode cL_law 123 = .ok (.iconst 0, 1) := by decide +kernel
theorem dL_law_124 : decode cL_law 124 = .ok (.istore_n 2, 1) := by decide +kernel
theorem dL_law_125 : decode cL_law 125 = .ok (.iload_n 2, 1) := by decide +kernel
theorem dL_law_126 : decode cL_law 126 = .ok (.iconst 4, 1) := by decide +kernel
theorem dL_law_127 : decode cL_law 127 = .ok (.if_icmp .ge 37, 3) := by decide +kernel
theorem dL_law_130 : decode cL_law 130 = .ok (.aload_n 1, 1) := by decide +kernel
theorem dL_law_131 : decode cL_law 131 = .ok (.iconst 3, 1) := by decide +kernel
theorem dL_law_132 : decode cL_law 132 = .ok (.iload_n 2, 1) := by decide +kernel
theorem dL_law_133 : decode cL_law 133 = .ok (.imul, 1) := by decide +kernel
theorem dL_law_134 : decode cL_law 134 = .ok (.iload_n 2, 1) := by decide +kernel
theorem dL_law_135 : decode cL_law 135 = .ok (.iconst 3, 1) := by decide +kernel
theorem dL_law_136 : decode cL_law 136 = .ok (.if_icmp .ne 8, 3) := by decide +kernel
theorem dL_law_139 : decode cL_law 139 = .ok (.bipush 18, 2) := by decide +kernel
theorem dL_law_141 : decode cL_law 141 = .ok (.goto 8, 3) := by decide +kernel
theorem dL_law_144 : decode cL_law 144 = .ok (.iconst 3, 1) := by decide +kernel
theorem dL_law_145 : decode cL_law 145 = .ok (.iload_n 2, 1) := by decide +kernel
theorem dL_law_146 : decode cL_law 146 = .ok (.imul, 1) := by decide +kernel
theorem dL_law_147 : decode cL_law 147 = .ok (.iconst 2, 1) := by decide +kernel
theorem dL_law_148 : decode cL_law 148 = .ok (.iadd, 1) := by decide +kernel
theorem dL_law_149 : decode cL_law 149 = .ok (.invokevirtual 47, 3) := by decide +kernel
theorem dL_law_152 : decode cL_law 152 = .ok (.iload_n 2, 1) := by decide +kernel
theorem dL_law_153 : decode cL_law 153 = .ok (.if_icmp .eq 5, 3) := by decide +kernel
theorem dL_law_156 : decode cL_law 156 = .ok (.iconst 0, 1) := by decide +kernel
theorem dL_law_157 : decode cL_law 157 = .ok (.ireturn, 1) := by decide +kernel
theorem dL_law_158 : decode cL_law 158 = .ok (.iinc 2 1, 3) := by decide +kernel
theorem dL_law_161 : decode cL_law 161 = .ok (.goto (-36), 3) := by decide +kernel
theorem dL_law_164 : decode cL_law 164 = .ok (.iconst 0, 1) := by decide +kernel
theorem dL_law_165 : decode cL_law 165 = .ok (.istore_n 2, 1) := by decide +kernel
theorem dL_law_166 : decode cL_law 166 = .ok (.iload_n 2, 1) := by decide +kernel
theorem dL_law_167 : decode cL_law 167 = .ok (.bipush 16, 2) := by decide +kernel
theorem dL_law_169 : decode cL_law 169 = .ok (.if_icmp .ge 24, 3) := by decide +kernel
theorem dL_law_172 : decode cL_law 172 = .ok (.aload_n 1, 1) := by decide +kernel
theorem dL_law_173 : decode cL_law 173 = .ok (.iload_n 2, 1) := by decide +kernel
theorem dL_law_174 : decode cL_law 174 = .ok (.bipush 8, 2) := by decide +kernel
theorem dL_law_176 : decode cL_law 176 = .ok (.idiv, 1) := by decide +kernel
theorem dL_law_177 : decode cL_law 177 = .ok (.iconst 0, 1) := by decide +kernel
theorem dL_law_178 : decode cL_law 178 = .ok (.invokevirtual 50, 3) := by decide +kernel
theorem dL_law_181 : decode cL_law 181 = .ok (.iload_n 2, 1) := by decide +kernel
theorem dL_law_182 : decode cL_law 182 = .ok (.if_icmp .eq 5, 3) := by decide +kernel
theorem dL_law_185 : decode cL_law 185 = .ok (.iconst 0, 1) := by decide +kernel
theorem dL_law_186 : decode cL_law 186 = .ok (.ireturn, 1) := by decide +kernel
theorem dL_law_187 : decode cL_law 187 = .ok (.iinc 2 1, 3) := by decide +kernel
theorem dL_law_190 : decode cL_law 190 = .ok (.goto (-24), 3) := by decide +kernel
theorem dL_law_193 : decode cL_law 193 = .ok (.aload_n 1, 1) := by decide +kernel
theorem dL_law_194 : decode cL_law 194 = .ok (.bipush 20, 2) := by decide +kernel
theorem dL_law_196 : decode cL_law 196 = .ok (.bipush 22, 2) := by decide +kernel
theorem dL_law_198 : decode cL_law 198 = .ok (.invokevirtual 47, 3) := by decide +kernel
theorem dL_law_201 : decode cL_law 201 = .ok (.bipush (-3), 2) := by decide +kernel
theorem dL_law_203 : decode cL_law 203 = .ok (.if_icmp .ne 62, 3) := by decide +kernel
theorem dL_law_206 : decode cL_law 206 = .ok (.aload_n 1, 1) := by decide +kernel
theorem dL_law_207 : decode cL_law 207 = .ok (.iconst 2, 1) := by decide +kernel
theorem dL_law_208 : decode cL_law 208 = .ok (.newarray .int, 2) := by decide +kernel
theorem dL_law_210 : decode cL_law 210 = .ok (.dup, 1) := by decide +kernel
theorem dL_law_211 : decode cL_law 211 = .ok (.iconst 0, 1) := by decide +kernel
theorem dL_law_212 : decode cL_law 212 = .ok (.iconst 1, 1) := by decide +kernel
theorem dL_law_213 : decode cL_law 213 = .ok (.iastore, 1) := by decide +kernel
theorem dL_law_214 : decode cL_law 214 = .ok (.dup, 1) := by decide +kernel
theorem dL_law_215 : decode cL_law 215 = .ok (.iconst 1, 1) := by decide +kernel
theorem dL_law_216 : decode cL_law 216 = .ok (.iconst 4, 1) := by decide +kernel
theorem dL_law_217 : decode cL_law 217 = .ok (.iastore, 1) := by decide +kernel
theorem dL_law_218 : decode cL_law 218 = .ok (.invokestatic 181, 3) := by decide +kernel
theorem dL_law_221 : decode cL_law 221 = .ok (.ifCond .eq 44, 3) := by decide +kernel
theorem dL_law_224 : decode cL_law 224 = .ok (.aload_n 1, 1) := by decide +kernel
theorem dL_law_225 : decode cL_law 225 = .ok (.iconst 0, 1) := by decide +kernel
theorem dL_law_226 : decode cL_law 226 = .ok (.iconst 0, 1) := by decide +kernel
theorem dL_law_227 : decode cL_law 227 = .ok (.invokevirtual 50, 3) := by decide +kernel
theorem dL_law_230 : decode cL_law 230 = .ok (.bipush (-3), 2) := by decide +kernel
theorem dL_law_232 : decode cL_law 232 = .ok (.if_icmp .ne 33, 3) := by decide +kernel
theorem dL_law_235 : decode cL_law 235 = .ok (.aload_n 1, 1) := by decide +kernel
theorem dL_law_236 : decode cL_law 236 = .ok (.iconst 2, 1) := by decide +kernel
theorem dL_law_237 : decode cL_law 237 = .ok (.newarray .int, 2) := by decide +kernel
theorem dL_law_239 : decode cL_law 239 = .ok (.dup, 1) := by decide +kernel
theorem dL_law_240 : decode cL_law 240 = .ok (.iconst 0, 1) := by decide +kernel
theorem dL_law_241 : decode cL_law 241 = .ok (.iconst 1, 1) := by decide +kernel
theorem dL_law_242 : decode cL_law 242 = .ok (.iastore, 1) := by decide +kernel
theorem dL_law_243 : decode cL_law 243 = .ok (.dup, 1) := by decide +kernel
theorem dL_law_244 : decode cL_law 244 = .ok (.iconst 1, 1) := by decide +kernel
theorem dL_law_245 : decode cL_law 245 = .ok (.bipush 16, 2) := by decide +kernel
theorem dL_law_247 : decode cL_law 247 = .ok (.iastore, 1) := by decide +kernel
theorem dL_law_248 : decode cL_law 248 = .ok (.invokestatic 181, 3) := by decide +kernel
theorem dL_law_251 : decode cL_law 251 = .ok (.ifCond .eq 14, 3) := by decide +kernel
theorem dL_law_254 : decode cL_law 254 = .ok (.aload_n 1, 1) := by decide +kernel
theorem dL_law_255 : decode cL_law 255 = .ok (.bipush 14, 2) := by decide +kernel
theorem dL_law_257 : decode cL_law 257 = .ok (.invokevirtual 84, 3) := by decide +kernel
theorem dL_law_260 : decode cL_law 260 = .ok (.bipush 8, 2) := by decide +kernel
theorem dL_law_262 : decode cL_law 262 = .ok (.if_icmp .eq 5, 3) := by decide +kernel
theorem dL_law_265 : decode cL_law 265 = .ok (.iconst 0, 1) := by decide +kernel
theorem dL_law_266 : decode cL_law 266 = .ok (.ireturn, 1) := by decide +kernel
theorem dL_law_267 : decode cL_law 267 = .ok (.iconst 0, 1) := by decide +kernel
theorem dL_law_268 : decode cL_law 268 = .ok (.istore_n 2, 1) := by decide +kernel
theorem dL_law_269 : decode cL_law 269 = .ok (.iload_n 2, 1) := by decide +kernel
theorem dL_law_270 : decode cL_law 270 = .ok (.bipush 10, 2) := by decide +kernel
theorem dL_law_272 : decode cL_law 272 = .ok (.if_icmp .ge 22, 3) := by decide +kernel
theorem dL_law_275 : decode cL_law 275 = .ok (.aload_n 1, 1) := by decide +kernel
theorem dL_law_276 : decode cL_law 276 = .ok (.iconst 0, 1) := by decide +kernel
theorem dL_law_277 : decode cL_law 277 = .ok (.invokevirtual 140, 3) := by decide +kernel
theorem dL_law_280 : decode cL_law 280 = .ok (.iload_n 2, 1) := by decide +kernel
theorem dL_law_281 : decode cL_law 281 = .ok (.iconst 1, 1) := by decide +kernel
theorem dL_law_282 : decode cL_law 282 = .ok (.iadd, 1) := by decide +kernel
theorem dL_law_283 : decode cL_law 283 = .ok (.if_icmp .eq 5, 3) := by decide +kernel
theorem dL_law_286 : decode cL_law 286 = .ok (.iconst 0, 1) := by decide +kernel
theorem dL_law_287 : decode cL_law 287 = .ok (.ireturn, 1) := by decide +kernel
theorem dL_law_288 : decode cL_law 288 = .ok (.iinc 2 1, 3) := by decide +kernel
theorem dL_law_291 : decode cL_law 291 = .ok (.goto (-22), 3) := by decide +kernel
theorem dL_law_294 : decode cL_law 294 = .ok (.aload_n 1, 1) := by decide +kernel
theorem dL_law_295 : decode cL_law 295 = .ok (.iconst 0, 1) := by decide +kernel
theorem dL_law_296 : decode cL_law 296 = .ok (.invokevirtual 140, 3) := by decide +kernel
theorem dL_law_299 : decode cL_law 299 = .ok (.bipush (-3), 2) := by decide +kernel
theorem dL_law_301 : decode cL_law 301 = .ok (.if_icmp .ne 124, 3) := by decide +kernel
theorem dL_law_304 : decode cL_law 304 = .ok (.aload_n 1, 1) := by decide +kernel
theorem dL_law_305 : decode cL_law 305 = .ok (.iconst 2, 1) := by decide +kernel
theorem dL_law_306 : decode cL_law 306 = .ok (.newarray .int, 2) := by decide +kernel
theorem dL_law_308 : decode cL_law 308 = .ok (.dup, 1) := by decide +kernel
theorem dL_law_309 : decode cL_law 309 = .ok (.iconst 0, 1) := by decide +kernel
theorem dL_law_310 : decode cL_law 310 = .ok (.bipush 11, 2) := by decide +kernel
theorem dL_law_312 : decode cL_law 312 = .ok (.iastore, 1) := by decide +kernel
theorem dL_law_313 : decode cL_law 313 = .ok (.dup, 1) := by decide +kernel
theorem dL_law_314 : decode cL_law 314 = .ok (.iconst 1, 1) := by decide +kernel
theorem dL_law_315 : decode cL_law 315 = .ok (.iconst 0, 1) := by decide +kernel
theorem dL_law_316 : decode cL_law 316 = .ok (.iastore, 1) := by decide +kernel
theorem dL_law_317 : decode cL_law 317 = .ok (.invokestatic 181, 3) := by decide +kernel
theorem dL_law_320 : decode cL_law 320 = .ok (.ifCond .eq 105, 3) := by decide +kernel
theorem dL_law_323 : decode cL_law 323 = .ok (.aload_n 1, 1) := by decide +kernel
theorem dL_law_324 : decode cL_law 324 = .ok (.iconst 1, 1) := by decide +kernel
theorem dL_law_325 : decode cL_law 325 = .ok (.invokevirtual 140, 3) := by decide +kernel
theorem dL_law_328 : decode cL_law 328 = .ok (.iconst 1, 1) := by decide +kernel
theorem dL_law_329 : decode cL_law 329 = .ok (.if_icmp .ne 96, 3) := by decide +kernel
theorem dL_law_332 : decode cL_law 332 = .ok (.aload_n 1, 1) := by decide +kernel
theorem dL_law_333 : decode cL_law 333 = .ok (.iconst 1, 1) := by decide +kernel
theorem dL_law_334 : decode cL_law 334 = .ok (.invokevirtual 140, 3) := by decide +kernel
theorem dL_law_337 : decode cL_law 337 = .ok (.iconst 2, 1) := by decide +kernel
theorem dL_law_338 : decode cL_law 338 = .ok (.if_icmp .ne 87, 3) := by decide +kernel
theorem dL_law_341 : decode cL_law 341 = .ok (.aload_n 1, 1) := by decide +kernel
theorem dL_law_342 : decode cL_law 342 = .ok (.iconst 1, 1) := by decide +kernel
theorem dL_law_343 : decode cL_law 343 = .ok (.invokevirtual 140, 3) := by decide +kernel
theorem dL_law_346 : decode cL_law 346 = .ok (.bipush (-3), 2) := by decide +kernel
theorem dL_law_348 : decode cL_law 348 = .ok (.if_icmp .ne 77, 3) := by decide +kernel
theorem dL_law_351 : decode cL_law 351 = .ok (.aload_n 1, 1) := by decide +kernel
theorem dL_law_352 : decode cL_law 352 = .ok (.iconst 2, 1) := by decide +kernel
theorem dL_law_353 : decode cL_law 353 = .ok (.newarray .int, 2) := by decide +kernel
theorem dL_law_355 : decode cL_law 355 = .ok (.dup, 1) := by decide +kernel
theorem dL_law_356 : decode cL_law 356 = .ok (.iconst 0, 1) := by decide +kernel
theorem dL_law_357 : decode cL_law 357 = .ok (.bipush 10, 2) := by decide +kernel
theorem dL_law_359 : decode cL_law 359 = .ok (.iastore, 1) := by decide +kernel
theorem dL_law_360 : decode cL_law 360 = .ok (.dup, 1) := by decide +kernel
theorem dL_law_361 : decode cL_law 361 = .ok (.iconst 1, 1) := by decide +kernel
theorem dL_law_362 : decode cL_law 362 = .ok (.iconst 1, 1) := by decide +kernel
theorem dL_law_363 : decode cL_law 363 = .ok (.iastore, 1) := by decide +kernel
theorem dL_law_364 : decode cL_law 364 = .ok (.invokestatic 181, 3) := by decide +kernel
theorem dL_law_367 : decode cL_law 367 = .ok (.ifCond .eq 58, 3) := by decide +kernel
theorem dL_law_370 : decode cL_law 370 = .ok (.aload_n 1, 1) := by decide +kernel
theorem dL_law_371 : decode cL_law 371 = .ok (.bipush 9, 2) := by decide +kernel
theorem dL_law_373 : decode cL_law 373 = .ok (.invokevirtual 84, 3) := by decide +kernel
theorem dL_law_376 : decode cL_law 376 = .ok (.bipush 12, 2) := by decide +kernel
theorem dL_law_378 : decode cL_law 378 = .ok (.if_icmp .ne 47, 3) := by decide +kernel
theorem dL_law_381 : decode cL_law 381 = .ok (.aload_n 1, 1) := by decide +kernel
theorem dL_law_382 : decode cL_law 382 = .ok (.iconst 1, 1) := by decide +kernel
theorem dL_law_383 : decode cL_law 383 = .ok (.iconst 2, 1) := by decide +kernel
theorem dL_law_384 : decode cL_law 384 = .ok (.invokevirtual 116, 3) := by decide +kernel
theorem dL_law_387 : decode cL_law 387 = .ok (.bipush 8, 2) := by decide +kernel
theorem dL_law_389 : decode cL_law 389 = .ok (.if_icmp .ne 36, 3) := by decide +kernel
theorem dL_law_392 : decode cL_law 392 = .ok (.aload_n 1, 1) := by decide +kernel
theorem dL_law_393 : decode cL_law 393 = .ok (.bipush 20, 2) := by decide +kernel
theorem dL_law_395 : decode cL_law 395 = .ok (.invokevirtual 137, 3) := by decide +kernel
theorem dL_law_398 : decode cL_law 398 = .ok (.bipush 20, 2) := by decide +kernel
theorem dL_law_400 : decode cL_law 400 = .ok (.if_icmp .ne 25, 3) := by decide +kernel
theorem dL_law_403 : decode cL_law 403 = .ok (.aload_n 1, 1) := by decide +kernel
theorem dL_law_404 : decode cL_law 404 = .ok (.bipush 20, 2) := by decide +kernel
theorem dL_law_406 : decode cL_law 406 = .ok (.invokevirtual 137, 3) := by decide +kernel
theorem dL_law_409 : decode cL_law 409 = .ok (.bipush 40, 2) := by decide +kernel
theorem dL_law_411 : decode cL_law 411 = .ok (.if_icmp .ne 14, 3) := by decide +kernel
theorem dL_law_414 : decode cL_law 414 = .ok (.aload_n 1, 1) := by decide +kernel
theorem dL_law_415 : decode cL_law 415 = .ok (.bipush 20, 2) := by decide +kernel
theorem dL_law_417 : decode cL_law 417 = .ok (.invokevirtual 137, 3) := by decide +kernel
theorem dL_law_420 : decode cL_law 420 = .ok (.bipush 40, 2) := by decide +kernel
theorem dL_law_422 : decode cL_law 422 = .ok (.if_icmp .eq 5, 3) := by decide +kernel
theorem dL_law_425 : decode cL_law 425 = .ok (.iconst 0, 1) := by decide +kernel
theorem dL_law_426 : decode cL_law 426 = .ok (.ireturn, 1) := by decide +kernel
theorem dL_law_427 : decode cL_law 427 = .ok (.aload_n 1, 1) := by decide +kernel
theorem dL_law_428 : decode cL_law 428 = .ok (.bipush 9, 2) := by decide +kernel
theorem dL_law_430 : decode cL_law 430 = .ok (.invokevirtual 53, 3) := by decide +kernel
theorem dL_law_433 : decode cL_law 433 = .ok (.iconst 1, 1) := by decide +kernel
theorem dL_law_434 : decode cL_law 434 = .ok (.if_icmp .ne 314, 3) := by decide +kernel
theorem dL_law_437 : decode cL_law 437 = .ok (.aload_n 1, 1) := by decide +kernel
theorem dL_law_438 : decode cL_law 438 = .ok (.iconst 0, 1) := by decide +kernel
theorem dL_law_439 : decode cL_law 439 = .ok (.invokevirtual 56, 3) := by decide +kernel
theorem dL_law_442 : decode cL_law 442 = .ok (.iconst 2, 1) := by decide +kernel
theorem dL_law_443 : decode cL_law 443 = .ok (.if_icmp .ne 305, 3) := by decide +kernel
theorem dL_law_446 : decode cL_law 446 = .ok (.aload_n 1, 1) := by decide +kernel
theorem dL_law_447 : decode cL_law 447 = .ok (.iconst 1, 1) := by decide +kernel
theorem dL_law_448 : decode cL_law 448 = .ok (.invokevirtual 59, 3) := by decide +kernel
theorem dL_law_451 : decode cL_law 451 = .ok (.iconst 4, 1) := by decide +kernel
theorem dL_law_452 : decode cL_law 452 = .ok (.if_icmp .ne 296, 3) := by decide +kernel
theorem dL_law_455 : decode cL_law 455 = .ok (.aload_n 1, 1) := by decide +kernel
theorem dL_law_456 : decode cL_law 456 = .ok (.invokevirtual 74, 3) := by decide +kernel
theorem dL_law_459 : decode cL_law 459 = .ok (.ldc 195, 2) := by decide +kernel
theorem dL_law_461 : decode cL_law 461 = .ok (.fcmp .l, 1) := by decide +kernel
theorem dL_law_462 : decode cL_law 462 = .ok (.ifCond .ne 286, 3) := by decide +kernel
theorem dL_law_465 : decode cL_law 465 = .ok (.aload_n 1, 1) := by decide +kernel
theorem dL_law_466 : decode cL_law 466 = .ok (.iconst 0, 1) := by decide +kernel
theorem dL_law_467 : decode cL_law 467 = .ok (.iconst 1, 1) := by decide +kernel
theorem dL_law_468 : decode cL_law 468 = .ok (.invokevirtual 104, 3) := by decide +kernel
theorem dL_law_471 : decode cL_law 471 = .ok (.bipush 18, 2) := by decide +kernel
theorem dL_law_473 : decode cL_law 473 = .ok (.if_icmp .ne 275, 3) := by decide +kernel
theorem dL_law_476 : decode cL_law 476 = .ok (.aload_n 1, 1) := by decide +kernel
theorem dL_law_477 : decode cL_law 477 = .ok (.iconst 0, 1) := by decide +kernel
theorem dL_law_478 : decode cL_law 478 = .ok (.bipush 40, 2) := by decide +kernel
theorem dL_law_480 : decode cL_law 480 = .ok (.invokevirtual 107, 3) := by decide +kernel
theorem dL_law_483 : decode cL_law 483 = .ok (.bipush 9, 2) := by decide +kernel
theorem dL_law_485 : decode cL_law 485 = .ok (.if_icmp .ne 263, 3) := by decide +kernel
theorem dL_law_488 : decode cL_law 488 = .ok (.aload_n 1, 1) := by decide +kernel
theorem dL_law_489 : decode cL_law 489 = .ok (.iconst 0, 1) := by decide +kernel
theorem dL_law_490 : decode cL_law 490 = .ok (.invokevirtual 110, 3) := by decide +kernel
theorem dL_law_493 : decode cL_law 493 = .ok (.bipush (-4), 2) := by decide +kernel
theorem dL_law_495 : decode cL_law 495 = .ok (.if_icmp .ne 253, 3) := by decide +kernel
theorem dL_law_498 : decode cL_law 498 = .ok (.aload_n 1, 1) := by decide +kernel
theorem dL_law_499 : decode cL_law 499 = .ok (.bipush 8, 2) := by decide +kernel
theorem dL_law_501 : decode cL_law 501 = .ok (.invokevirtual 59, 3) := by decide +kernel
theorem dL_law_504 : decode cL_law 504 = .ok (.bipush 36, 2) := by decide +kernel
theorem dL_law_506 : decode cL_law 506 = .ok (.if_icmp .ne 242, 3) := by decide +kernel
theorem dL_law_509 : decode cL_law 509 = .ok (.aload_n 1, 1) := by decide +kernel
theorem dL_law_510 : decode cL_law 510 = .ok (.iconst 0, 1) := by decide +kernel
theorem dL_law_511 : decode cL_law 511 = .ok (.iconst 2, 1) := by decide +kernel
theorem dL_law_512 : decode cL_law 512 = .ok (.invokevirtual 87, 3) := by decide +kernel
theorem dL_law_515 : decode cL_law 515 = .ok (.bipush 20, 2) := by decide +kernel
theorem dL_law_517 : decode cL_law 517 = .ok (.if_icmp .ne 231, 3) := by decide +kernel
theorem dL_law_520 : decode cL_law 520 = .ok (.aload_n 1, 1) := by decide +kernel
theorem dL_law_521 : decode cL_law 521 = .ok (.iconst 1, 1) := by decide +kernel
theorem dL_law_522 : decode cL_law 522 = .ok (.bipush 20, 2) := by decide +kernel
theorem dL_law_524 : decode cL_law 524 = .ok (.invokevirtual 125, 3) := by decide +kernel
theorem dL_law_527 : decode cL_law 527 = .ok (.bipush (-3), 2) := by decide +kernel
theorem dL_law_529 : decode cL_law 529 = .ok (.if_icmp .ne 219, 3) := by decide +kernel
theorem dL_law_532 : decode cL_law 532 = .ok (.aload_n 1, 1) := by decide +kernel
theorem dL_law_533 : decode cL_law 533 = .ok (.iconst 4, 1) := by decide +kernel
theorem dL_law_534 : decode cL_law 534 = .ok (.newarray .int, 2) := by decide +kernel
theorem dL_law_536 : decode cL_law 536 = .ok (.dup, 1) := by decide +kernel
theorem dL_law_537 : decode cL_law 537 = .ok (.iconst 0, 1) := by decide +kernel
theorem dL_law_538 : decode cL_law 538 = .ok (.iconst 3, 1) := by decide +kernel
theorem dL_law_539 : decode cL_law 539 = .ok (.iastore, 1) := by decide +kernel
theorem dL_law_540 : decode cL_law 540 = .ok (.dup, 1) := by decide +kernel
theorem dL_law_541 : decode cL_law 541 = .ok (.iconst 1, 1) := by decide +kernel
theorem dL_law_542 : decode cL_law 542 = .ok (.bipush 20, 2) := by decide +kernel
theorem dL_law_544 : decode cL_law 544 = .ok (.iastore, 1) := by decide +kernel
theorem dL_law_545 : decode cL_law 545 = .ok (.dup, 1) := by decide +kernel
theorem dL_law_546 : decode cL_law 546 = .ok (.iconst 2, 1) := by decide +kernel
theorem dL_law_547 : decode cL_law 547 = .ok (.bipush 13, 2) := by decide +kernel
theorem dL_law_549 : decode cL_law 549 = .ok (.iastore, 1) := by decide +kernel
theorem dL_law_550 : decode cL_law 550 = .ok (.dup, 1) := by decide +kernel
theorem dL_law_551 : decode cL_law 551 = .ok (.iconst 3, 1) := by decide +kernel
theorem dL_law_552 : decode cL_law 552 = .ok (.iconst (-1), 1) := by decide +kernel
theorem dL_law_553 : decode cL_law 553 = .ok (.iastore, 1) := by decide +kernel
theorem dL_law_554 : decode cL_law 554 = .ok (.invokestatic 181, 3) := by decide +kernel
theorem dL_law_557 : decode cL_law 557 = .ok (.ifCond .eq 191, 3) := by decide +kernel
theorem dL_law_560 : decode cL_law 560 = .ok (.aload_n 1, 1) := by decide +kernel
theorem dL_law_561 : decode cL_law 561 = .ok (.iconst 0, 1) := by decide +kernel
theorem dL_law_562 : decode cL_law 562 = .ok (.invokevirtual 134, 3) := by decide +kernel
theorem dL_law_565 : decode cL_law 565 = .ok (.bipush 9, 2) := by decide +kernel
theorem dL_law_567 : decode cL_law 567 = .ok (.if_icmp .ne 181, 3) := by decide +kernel
theorem dL_law_570 : decode cL_law 570 = .ok (.aload_n 1, 1) := by decide +kernel
theorem dL_law_571 : decode cL_law 571 = .ok (.bipush 8, 2) := by decide +kernel
theorem dL_law_573 : decode cL_law 573 = .ok (.invokevirtual 84, 3) := by decide +kernel
theorem dL_law_576 : decode cL_law 576 = .ok (.bipush 37, 2) := by decide +kernel
theorem dL_law_578 : decode cL_law 578 = .ok (.if_icmp .ne 170, 3) := by decide +kernel
theorem dL_law_581 : decode cL_law 581 = .ok (.aload_n 1, 1) := by decide +kernel
theorem dL_law_582 : decode cL_law 582 = .ok (.iconst 0, 1) := by decide +kernel
theorem dL_law_583 : decode cL_law 583 = .ok (.invokevirtual 134, 3) := by decide +kernel
theorem dL_law_586 : decode cL_law 586 = .ok (.bipush (-3), 2) := by decide +kernel
theorem dL_law_588 : decode cL_law 588 = .ok (.if_icmp .ne 160, 3) := by decide +kernel
theorem dL_law_591 : decode cL_law 591 = .ok (.aload_n 1, 1) := by decide +kernel
theorem dL_law_592 : decode cL_law 592 = .ok (.iconst 2, 1) := by decide +kernel
theorem dL_law_593 : decode cL_law 593 = .ok (.newarray .int, 2) := by decide +kernel
theorem dL_law_595 : decode cL_law 595 = .ok (.dup, 1) := by decide +kernel
theorem dL_law_596 : decode cL_law 596 = .ok (.iconst 0, 1) := by decide +kernel
theorem dL_law_597 : decode cL_law 597 = .ok (.bipush 9, 2) := by decide +kernel
theorem dL_law_599 : decode cL_law 599 = .ok (.iastore, 1) := by decide +kernel
theorem dL_law_600 : decode cL_law 600 = .ok (.dup, 1) := by decide +kernel
theorem dL_law_601 : decode cL_law 601 = .ok (.iconst 1, 1) := by decide +kernel
theorem dL_law_602 : decode cL_law 602 = .ok (.iconst 0, 1) := by decide +kernel
theorem dL_law_603 : decode cL_law 603 = .ok (.iastore, 1) := by decide +kernel
theorem dL_law_604 : decode cL_law 604 = .ok (.invokestatic 181, 3) := by decide +kernel
theorem dL_law_607 : decode cL_law 607 = .ok (.ifCond .eq 141, 3) := by decide +kernel
theorem dL_law_610 : decode cL_law 610 = .ok (.aload_n 1, 1) := by decide +kernel
theorem dL_law_611 : decode cL_law 611 = .ok (.iconst 0, 1) := by decide +kernel
theorem dL_law_612 : decode cL_law 612 = .ok (.iconst 0, 1) := by decide +kernel
theorem dL_law_613 : decode cL_law 613 = .ok (.iconst 1, 1) := by decide +kernel
theorem dL_law_614 : decode cL_law 614 = .ok (.iconst 1, 1) := by decide +kernel
theorem dL_law_615 : decode cL_law 615 = .ok (.iconst 1, 1) := by decide +kernel
theorem dL_law_616 : decode cL_law 616 = .ok (.invokevirtual 93, 3) := by decide +kernel
theorem dL_law_619 : decode cL_law 619 = .ok (.bipush 100, 2) := by decide +kernel
theorem dL_law_621 : decode cL_law 621 = .ok (.if_icmp .ne 127, 3) := by decide +kernel
theorem dL_law_624 : decode cL_law 624 = .ok (.aload_n 1, 1) := by decide +kernel
theorem dL_law_625 : decode cL_law 625 = .ok (.iconst 1, 1) := by decide +kernel
theorem dL_law_626 : decode cL_law 626 = .ok (.iconst 0, 1) := by decide +kernel
theorem dL_law_627 : decode cL_law 627 = .ok (.iconst 4, 1) := by decide +kernel
theorem dL_law_628 : decode cL_law 628 = .ok (.bipush 20, 2) := by decide +kernel
theorem dL_law_630 : decode cL_law 630 = .ok (.iconst 1, 1) := by decide +kernel
theorem dL_law_631 : decode cL_law 631 = .ok (.invokevirtual 93, 3) := by decide +kernel
theorem dL_law_634 : decode cL_law 634 = .ok (.sipush 425, 3) := by decide +kernel
theorem dL_law_637 : decode cL_law 637 = .ok (.if_icmp .ne 111, 3) := by decide +kernel
theorem dL_law_640 : decode cL_law 640 = .ok (.aload_n 1, 1) := by decide +kernel
theorem dL_law_641 : decode cL_law 641 = .ok (.iconst 0, 1) := by decide +kernel
theorem dL_law_642 : decode cL_law 642 = .ok (.invokevirtual 53, 3) := by decide +kernel
theorem dL_law_645 : decode cL_law 645 = .ok (.bipush 9, 2) := by decide +kernel
theorem dL_law_647 : decode cL_law 647 = .ok (.if_icmp .ne 101, 3) := by decide +kernel
theorem dL_law_650 : decode cL_law 650 = .ok (.aload_n 1, 1) := by decide +kernel
theorem dL_law_651 : decode cL_law 651 = .ok (.bipush 9, 2) := by decide +kernel
theorem dL_law_653 : decode cL_law 653 = .ok (.invokevirtual 56, 3) := by decide +kernel
theorem dL_law_656 : decode cL_law 656 = .ok (.ifCond .ne 92, 3) := by decide +kernel
theorem dL_law_659 : decode cL_law 659 = .ok (.aload_n 1, 1) := by decide +kernel
theorem dL_law_660 : decode cL_law 660 = .ok (.iconst 0, 1) := by decide +kernel
theorem dL_law_661 : decode cL_law 661 = .ok (.invokevirtual 110, 3) := by decide +kernel
theorem dL_law_664 : decode cL_law 664 = .ok (.iconst 2, 1) := by decide +kernel
theorem dL_law_665 : decode cL_law 665 = .ok (.if_icmp .ne 83, 3) := by decide +kernel
theorem dL_law_668 : decode cL_law 668 = .ok (.aload_n 1, 1) := by decide +kernel
theorem dL_law_669 : decode cL_law 669 = .ok (.iconst 1, 1) := by decide +kernel
theorem dL_law_670 : decode cL_law 670 = .ok (.bipush 20, 2) := by decide +kernel
theorem dL_law_672 : decode cL_law 672 = .ok (.invokevirtual 125, 3) := by decide +kernel
theorem dL_law_675 : decode cL_law 675 = .ok (.bipush (-3), 2) := by decide +kernel
theorem dL_law_677 : decode cL_law 677 = .ok (.if_icmp .ne 71, 3) := by decide +kernel
theorem dL_law_680 : decode cL_law 680 = .ok (.aload_n 1, 1) := by decide +kernel
theorem dL_law_681 : decode cL_law 681 = .ok (.iconst 4, 1) := by decide +kernel
theorem dL_law_682 : decode cL_law 682 = .ok (.newarray .int, 2) := by decide +kernel
theorem dL_law_684 : decode cL_law 684 = .ok (.dup, 1) := by decide +kernel
theorem dL_law_685 : decode cL_law 685 = .ok (.iconst 0, 1) := by decide +kernel
theorem dL_law_686 : decode cL_law 686 = .ok (.iconst 3, 1) := by decide +kernel
theorem dL_law_687 : decode cL_law 687 = .ok (.iastore, 1) := by decide +kernel
theorem dL_law_688 : decode cL_law 688 = .ok (.dup, 1) := by decide +kernel
theorem dL_law_689 : decode cL_law 689 = .ok (.iconst 1, 1) := by decide +kernel
theorem dL_law_690 : decode cL_law 690 = .ok (.bipush 20, 2) := by decide +kernel
theorem dL_law_692 : decode cL_law 692 = .ok (.iastore, 1) := by decide +kernel
theorem dL_law_693 : decode cL_law 693 = .ok (.dup, 1) := by decide +kernel
theorem dL_law_694 : decode cL_law 694 = .ok (.iconst 2, 1) := by decide +kernel
theorem dL_law_695 : decode cL_law 695 = .ok (.bipush 13, 2) := by decide +kernel
theorem dL_law_697 : decode cL_law 697 = .ok (.iastore, 1) := by decide +kernel
theorem dL_law_698 : decode cL_law 698 = .ok (.dup, 1) := by decide +kernel
theorem dL_law_699 : decode cL_law 699 = .ok (.iconst 3, 1) := by decide +kernel
theorem dL_law_700 : decode cL_law 700 = .ok (.iconst 2, 1) := by decide +kernel
theorem dL_law_701 : decode cL_law 701 = .ok (.iastore, 1) := by decide +kernel
theorem dL_law_702 : decode cL_law 702 = .ok (.invokestatic 181, 3) := by decide +kernel
theorem dL_law_705 : decode cL_law 705 = .ok (.ifCond .eq 43, 3) := by decide +kernel
theorem dL_law_708 : decode cL_law 708 = .ok (.aload_n 1, 1) := by decide +kernel
theorem dL_law_709 : decode cL_law 709 = .ok (.iconst 2, 1) := by decide +kernel
theorem dL_law_710 : decode cL_law 710 = .ok (.invokevirtual 59, 3) := by decide +kernel
theorem dL_law_713 : decode cL_law 713 = .ok (.bipush 28, 2) := by decide +kernel
theorem dL_law_715 : decode cL_law 715 = .ok (.if_icmp .ne 33, 3) := by decide +kernel
theorem dL_law_718 : decode cL_law 718 = .ok (.aload_n 1, 1) := by decide +kernel
theorem dL_law_719 : decode cL_law 719 = .ok (.iconst 1, 1) := by decide +kernel
theorem dL_law_720 : decode cL_law 720 = .ok (.iconst 2, 1) := by decide +kernel
theorem dL_law_721 : decode cL_law 721 = .ok (.invokevirtual 87, 3) := by decide +kernel
theorem dL_law_724 : decode cL_law 724 = .ok (.iconst 2, 1) := by decide +kernel
theorem dL_law_725 : decode cL_law 725 = .ok (.if_icmp .ne 23, 3) := by decide +kernel
theorem dL_law_728 : decode cL_law 728 = .ok (.aload_n 1, 1) := by decide +kernel
theorem dL_law_729 : decode cL_law 729 = .ok (.iconst 1, 1) := by decide +kernel
theorem dL_law_730 : decode cL_law 730 = .ok (.bipush 20, 2) := by decide +kernel
theorem dL_law_732 : decode cL_law 732 = .ok (.invokevirtual 125, 3) := by decide +kernel
theorem dL_law_735 : decode cL_law 735 = .ok (.ifCond .ne 13, 3) := by decide +kernel
theorem dL_law_738 : decode cL_law 738 = .ok (.aload_n 1, 1) := by decide +kernel
theorem dL_law_739 : decode cL_law 739 = .ok (.iconst 1, 1) := by decide +kernel
theorem dL_law_740 : decode cL_law 740 = .ok (.ldc 196, 2) := by decide +kernel
theorem dL_law_742 : decode cL_law 742 = .ok (.invokestatic 198, 3) := by decide +kernel
theorem dL_law_745 : decode cL_law 745 = .ok (.ifCond .ne 5, 3) := by decide +kernel
theorem dL_law_748 : decode cL_law 748 = .ok (.iconst 0, 1) := by decide +kernel
theorem dL_law_749 : decode cL_law 749 = .ok (.ireturn, 1) := by decide +kernel
theorem dL_law_750 : decode cL_law 750 = .ok (.aload_n 1, 1) := by decide +kernel
theorem dL_law_751 : decode cL_law 751 = .ok (.invokevirtual 202, 3) := by decide +kernel
theorem dL_law_754 : decode cL_law 754 = .ok (.bipush 35, 2) := by decide +kernel
theorem dL_law_756 : decode cL_law 756 = .ok (.if_icmp .ne 63, 3) := by decide +kernel
theorem dL_law_759 : decode cL_law 759 = .ok (.aload_n 1, 1) := by decide +kernel
theorem dL_law_760 : decode cL_law 760 = .ok (.iconst 0, 1) := by decide +kernel
theorem dL_law_761 : decode cL_law 761 = .ok (.invokevirtual 84, 3) := by decide +kernel
theorem dL_law_764 : decode cL_law 764 = .ok (.ifCond .ne 55, 3) := by decide +kernel
theorem dL_law_767 : decode cL_law 767 = .ok (.aload_n 1, 1) := by decide +kernel
theorem dL_law_768 : decode cL_law 768 = .ok (.iconst 3, 1) := by decide +kernel
theorem dL_law_769 : decode cL_law 769 = .ok (.invokevirtual 84, 3) := by decide +kernel
theorem dL_law_772 : decode cL_law 772 = .ok (.ifCond .ne 47, 3) := by decide +kernel
theorem dL_law_775 : decode cL_law 775 = .ok (.aload_n 1, 1) := by decide +kernel
theorem dL_law_776 : decode cL_law 776 = .ok (.bipush 8, 2) := by decide +kernel
theorem dL_law_778 : decode cL_law 778 = .ok (.invokevirtual 84, 3) := by decide +kernel
theorem dL_law_781 : decode cL_law 781 = .ok (.bipush 12, 2) := by decide +kernel
theorem dL_law_783 : decode cL_law 783 = .ok (.if_icmp .ne 36, 3) := by decide +kernel
theorem dL_law_786 : decode cL_law 786 = .ok (.aload_n 1, 1) := by decide +kernel
theorem dL_law_787 : decode cL_law 787 = .ok (.invokevirtual 186, 3) := by decide +kernel
theorem dL_law_790 : decode cL_law 790 = .ok (.bipush (-4), 2) := by decide +kernel
theorem dL_law_792 : decode cL_law 792 = .ok (.if_icmp .ne 27, 3) := by decide +kernel
theorem dL_law_795 : decode cL_law 795 = .ok (.aload_n 1, 1) := by decide +kernel
theorem dL_law_796 : decode cL_law 796 = .ok (.invokevirtual 189, 3) := by decide +kernel
theorem dL_law_799 : decode cL_law 799 = .ok (.ifCond .ne 20, 3) := by decide +kernel
theorem dL_law_802 : decode cL_law 802 = .ok (.aload_n 1, 1) := by decide +kernel
theorem dL_law_803 : decode cL_law 803 = .ok (.iconst 4, 1) := by decide +kernel
theorem dL_law_804 : decode cL_law 804 = .ok (.invokevirtual 84, 3) := by decide +kernel
theorem dL_law_807 : decode cL_law 807 = .ok (.ifCond .ne 12, 3) := by decide +kernel
theorem dL_law_810 : decode cL_law 810 = .ok (.aload_n 1, 1) := by decide +kernel
theorem dL_law_811 : decode cL_law 811 = .ok (.invokevirtual 186, 3) := by decide +kernel
theorem dL_law_814 : decode cL_law 814 = .ok (.bipush (-4), 2) := by decide +kernel
theorem dL_law_816 : decode cL_law 816 = .ok (.if_icmp .eq 5, 3) := by decide +kernel
theorem dL_law_819 : decode cL_law 819 = .ok (.iconst 0, 1) := by decide +kernel
theorem dL_law_820 : decode cL_law 820 = .ok (.ireturn, 1) := by decide +kernel
theorem dL_law_821 : decode cL_law 821 = .ok (.new 18, 3) := by decide +kernel
theorem dL_law_824 : decode cL_law 824 = .ok (.dup, 1) := by decide +kernel
theorem dL_law_825 : decode cL_law 825 = .ok (.invokespecial 185, 3) := by decide +kernel
theorem dL_law_828 : decode cL_law 828 = .ok (.astore_n 2, 1) := by decide +kernel
theorem dL_law_829 : decode cL_law 829 = .ok (.aload_n 2, 1) := by decide +kernel
theorem dL_law_830 : decode cL_law 830 = .ok (.aload_n 0, 1) := by decide +kernel
theorem dL_law_831 : decode cL_law 831 = .ok (.invokestatic 205, 3) := by decide +kernel
theorem dL_law_834 : decode cL_law 834 = .ok (.ifCond .ne 5, 3) := by decide +kernel
theorem dL_law_837 : decode cL_law 837 = .ok (.iconst 0, 1) := by decide +kernel
theorem dL_law_838 : decode cL_law 838 = .ok (.ireturn, 1) := by decide +kernel
theorem dL_law_839 : decode cL_law 839 = .ok (.iconst 0, 1) := by decide +kernel
theorem dL_law_840 : decode cL_law 840 = .ok (.istore_n 3, 1) := by decide +kernel
theorem dL_law_841 : decode cL_law 841 = .ok (.iload_n 3, 1) := by decide +kernel
theorem dL_law_842 : decode cL_law 842 = .ok (.iconst 3, 1) := by decide +kernel
theorem dL_law_843 : decode cL_law 843 = .ok (.if_icmp .ge 153, 3) := by decide +kernel
theorem dL_law_846 : decode cL_law 846 = .ok (.aload_n 2, 1) := by decide +kernel
theorem dL_law_847 : decode cL_law 847 = .ok (.iload_n 3, 1) := by decide +kernel
theorem dL_law_848 : decode cL_law 848 = .ok (.bipush 20, 2) := by decide +kernel
theorem dL_law_850 : decode cL_law 850 = .ok (.aload_n 0, 1) := by decide +kernel
theorem dL_law_851 : decode cL_law 851 = .ok (.bipush 22, 2) := by decide +kernel
theorem dL_law_853 : decode cL_law 853 = .ok (.iload_n 3, 1) := by decide +kernel
theorem dL_law_854 : decode cL_law 854 = .ok (.iadd, 1) := by decide +kernel
theorem dL_law_855 : decode cL_law 855 = .ok (.invokestatic 37, 3) := by decide +kernel
theorem dL_law_858 : decode cL_law 858 = .ok (.bipush 21, 2) := by decide +kernel
theorem dL_law_860 : decode cL_law 860 = .ok (.invokestatic 43, 3) := by decide +kernel
theorem dL_law_863 : decode cL_law 863 = .ok (.iadd, 1) := by decide +kernel
theorem dL_law_864 : decode cL_law 864 = .ok (.invokevirtual 125, 3) := by decide +kernel
theorem dL_law_867 : decode cL_law 867 = .ok (.istore 4, 2) := by decide +kernel
theorem dL_law_869 : decode cL_law 869 = .ok (.iload 4, 2) := by decide +kernel
theorem dL_law_871 : decode cL_law 871 = .ok (.ifCond .ge 12, 3) := by decide +kernel
theorem dL_law_874 : decode cL_law 874 = .ok (.iload 4, 2) := by decide +kernel
theorem dL_law_876 : decode cL_law 876 = .ok (.bipush (-3), 2) := by decide +kernel
theorem dL_law_878 : decode cL_law 878 = .ok (.if_icmp .eq 5, 3) := by decide +kernel
theorem dL_law_881 : decode cL_law 881 = .ok (.iconst 0, 1) := by decide +kernel
theorem dL_law_882 : decode cL_law 882 = .ok (.ireturn, 1) := by decide +kernel
theorem dL_law_883 : decode cL_law 883 = .ok (.iconst 0, 1) := by decide +kernel
theorem dL_law_884 : decode cL_law 884 = .ok (.istore 5, 2) := by decide +kernel
theorem dL_law_886 : decode cL_law 886 = .ok (.iload 5, 2) := by decide +kernel
theorem dL_law_888 : decode cL_law 888 = .ok (.iconst 4, 1) := by decide +kernel
theorem dL_law_889 : decode cL_law 889 = .ok (.if_icmp .ge 101, 3) := by decide +kernel
theorem dL_law_892 : decode cL_law 892 = .ok (.aload_n 2, 1) := by decide +kernel
theorem dL_law_893 : decode cL_law 893 = .ok (.iload_n 3, 1) := by decide +kernel
theorem dL_law_894 : decode cL_law 894 = .ok (.iconst 4, 1) := by decide +kernel
theorem dL_law_895 : decode cL_law 895 = .ok (.iload_n 3, 1) := by decide +kernel
theorem dL_law_896 : decode cL_law 896 = .ok (.imul, 1) := by decide +kernel
theorem dL_law_897 : decode cL_law 897 = .ok (.iload 5, 2) := by decide +kernel
theorem dL_law_899 : decode cL_law 899 = .ok (.iadd, 1) := by decide +kernel
theorem dL_law_900 : decode cL_law 900 = .ok (.aload_n 2, 1) := by decide +kernel
theorem dL_law_901 : decode cL_law 901 = .ok (.iload_n 3, 1) := by decide +kernel
theorem dL_law_902 : decode cL_law 902 = .ok (.iconst 0, 1) := by decide +kernel
theorem dL_law_903 : decode cL_law 903 = .ok (.invokevirtual 87, 3) := by decide +kernel
theorem dL_law_906 : decode cL_law 906 = .ok (.aload_n 0, 1) := by decide +kernel
theorem dL_law_907 : decode cL_law 907 = .ok (.bipush 25, 2) := by decide +kernel
theorem dL_law_909 : decode cL_law 909 = .ok (.iload 5, 2) := by decide +kernel
theorem dL_law_911 : decode cL_law 911 = .ok (.iadd, 1) := by decide +kernel
theorem dL_law_912 : decode cL_law 912 = .ok (.invokestatic 37, 3) := by decide +kernel
theorem dL_law_915 : decode cL_law 915 = .ok (.iconst 3, 1) := by decide +kernel
theorem dL_law_916 : decode cL_law 916 = .ok (.invokestatic 43, 3) := by decide +kernel
theorem dL_law_919 : decode cL_law 919 = .ok (.iadd, 1) := by decide +kernel
theorem dL_law_920 : decode cL_law 920 = .ok (.iconst 5, 1) := by decide +kernel
theorem dL_law_921 : decode cL_law 921 = .ok (.aload_n 0, 1) := by decide +kernel
theorem dL_law_922 : decode cL_law 922 = .ok (.bipush 25, 2) := by decide +kernel
theorem dL_law_924 : decode cL_law 924 = .ok (.iload 5, 2) := by decide +kernel
theorem dL_law_926 : decode cL_law 926 = .ok (.iadd, 1) := by decide +kernel
theorem dL_law_927 : decode cL_law 927 = .ok (.invokestatic 37, 3) := by decide +kernel
theorem dL_law_930 : decode cL_law 930 = .ok (.iconst 4, 1) := by decide +kernel
theorem dL_law_931 : decode cL_law 931 = .ok (.ishr, 1) := by decide +kernel
theorem dL_law_932 : decode cL_law 932 = .ok (.bipush 14, 2) := by decide +kernel
theorem dL_law_934 : decode cL_law 934 = .ok (.invokestatic 43, 3) := by decide +kernel
theorem dL_law_937 : decode cL_law 937 = .ok (.iadd, 1) := by decide +kernel
theorem dL_law_938 : decode cL_law 938 = .ok (.aload_n 0, 1) := by decide +kernel
theorem dL_law_939 : decode cL_law 939 = .ok (.bipush 25, 2) := by decide +kernel
theorem dL_law_941 : decode cL_law 941 = .ok (.iload 5, 2) := by decide +kernel
theorem dL_law_943 : decode cL_law 943 = .ok (.iadd, 1) := by decide +kernel
theorem dL_law_944 : decode cL_law 944 = .ok (.invokestatic 37, 3) := by decide +kernel
theorem dL_law_947 : decode cL_law 947 = .ok (.iconst 1, 1) := by decide +kernel
theorem dL_law_948 : decode cL_law 948 = .ok (.iand, 1) := by decide +kernel
theorem dL_law_949 : decode cL_law 949 = .ok (.ifCond .ne 7, 3) := by decide +kernel
theorem dL_law_952 : decode cL_law 952 = .ok (.iconst 1, 1) := by decide +kernel
theorem dL_law_953 : decode cL_law 953 = .ok (.goto 4, 3) := by decide +kernel
theorem dL_law_956 : decode cL_law 956 = .ok (.iconst 0, 1) := by decide +kernel
theorem dL_law_957 : decode cL_law 957 = .ok (.invokevirtual 128, 3) := by decide +kernel
theorem dL_law_960 : decode cL_law 960 = .ok (.istore 4, 2) := by decide +kernel
theorem dL_law_962 : decode cL_law 962 = .ok (.iload 4, 2) := by decide +kernel
theorem dL_law_964 : decode cL_law 964 = .ok (.bipush (-4), 2) := by decide +kernel
theorem dL_law_966 : decode cL_law 966 = .ok (.if_icmp .lt 16, 3) := by decide +kernel
theorem dL_law_969 : decode cL_law 969 = .ok (.iload 4, 2) := by decide +kernel
theorem dL_law_971 : decode cL_law 971 = .ok (.iconst (-1), 1) := by decide +kernel
theorem dL_law_972 : decode cL_law 972 = .ok (.if_icmp .eq 10, 3) := by decide +kernel
theorem dL_law_975 : decode cL_law 975 = .ok (.iload 4, 2) := by decide +kernel
theorem dL_law_977 : decode cL_law 977 = .ok (.bipush (-2), 2) := by decide +kernel
theorem dL_law_979 : decode cL_law 979 = .ok (.if_icmp .ne 5, 3) := by decide +kernel
theorem dL_law_982 : decode cL_law 982 = .ok (.iconst 0, 1) := by decide +kernel
theorem dL_law_983 : decode cL_law 983 = .ok (.ireturn, 1) := by decide +kernel
theorem dL_law_984 : decode cL_law 984 = .ok (.iinc 5 1, 3) := by decide +kernel
theorem dL_law_987 : decode cL_law 987 = .ok (.goto (-101), 3) := by decide +kernel
theorem dL_law_990 : decode cL_law 990 = .ok (.iinc 3 1, 3) := by decide +kernel
theorem dL_law_993 : decode cL_law 993 = .ok (.goto (-152), 3) := by decide +kernel
theorem dL_law_996 : decode cL_law 996 = .ok (.aload_n 2, 1) := by decide +kernel
theorem dL_law_997 : decode cL_law 997 = .ok (.invokestatic 170, 3) := by decide +kernel
theorem dL_law_1000 : decode cL_law 1000 = .ok (.lstore_n 3, 1) := by decide +kernel
theorem dL_law_1001 : decode cL_law 1001 = .ok (.aload_n 2, 1) := by decide +kernel
theorem dL_law_1002 : decode cL_law 1002 = .ok (.invokestatic 170, 3) := by decide +kernel
theorem dL_law_1005 : decode cL_law 1005 = .ok (.lload_n 3, 1) := by decide +kernel
theorem dL_law_1006 : decode cL_law 1006 = .ok (.lcmp, 1) := by decide +kernel
theorem dL_law_1007 : decode cL_law 1007 = .ok (.ifCond .ne 10, 3) := by decide +kernel
theorem dL_law_1010 : decode cL_law 1010 = .ok (.aload_n 2, 1) := by decide +kernel
theorem dL_law_1011 : decode cL_law 1011 = .ok (.invokestatic 208, 3) := by decide +kernel
theorem dL_law_1014 : decode cL_law 1014 = .ok (.ifCond .ne 5, 3) := by decide +kernel
theorem dL_law_1017 : decode cL_law 1017 = .ok (.iconst 0, 1) := by decide +kernel
theorem dL_law_1018 : decode cL_law 1018 = .ok (.ireturn, 1) := by decide +kernel
theorem dL_law_1019 : decode cL_law 1019 = .ok (.aload_n 2, 1) := by decide +kernel
theorem dL_law_1020 : decode cL_law 1020 = .ok (.invokevirtual 192, 3) := by decide +kernel
theorem dL_law_1023 : decode cL_law 1023 = .ok (.istore 5, 2) := by decide +kernel
theorem dL_law_1025 : decode cL_law 1025 = .ok (.iload 5, 2) := by decide +kernel
theorem dL_law_1027 : decode cL_law 1027 = .ok (.aload_n 2, 1) := by decide +kernel
theorem dL_law_1028 : decode cL_law 1028 = .ok (.iconst 0, 1) := by decide +kernel
theorem dL_law_1029 : decode cL_law 1029 = .ok (.invokevirtual 84, 3) := by decide +kernel
theorem dL_law_1032 : decode cL_law 1032 = .ok (.if_icmp .ne 12, 3) := by decide +kernel
theorem dL_law_1035 : decode cL_law 1035 = .ok (.aload_n 2, 1) := by decide +kernel
theorem dL_law_1036 : decode cL_law 1036 = .ok (.invokestatic 170, 3) := by decide +kernel
theorem dL_law_1039 : decode cL_law 1039 = .ok (.lload_n 3, 1) := by decide +kernel
theorem dL_law_1040 : decode cL_law 1040 = .ok (.lcmp, 1) := by decide +kernel
theorem dL_law_1041 : decode cL_law 1041 = .ok (.ifCond .eq 5, 3) := by decide +kernel
theorem dL_law_1044 : decode cL_law 1044 = .ok (.iconst 0, 1) := by decide +kernel
theorem dL_law_1045 : decode cL_law 1045 = .ok (.ireturn, 1) := by decide +kernel
theorem dL_law_1046 : decode cL_law 1046 = .ok (.bipush 13, 2) := by decide +kernel
theorem dL_law_1048 : decode cL_law 1048 = .ok (.newarray .long, 2) := by decide +kernel
theorem dL_law_1050 : decode cL_law 1050 = .ok (.astore 6, 2) := by decide +kernel
theorem dL_law_1052 : decode cL_law 1052 = .ok (.iconst 0, 1) := by decide +kernel
theorem dL_law_1053 : decode cL_law 1053 = .ok (.istore 7, 2) := by decide +kernel
theorem dL_law_1055 : decode cL_law 1055 = .ok (.iconst 0, 1) := by decide +kernel
theorem dL_law_1056 : decode cL_law 1056 = .ok (.istore 8, 2) := by decide +kernel
theorem dL_law_1058 : decode cL_law 1058 = .ok (.iload 8, 2) := by decide +kernel
theorem dL_law_1060 : decode cL_law 1060 = .ok (.bipush 12, 2) := by decide +kernel
theorem dL_law_1062 : decode cL_law 1062 = .ok (.if_icmp .ge 63, 3) := by decide +kernel
theorem dL_law_1065 : decode cL_law 1065 = .ok (.aload_n 2, 1) := by decide +kernel
theorem dL_law_1066 : decode cL_law 1066 = .ok (.invokestatic 170, 3) := by decide +kernel
theorem dL_law_1069 : decode cL_law 1069 = .ok (.lstore 9, 2) := by decide +kernel
theorem dL_law_1071 : decode cL_law 1071 = .ok (.aload_n 2, 1) := by decide +kernel
theorem dL_law_1072 : decode cL_law 1072 = .ok (.aload_n 0, 1) := by decide +kernel
theorem dL_law_1073 : decode cL_law 1073 = .ok (.bipush 20, 2) := by decide +kernel
theorem dL_law_1075 : decode cL_law 1075 = .ok (.iload 8, 2) := by decide +kernel
theorem dL_law_1077 : decode cL_law 1077 = .ok (.iadd, 1) := by decide +kernel
theorem dL_law_1078 : decode cL_law 1078 = .ok (.invokestatic 37, 3) := by decide +kernel
theorem dL_law_1081 : decode cL_law 1081 = .ok (.iload 8, 2) := by decide +kernel
theorem dL_law_1083 : decode cL_law 1083 = .ok (.sipush 977, 3) := by decide +kernel
theorem dL_law_1086 : decode cL_law 1086 = .ok (.imul, 1) := by decide +kernel
theorem dL_law_1087 : decode cL_law 1087 = .ok (.ixor, 1) := by decide +kernel
theorem dL_law_1088 : decode cL_law 1088 = .ok (.invokestatic 212, 3) := by decide +kernel
theorem dL_law_1091 : decode cL_law 1091 = .ok (.ifCond .eq 16, 3) := by decide +kernel
theorem dL_law_1094 : decode cL_law 1094 = .ok (.aload 6, 2) := by decide +kernel
theorem dL_law_1096 : decode cL_law 1096 = .ok (.iload 7, 2) := by decide +kernel
theorem dL_law_1098 : decode cL_law 1098 = .ok (.iinc 7 1, 3) := by decide +kernel
theorem dL_law_1101 : decode cL_law 1101 = .ok (.lload 9, 2) := by decide +kernel
theorem dL_law_1103 : decode cL_law 1103 = .ok (.lastore, 1) := by decide +kernel
theorem dL_law_1104 : decode cL_law 1104 = .ok (.goto 15, 3) := by decide +kernel
theorem dL_law_1107 : decode cL_law 1107 = .ok (.aload_n 2, 1) := by decide +kernel
theorem dL_law_1108 : decode cL_law 1108 = .ok (.invokestatic 170, 3) := by decide +kernel
theorem dL_law_1111 : decode cL_law 1111 = .ok (.lload 9, 2) := by decide +kernel
theorem dL_law_1113 : decode cL_law 1113 = .ok (.lcmp, 1) := by decide +kernel
theorem dL_law_1114 : decode cL_law 1114 = .ok (.ifCond .eq 5, 3) := by decide +kernel
theorem dL_law_1117 : decode cL_law 1117 = .ok (.iconst 0, 1) := by decide +kernel
theorem dL_law_1118 : decode cL_law 1118 = .ok (.ireturn, 1) := by decide +kernel
theorem dL_law_1119 : decode cL_law 1119 = .ok (.iinc 8 1, 3) := by decide +kernel
theorem dL_law_1122 : decode cL_law 1122 = .ok (.goto (-64), 3) := by decide +kernel
theorem dL_law_1125 : decode cL_law 1125 = .ok (.bipush 8, 2) := by decide +kernel
theorem dL_law_1127 : decode cL_law 1127 = .ok (.iload 7, 2) := by decide +kernel
theorem dL_law_1129 : decode cL_law 1129 = .ok (.invokestatic 216, 3) := by decide +kernel
theorem dL_law_1132 : decode cL_law 1132 = .ok (.istore 8, 2) := by decide +kernel
theorem dL_law_1134 : decode cL_law 1134 = .ok (.iconst 1, 1) := by decide +kernel
theorem dL_law_1135 : decode cL_law 1135 = .ok (.istore 9, 2) := by decide +kernel
theorem dL_law_1137 : decode cL_law 1137 = .ok (.iload 9, 2) := by decide +kernel
theorem dL_law_1139 : decode cL_law 1139 = .ok (.iload 8, 2) := by decide +kernel
theorem dL_law_1141 : decode cL_law 1141 = .ok (.if_icmp .gt 53, 3) := by decide +kernel
theorem dL_law_1144 : decode cL_law 1144 = .ok (.aload_n 2, 1) := by decide +kernel
theorem dL_law_1145 : decode cL_law 1145 = .ok (.invokevirtual 186, 3) := by decide +kernel
theorem dL_law_1148 : decode cL_law 1148 = .ok (.istore 10, 2) := by decide +kernel
theorem dL_law_1150 : decode cL_law 1150 = .ok (.iload 10, 2) := by decide +kernel
theorem dL_law_1152 : decode cL_law 1152 = .ok (.iload 8, 2) := by decide +kernel
theorem dL_law_1154 : decode cL_law 1154 = .ok (.iload 9, 2) := by decide +kernel
theorem dL_law_1156 : decode cL_law 1156 = .ok (.isub, 1) := by decide +kernel
theorem dL_law_1157 : decode cL_law 1157 = .ok (.if_icmp .lt 29, 3) := by decide +kernel
theorem dL_law_1160 : decode cL_law 1160 = .ok (.iload 10, 2) := by decide +kernel
theorem dL_law_1162 : decode cL_law 1162 = .ok (.bipush 8, 2) := by decide +kernel
theorem dL_law_1164 : decode cL_law 1164 = .ok (.iload 9, 2) := by decide +kernel
theorem dL_law_1166 : decode cL_law 1166 = .ok (.isub, 1) := by decide +kernel
theorem dL_law_1167 : decode cL_law 1167 = .ok (.if_icmp .gt 19, 3) := by decide +kernel
theorem dL_law_1170 : decode cL_law 1170 = .ok (.aload_n 2, 1) := by decide +kernel
theorem dL_law_1171 : decode cL_law 1171 = .ok (.invokestatic 170, 3) := by decide +kernel
theorem dL_law_1174 : decode cL_law 1174 = .ok (.aload 6, 2) := by decide +kernel
theorem dL_law_1176 : decode cL_law 1176 = .ok (.iload 7, 2) := by decide +kernel
theorem dL_law_1178 : decode cL_law 1178 = .ok (.iload 9, 2) := by decide +kernel
theorem dL_law_1180 : decode cL_law 1180 = .ok (.isub, 1) := by decide +kernel
theorem dL_law_1181 : decode cL_law 1181 = .ok (.laload, 1) := by decide +kernel
theorem dL_law_1182 : decode cL_law 1182 = .ok (.lcmp, 1) := by decide +kernel
theorem dL_law_1183 : decode cL_law 1183 = .ok (.ifCond .eq 5, 3) := by decide +kernel
theorem dL_law_1186 : decode cL_law 1186 = .ok (.iconst 0, 1) := by decide +kernel
theorem dL_law_1187 : decode cL_law 1187 = .ok (.ireturn, 1) := by decide +kernel
theorem dL_law_1188 : decode cL_law 1188 = .ok (.iinc 9 1, 3) := by decide +kernel
theorem dL_law_1191 : decode cL_law 1191 = .ok (.goto (-54), 3) := by decide +kernel
theorem dL_law_1194 : decode cL_law 1194 = .ok (.aload_n 2, 1) := by decide +kernel
theorem dL_law_1195 : decode cL_law 1195 = .ok (.invokevirtual 189, 3) := by decide +kernel
theorem dL_law_1198 : decode cL_law 1198 = .ok (.iload 5, 2) := by decide +kernel
theorem dL_law_1200 : decode cL_law 1200 = .ok (.if_icmp .ne 43, 3) := by decide +kernel
theorem dL_law_1203 : decode cL_law 1203 = .ok (.aload_n 2, 1) := by decide +kernel
theorem dL_law_1204 : decode cL_law 1204 = .ok (.invokevirtual 186, 3) := by decide +kernel
theorem dL_law_1207 : decode cL_law 1207 = .ok (.bipush (-4), 2) := by decide +kernel
theorem dL_law_1209 : decode cL_law 1209 = .ok (.if_icmp .ne 34, 3) := by decide +kernel
theorem dL_law_1212 : decode cL_law 1212 = .ok (.aload_n 2, 1) := by decide +kernel
theorem dL_law_1213 : decode cL_law 1213 = .ok (.invokestatic 170, 3) := by decide +kernel
theorem dL_law_1216 : decode cL_law 1216 = .ok (.lload_n 3, 1) := by decide +kernel
theorem dL_law_1217 : decode cL_law 1217 = .ok (.lcmp, 1) := by decide +kernel
theorem dL_law_1218 : decode cL_law 1218 = .ok (.ifCond .ne 25, 3) := by decide +kernel
theorem dL_law_1221 : decode cL_law 1221 = .ok (.aload_n 2, 1) := by decide +kernel
theorem dL_law_1222 : decode cL_law 1222 = .ok (.invokevirtual 189, 3) := by decide +kernel
theorem dL_law_1225 : decode cL_law 1225 = .ok (.iload 5, 2) := by decide +kernel
theorem dL_law_1227 : decode cL_law 1227 = .ok (.if_icmp .ne 16, 3) := by decide +kernel
theorem dL_law_1230 : decode cL_law 1230 = .ok (.aload_n 2, 1) := by decide +kernel
theorem dL_law_1231 : decode cL_law 1231 = .ok (.invokestatic 170, 3) := by decide +kernel
theorem dL_law_1234 : decode cL_law 1234 = .ok (.lload_n 3, 1) := by decide +kernel
theorem dL_law_1235 : decode cL_law 1235 = .ok (.lcmp, 1) := by decide +kernel
theorem dL_law_1236 : decode cL_law 1236 = .ok (.ifCond .ne 7, 3) := by decide +kernel
theorem dL_law_1239 : decode cL_law 1239 = .ok (.iconst 1, 1) := by decide +kernel
theorem dL_law_1240 : decode cL_law 1240 = .ok (.goto 4, 3) := by decide +kernel
theorem dL_law_1243 : decode cL_law 1243 = .ok (.iconst 0, 1) := by decide +kernel
theorem dL_law_1244 : decode cL_law 1244 = .ok (.ireturn, 1) := by decide +kernel
end
section
/-! the words of the law, among those of the tables, by their places -/
theorem xx_mem {big ws : List Cond} (ps : List Nat) (h : ws = ps.filterMap (fun i => big[i]?)) : ∀ w ∈ ws, w ∈ big := by
  intro w hw
  rw [h] at hw
  obtain ⟨i, -, hi⟩ := List.mem_filterMap.mp hw
  exact List.mem_of_getElem? hi
theorem xx_app {big a b : List Cond} (ha : ∀ w ∈ a, w ∈ big) (hb : ∀ w ∈ b, w ∈ big) : ∀ w ∈ a ++ b, w ∈ big := fun w h => (List.mem_append.mp h).elim (ha w) (hb w)
set_option maxRecDepth 20000 in
theorem xxi_wsL_law_r1 : ∀ w ∈ wsL_law_r1, w ∈ lw_tbl := xx_mem [53, 54, 32, 116, 1202, 1204, 1201, 418, 44, 419, 55, 56, 57, 58, 59, 60, 61, 62, 33, 333, 334, 335, 242, 243] (by decide +kernel)
set_option maxRecDepth 20000 in
theorem xxi_wsL_law_r2 : ∀ w ∈ wsL_law_r2, w ∈ lw_tbl := xx_mem [37, 336, 262, 263, 39, 337, 295, 296, 42, 338, 339, 317, 318, 43, 340, 341, 63, 64, 65, 66, 67, 197, 69, 34] (by decide +kernel)
set_option maxRecDepth 20000 in
theorem xxi_wsL_law_r3 : ∀ w ∈ wsL_law_r3, w ∈ lw_tbl := xx_mem [117, 199, 119, 35, 165, 201, 167, 36, 70, 71, 72, 73, 95, 121, 122, 123, 169, 170, 171, 189, 190, 191, 192, 203] (by decide +kernel)
set_option maxRecDepth 20000 in
theorem xxi_wsL_law_r4 : ∀ w ∈ wsL_law_r4, w ∈ lw_tbl := xx_mem [205, 208, 209, 211, 213, 215, 217, 193, 194, 195, 196, 172, 174, 176, 178, 244, 245, 246, 247, 248, 251, 250, 264, 265] (by decide +kernel)
set_option maxRecDepth 20000 in
theorem xxi_wsL_law_r5 : ∀ w ∈ wsL_law_r5, w ∈ lw_tbl := xx_mem [266, 267, 268, 38, 269, 270, 271, 294, 280, 281, 273, 274, 41, 275, 276, 277, 278, 279, 297, 298, 299, 300, 301, 303] (by decide +kernel)
set_option maxRecDepth 20000 in
theorem xxi_wsL_law_r6 : ∀ w ∈ wsL_law_r6, w ∈ lw_tbl := xx_mem [319, 320, 321, 322, 323, 324, 929, 930, 931, 932, 254, 933, 934, 935, 936, 252, 253, 484, 485, 486, 487, 488, 489, 490] (by decide +kernel)
set_option maxRecDepth 20000 in
theorem xxi_wsL_law_r7 : ∀ w ∈ wsL_law_r7, w ∈ lw_tbl := xx_mem [491, 74, 77, 80, 83, 86, 88, 90, 92, 492, 493, 494, 495, 124, 127, 130, 133, 136, 139, 142, 145, 496, 497, 498] (by decide +kernel)
set_option maxRecDepth 20000 in
theorem xxi_wsL_law_r8 : ∀ w ∈ wsL_law_r8, w ∈ lw_tbl := xx_mem [499, 942, 943, 944, 945, 207, 941, 366, 367, 368, 369, 937, 938, 939, 940, 676, 677, 678, 679, 480, 481, 482, 483, 680] (by decide +kernel)
set_option maxRecDepth 20000 in
theorem xxi_wsL_law_r9 : ∀ w ∈ wsL_law_r9, w ∈ lw_tbl := xx_mem [682, 15, 683, 684, 685, 686, 687, 81, 84, 571, 573, 5, 574, 575, 576, 400, 401, 688, 689, 690, 691, 693, 692, 564] (by decide +kernel)
set_option maxRecDepth 20000 in
theorem xxi_wsL_law_r10 : ∀ w ∈ wsL_law_r10, w ∈ lw_tbl := xx_mem [565, 566, 694, 695, 696, 697, 524, 526, 2, 527, 528, 529, 530, 531, 532, 533, 534, 535, 907, 908, 909, 910, 210, 212] (by decide +kernel)
set_option maxRecDepth 20000 in
theorem xxi_wsL_law_r11 : ∀ w ∈ wsL_law_r11, w ∈ lw_tbl := xx_mem [204, 206, 214, 216, 218, 911, 912, 913, 914, 915, 916, 917, 918, 919, 93, 920, 921, 922, 923, 146, 924, 925, 926, 927] (by decide +kernel)
set_option maxRecDepth 20000 in
theorem xxi_wsL_law_r12 : ∀ w ∈ wsL_law_r12, w ∈ lw_tbl := xx_mem [928, 872, 873, 874, 125, 131, 374, 375, 376, 377, 378, 1205, 293, 379, 380, 284, 370, 371, 372, 373, 381, 382, 383, 384] (by decide +kernel)
set_option maxRecDepth 20000 in
theorem xxi_wsL_law_r13 : ∀ w ∈ wsL_law_r13, w ∈ lw_tbl := xx_mem [385, 1206, 386, 387, 388, 1207, 1218, 390, 391, 392, 1208, 1219, 394, 395, 406, 396, 397, 45, 398, 399, 402, 403, 404, 405] (by decide +kernel)
set_option maxRecDepth 20000 in
theorem xxi_wsL_law_r14 : ∀ w ∈ wsL_law_r14, w ∈ lw_tbl := xx_mem [407, 408, 46, 409, 410, 411, 412, 413, 414, 416, 417, 420, 422, 421, 47, 423, 425, 426, 424, 427, 428, 429, 48, 430] (by decide +kernel)
set_option maxRecDepth 20000 in
theorem xxi_wsL_law_r15 : ∀ w ∈ wsL_law_r15, w ∈ lw_tbl := xx_mem [431, 1209, 1220, 433, 434, 435, 436, 437, 438, 439, 440, 441, 442, 443, 444, 445, 446, 447, 448, 40, 449, 450, 452, 453] (by decide +kernel)
set_option maxRecDepth 20000 in
theorem xxi_wsL_law_r16 : ∀ w ∈ wsL_law_r16, w ∈ lw_tbl := xx_mem [49, 454, 455, 456, 457, 458, 460, 462, 464, 465, 466, 467, 468, 469, 470, 471, 472, 473, 474, 475, 698, 699, 700, 701] (by decide +kernel)
set_option maxRecDepth 20000 in
theorem xxi_wsL_law_r17 : ∀ w ∈ wsL_law_r17, w ∈ lw_tbl := xx_mem [702, 703, 704, 705, 304, 306, 706, 708, 16, 709, 710, 711, 712, 713, 714, 715, 1210, 716, 717, 718, 719, 720, 721, 722] (by decide +kernel)
set_option maxRecDepth 20000 in
theorem xxi_wsL_law_r18 : ∀ w ∈ wsL_law_r18, w ∈ lw_tbl := xx_mem [723, 724, 725, 731, 732, 733, 734, 1179, 735, 736, 737, 738, 739, 740, 741, 742, 743, 1180, 744, 745, 746, 747, 748, 749] (by decide +kernel)
set_option maxRecDepth 20000 in
theorem xxi_wsL_law_r19 : ∀ w ∈ wsL_law_r19, w ∈ lw_tbl := xx_mem [750, 751, 752, 753, 754, 755, 756, 757, 758, 759, 760, 762, 17, 763, 764, 766, 18, 767, 768, 769, 770, 771, 773, 19] (by decide +kernel)
set_option maxRecDepth 20000 in
theorem xxi_wsL_law_r20 : ∀ w ∈ wsL_law_r20, w ∈ lw_tbl := xx_mem [774, 775, 777, 20, 778, 779, 780, 781, 782, 784, 21, 785, 305, 786, 788, 22, 789, 302, 790, 791, 792, 793, 555, 557] (by decide +kernel)
set_option maxRecDepth 20000 in
theorem xxi_wsL_law_r21 : ∀ w ∈ wsL_law_r21, w ∈ lw_tbl := xx_mem [4, 558, 198, 87, 82, 91, 559, 560, 561, 562, 563, 504, 506, 1, 507, 508, 509, 510, 511, 325, 512, 513, 514, 515] (by decide +kernel)
set_option maxRecDepth 20000 in
theorem xxi_wsL_law_r22 : ∀ w ∈ wsL_law_r22, w ∈ lw_tbl := xx_mem [567, 568, 569, 570, 577, 579, 6, 580, 581, 582, 583, 584, 589, 591, 7, 592, 200, 96, 126, 147, 135, 132, 138, 141] (by decide +kernel)
set_option maxRecDepth 20000 in
theorem xxi_wsL_law_r23 : ∀ w ∈ wsL_law_r23, w ∈ lw_tbl := xx_mem [144, 593, 594, 595, 596, 597, 598, 599, 600, 601, 602, 603, 604, 606, 8, 607, 608, 609, 610, 611, 128, 612, 613, 615] (by decide +kernel)
set_option maxRecDepth 20000 in
theorem xxi_wsL_law_r24 : ∀ w ∈ wsL_law_r24, w ∈ lw_tbl := xx_mem [9, 616, 137, 140, 617, 618, 619, 620, 621, 622, 623, 624, 625, 626, 627, 794, 796, 23, 797, 202, 173, 175, 89, 798] (by decide +kernel)
set_option maxRecDepth 20000 in
theorem xxi_wsL_law_r25 : ∀ w ∈ wsL_law_r25, w ∈ lw_tbl := xx_mem [799, 800, 801, 802, 804, 24, 805, 806, 143, 807, 809, 25, 810, 811, 812, 813, 814, 815, 816, 817, 818, 134, 632, 634] (by decide +kernel)
set_option maxRecDepth 20000 in
theorem xxi_wsL_law_r26 : ∀ w ∈ wsL_law_r26, w ∈ lw_tbl := xx_mem [10, 635, 85, 636, 637, 638, 639, 644, 646, 11, 647, 648, 649, 650, 655, 657, 12, 658, 672, 674, 14, 675, 177, 179] (by decide +kernel)
set_option maxRecDepth 20000 in
theorem xxi_wsL_law_r27 : ∀ w ∈ wsL_law_r27, w ∈ lw_tbl := xx_mem [544, 545, 546, 819, 820, 821, 822, 823, 825, 26, 826, 827, 829, 27, 830, 307, 831, 832, 833, 834, 835, 1211, 836, 837] (by decide +kernel)
set_option maxRecDepth 20000 in
theorem xxi_wsL_law_r28 : ∀ w ∈ wsL_law_r28, w ∈ lw_tbl := xx_mem [282, 838, 839, 840, 841, 842, 843, 844, 845, 846, 847, 848, 849, 850, 851, 852, 853, 854, 476, 477, 478, 479, 500, 502] (by decide +kernel)
set_option maxRecDepth 20000 in
theorem xxi_wsL_law_r29 : ∀ w ∈ wsL_law_r29, w ∈ lw_tbl := xx_mem [0, 503, 516, 517, 518, 519, 75, 78, 520, 521, 522, 523, 536, 537, 538, 539, 540, 542, 3, 543, 547, 548, 549, 550] (by decide +kernel)
set_option maxRecDepth 20000 in
theorem xxi_wsL_law_r30 : ∀ w ∈ wsL_law_r30, w ∈ lw_tbl := xx_mem [952, 953, 31, 954, 955, 956, 957, 958, 959, 960, 961, 962, 668, 669, 670, 671, 863, 864, 865, 866, 867, 868, 869, 870] (by decide +kernel)
set_option maxRecDepth 20000 in
theorem xxi_wsL_law_r31 : ∀ w ∈ wsL_law_r31, w ∈ lw_tbl := xx_mem [871, 659, 660, 661, 662, 663, 665, 13, 666, 667, 640, 641, 642, 643, 651, 652, 653, 654, 899, 900, 901, 902, 903, 904] (by decide +kernel)
set_option maxRecDepth 20000 in
theorem xxi_wsL_law_r32 : ∀ w ∈ wsL_law_r32, w ∈ lw_tbl := xx_mem [905, 906, 879, 880, 881, 882, 883, 884, 885, 886, 887, 888, 889, 890, 891, 892, 893, 894, 895, 896, 897, 898, 855, 856] (by decide +kernel)
set_option maxRecDepth 20000 in
theorem xxi_wsL_law_r33 : ∀ w ∈ wsL_law_r33, w ∈ lw_tbl := xx_mem [857, 858, 76, 79, 94, 859, 860, 861, 862, 551, 552, 553, 554, 628, 629, 630, 631, 875, 876, 877, 878, 963, 964, 965] (by decide +kernel)
set_option maxRecDepth 20000 in
theorem xxi_wsL_law_r34 : ∀ w ∈ wsL_law_r34, w ∈ lw_tbl := xx_mem [966, 967, 968, 969, 970, 971, 972, 973, 974, 1212, 975, 976, 977, 978, 50, 979, 980, 981, 982, 983, 985, 987, 988, 989] (by decide +kernel)
set_option maxRecDepth 20000 in
theorem xxi_wsL_law_r35 : ∀ w ∈ wsL_law_r35, w ∈ lw_tbl := xx_mem [990, 991, 992, 993, 994, 995, 996, 997, 998, 999, 1000, 1001, 1002, 1003, 1005, 1006, 1007, 1008, 1009, 1213, 1010, 1011, 1012, 1214] (by decide +kernel)
set_option maxRecDepth 20000 in
theorem xxi_wsL_law_r36 : ∀ w ∈ wsL_law_r36, w ∈ lw_tbl := xx_mem [1221, 1014, 1015, 1016, 1017, 1018, 1019, 1020, 1215, 1222, 1022, 1023, 1024, 1216, 1223, 1026, 1027, 1028, 1029, 1030, 1031, 1032, 1033, 1034] (by decide +kernel)
set_option maxRecDepth 20000 in
theorem xxi_wsL_law_r37 : ∀ w ∈ wsL_law_r37, w ∈ lw_tbl := xx_mem [1038, 1039, 1040, 1041, 1042, 1044, 28, 1045, 1046, 1048, 29, 1049, 1050, 1051, 1052, 1053, 1054, 1055, 1056, 361, 362, 363, 364, 365] (by decide +kernel)
set_option maxRecDepth 20000 in
theorem xxi_wsL_law_r38 : ∀ w ∈ wsL_law_r38, w ∈ lw_tbl := xx_app (a := [Cond.methodLink RL 205 yL_makes, Cond.static yL_makes]) (b := Cond.code yL_makes cL_makes 4 (some .boolean) :: [Cond.methodLink RL 37 yL_at, Cond.static yL_at, Cond.code yL_at cL_at 2 (some .int), Cond.methodLink RL 43 yL_some, Cond.static yL_some, Cond.code yL_some cL_some 3 (some .int), Cond.methodLink RL 128 yX7_bowl, Cond.instanceMethod yX7_bowl, Cond.selects RX7 yX7_bowl yX7_bowl, Cond.code yX7_bowl cX7_bowl 6 (some .int), Cond.methodLink RL 170 yL_asks, Cond.static yL_asks, Cond.code yL_asks cL_asks 7 (some .long), Cond.constantLong RL 62 (31), Cond.methodLink RL 64 yX7_winShare, Cond.instanceMethod yX7_winShare, Cond.selects RX7 yX7_winShare yX7_winShare, Cond.code yX7_winShare cX7_winShare 2 (some .double), Cond.methodLink RL 68 yJxe99ae_doubleToLongBits_ccdee, Cond.static yJxe99ae_doubleToLongBits_ccdee, Cond.initialized RJxe99ae]) (xx_mem [1057, 1058] (by decide +kernel)) (List.forall_mem_cons.mpr ⟨List.mem_append_left _ (List.mem_append_right _ (List.mem_append_right _ (List.mem_append_right _ (List.mem_append_right _ (List.mem_append_right _ (List.mem_of_getElem? (i := 68) rfl)))))), xx_app (a := [Cond.methodLink RL 37 yL_at, Cond.static yL_at, Cond.code yL_at cL_at 2 (some .int), Cond.methodLink RL 43 yL_some, Cond.static yL_some, Cond.code yL_some cL_some 3 (some .int), Cond.methodLink RL 128 yX7_bowl, Cond.instanceMethod yX7_bowl, Cond.selects RX7 yX7_bowl yX7_bowl, Cond.code yX7_bowl cX7_bowl 6 (some .int), Cond.methodLink RL 170 yL_asks, Cond.static yL_asks]) (b := Cond.code yL_asks cL_asks 7 (some .long) :: [Cond.constantLong RL 62 (31), Cond.methodLink RL 64 yX7_winShare, Cond.instanceMethod yX7_winShare, Cond.selects RX7 yX7_winShare yX7_winShare, Cond.code yX7_winShare cX7_winShare 2 (some .double), Cond.methodLink RL 68 yJxe99ae_doubleToLongBits_ccdee, Cond.static yJxe99ae_doubleToLongBits_ccdee, Cond.initialized RJxe99ae]) (xx_mem [946, 947, 948, 949, 950, 951, 585, 586, 587, 588, 1060, 1061] (by decide +kernel)) (List.forall_mem_cons.mpr ⟨List.mem_append_left _ (List.mem_append_right _ (List.mem_append_right _ (List.mem_append_right _ (List.mem_append_right _ (List.mem_append_right _ (List.mem_of_getElem? (i := 71) rfl)))))), xx_mem [1063, 1064, 1065, 1066, 1067, 1068, 1069, 51] (by decide +kernel)⟩)⟩)
set_option maxRecDepth 20000 in
theorem xxi_wsL_law_r39 : ∀ w ∈ wsL_law_r39, w ∈ lw_tbl := xx_mem [1070, 1074, 1076, 1075, 51, 1077, 1071, 1072, 1073, 1078, 1079, 52, 1080, 1084, 1086, 1085, 52, 1087, 1081, 1082, 1083, 1088, 1089, 1090] (by decide +kernel)
set_option maxRecDepth 20000 in
theorem xxi_wsL_law_r40 : ∀ w ∈ wsL_law_r40, w ∈ lw_tbl := xx_mem [1091, 1092, 1093, 1094, 1095, 1096, 1097, 1098, 1099, 1100, 1101, 1102, 1103, 1104, 1105, 1106, 1107, 1109, 30, 1110, 1111, 1112, 1113, 1114] (by decide +kernel)
set_option maxRecDepth 20000 in
theorem xxi_wsL_law_r41 : ∀ w ∈ wsL_law_r41, w ∈ lw_tbl := xx_app (a := [Cond.fieldLink RX7 347 "BowlsGreen$Wood" "bias" "I", Cond.methodLink RL 119 yX7_rinkAt, Cond.instanceMethod yX7_rinkAt, Cond.selects RX7 yX7_rinkAt yX7_rinkAt, Cond.code yX7_rinkAt cX7_rinkAt 2 (some .int), Cond.methodLink RX7 356 yX1_rinkInOrder, Cond.instanceMethod yX1_rinkInOrder, Cond.selects RX1 yX1_rinkInOrder yX1_rinkInOrder, Cond.code yX1_rinkInOrder cX1_rinkInOrder 5 (some .int), Cond.methodLink RL 122 yX7_leader, Cond.instanceMethod yX7_leader, Cond.selects RX7 yX7_leader yX7_leader, Cond.code yX7_leader cX7_leader 3 (some .int), Cond.methodLink RL 208 yL_refused, Cond.static yL_refused]) (b := Cond.code yL_refused cL_refused 9 (some .boolean) :: [Cond.methodLink RL 131 yX7_close, Cond.instanceMethod yX7_close, Cond.selects RX7 yX7_close yX7_close, Cond.code yX7_close cX7_close 2 (some .int), Cond.methodLink RL 166 yL_reads, Cond.static yL_reads, Cond.code yL_reads cL_reads 3 (some .int), Cond.methodLink RL 212 yL_changes]) (xx_mem [129, 1115, 1116, 1117, 1118, 1119, 1120, 1121, 1122, 1123, 1124, 1125, 1126, 1196, 1197] (by decide +kernel)) (List.forall_mem_cons.mpr ⟨List.mem_append_left _ (List.mem_append_right _ (List.mem_append_right _ (List.mem_append_right _ (List.mem_append_right _ (List.mem_append_right _ (List.mem_of_getElem? (i := 207) rfl)))))), xx_mem [1130, 1131, 1132, 1133, 1193, 1194, 1195, 1127] (by decide +kernel)⟩)
set_option maxRecDepth 20000 in
theorem xxi_wsL_law_r42 : ∀ w ∈ wsL_law_r42, w ∈ lw_tbl := xx_app (a := [Cond.static yL_changes]) (b := Cond.code yL_changes cL_changes 4 (some .boolean) :: [Cond.classLink RL 143 RJ4, Cond.methodLink RL 145 yJ4_init_da8c8, Cond.methodLink RL 148 yJ4_append_15ec4, Cond.methodLink RL 151 yJ4_append_bf812, Cond.methodLink RL 156 yJ4_toString_0e30d, Cond.instanceMethod yJ4_toString_0e30d, Cond.selects RJ4 yJ4_toString_0e30d yJ4_toString_0e30d, Cond.code yJ4_toString_0e30d cJ4_toString_0e30d 1 (some (.object "java/lang/String")), Cond.classLink RJ4 18 RJ0, Cond.instantiable RJ0 4, Cond.methodLink RJ4 137 yJ0_init_81219, Cond.instanceMethod yJ0_init_81219, Cond.code yJ0_init_81219 cJ0_init_81219 2 none, Cond.methodLink RJ0 489 yJ0_init_db425, Cond.instanceMethod yJ0_init_db425, Cond.code yJ0_init_db425 cJ0_init_db425 5 none, Cond.methodLink RJ0 1 objectInit, Cond.fieldLink RJ0 1048 "java/lang/AbstractStringBuilder" "maybeLatin1" "Z", Cond.methodLink RJ0 552 ⟨"java/lang/AbstractStringBuilder", "getValue", "()[B"⟩, Cond.sameMethod "java/lang/AbstractStringBuilder" "java/lang/AbstractStringBuilder" "getValue" "()[B", Cond.selects RJ4 ⟨"java/lang/AbstractStringBuilder", "getValue", "()[B"⟩ yJ5_getValue_6d5f1, Cond.instanceMethod yJ5_getValue_6d5f1]) (xx_mem [1128] (by decide +kernel)) (List.forall_mem_cons.mpr ⟨List.mem_append_left _ (List.mem_append_right _ (List.mem_append_right _ (List.mem_append_right _ (List.mem_append_right _ (List.mem_append_right _ (List.mem_of_getElem? (i := 138) rfl)))))), xx_mem [1134, 1135, 1137, 1138, 1140, 1141, 1142, 1143, 1144, 1145, 1146, 1147, 1148, 1149, 1150, 1151, 1152, 283, 1153, 1155, 1156, 1154] (by decide +kernel)⟩)
set_option maxRecDepth 20000 in
theorem xxi_wsL_law_r43 : ∀ w ∈ wsL_law_r43, w ∈ lw_tbl := xx_mem [1157, 1158, 379, 1217, 1159, 1160, 1161, 1162, 1163, 1164, 1165, 1166, 1167, 1168, 1169, 1170, 1171, 1172, 1173, 1174, 1175, 1176, 1177, 1178] (by decide +kernel)
set_option maxRecDepth 20000 in
theorem inX7 : ∀ w ∈ wsX70, w ∈ lw_tbl := xx_mem [342, 344, 346, 348, 350, 352, 354, 356, 358] (by decide +kernel)
set_option maxRecDepth 20000 in
theorem inX1 : ∀ w ∈ wsX10, w ∈ lw_tbl := xx_mem [219, 221, 223, 225, 227, 229, 231, 233, 235, 237, 239] (by decide +kernel)
set_option maxRecDepth 20000 in
theorem inX3 : ∀ w ∈ wsX30, w ∈ lw_tbl := xx_mem [255, 257, 259] (by decide +kernel)
set_option maxRecDepth 20000 in
theorem inJ4 : ∀ w ∈ wsJ40, w ∈ lw_tbl := xx_mem [285, 287, 289, 291] (by decide +kernel)
set_option maxRecDepth 20000 in
theorem inX2 : ∀ w ∈ wsX20, w ∈ lw_tbl := xx_mem [308, 310, 312, 314] (by decide +kernel)
set_option maxRecDepth 20000 in
theorem inX4 : ∀ w ∈ wsX40, w ∈ lw_tbl := xx_mem [326, 328, 330] (by decide +kernel)
set_option maxRecDepth 20000 in
theorem inX5 : ∀ w ∈ wsX50, w ∈ lw_tbl := xx_mem [97, 99, 101, 103, 105, 107, 109, 111, 113] (by decide +kernel)
set_option maxRecDepth 20000 in
theorem inX6 : ∀ w ∈ wsX60, w ∈ lw_tbl := xx_mem [148, 150, 152, 154, 156, 158, 160, 162] (by decide +kernel)
set_option maxRecDepth 20000 in
theorem inX0 : ∀ w ∈ wsX00, w ∈ lw_tbl := xx_mem [180, 182, 184, 186] (by decide +kernel)
set_option maxRecDepth 20000 in
theorem inJ0 : ∀ w ∈ wsJ00, w ∈ lw_tbl := xx_mem [1181, 1183, 1185, 1187] (by decide +kernel)
set_option maxRecDepth 20000 in
theorem wsL_law_in : ∀ w ∈ wsL_law, w ∈ lw_tbl := xx_app (xx_app (xx_app (xx_app (xx_app (xx_app (xx_app (xx_app (xx_app (xx_app (xx_app (xx_app xxi_wsL_law_r1 (xx_app xxi_wsL_law_r2 (xx_app xxi_wsL_law_r3 (xx_app xxi_wsL_law_r4 (xx_app xxi_wsL_law_r5 (xx_app xxi_wsL_law_r6 (xx_app xxi_wsL_law_r7 (xx_app xxi_wsL_law_r8 (xx_app xxi_wsL_law_r9 (xx_app xxi_wsL_law_r10 (xx_app xxi_wsL_law_r11 (xx_app xxi_wsL_law_r12 (xx_app xxi_wsL_law_r13 (xx_app xxi_wsL_law_r14 (xx_app xxi_wsL_law_r15 (xx_app xxi_wsL_law_r16 (xx_app xxi_wsL_law_r17 (xx_app xxi_wsL_law_r18 (xx_app xxi_wsL_law_r19 (xx_app xxi_wsL_law_r20 (xx_app xxi_wsL_law_r21 (xx_app xxi_wsL_law_r22 (xx_app xxi_wsL_law_r23 (xx_app xxi_wsL_law_r24 (xx_app xxi_wsL_law_r25 (xx_app xxi_wsL_law_r26 (xx_app xxi_wsL_law_r27 (xx_app xxi_wsL_law_r28 (xx_app xxi_wsL_law_r29 (xx_app xxi_wsL_law_r30 (xx_app xxi_wsL_law_r31 (xx_app xxi_wsL_law_r32 (xx_app xxi_wsL_law_r33 (xx_app xxi_wsL_law_r34 (xx_app xxi_wsL_law_r35 (xx_app xxi_wsL_law_r36 (xx_app xxi_wsL_law_r37 (xx_app xxi_wsL_law_r38 (xx_app xxi_wsL_law_r39 (xx_app xxi_wsL_law_r40 (xx_app xxi_wsL_law_r41 (xx_app xxi_wsL_law_r42 xxi_wsL_law_r43)))))))))))))))))))))))))))))))))))))))))) inX7) inX1) inX3) inJ4) inX2) inX4) inX5) inX6) inX0) inJ0) (fun w h => absurd h List.not_mem_nil)
theorem inlX7 : ∀ w ∈ wsX70, w ∈ wsL_law := fun _ h => List.mem_append_left _ (List.mem_append_left _ (List.mem_append_left _ (List.mem_append_left _ (List.mem_append_left _ (List.mem_append_left _ (List.mem_append_left _ (List.mem_append_left _ (List.mem_append_left _ (List.mem_append_left _ (List.mem_append_right _ h))))))))))
theorem inlX1 : ∀ w ∈ wsX10, w ∈ wsL_law := fun _ h => List.mem_append_left _ (List.mem_append_left _ (List.mem_append_left _ (List.mem_append_left _ (List.mem_append_left _ (List.mem_append_left _ (List.mem_append_left _ (List.mem_append_left _ (List.mem_append_left _ (List.mem_append_right _ h)))))))))
theorem inlX3 : ∀ w ∈ wsX30, w ∈ wsL_law := fun _ h => List.mem_append_left _ (List.mem_append_left _ (List.mem_append_left _ (List.mem_append_left _ (List.mem_append_left _ (List.mem_append_left _ (List.mem_append_left _ (List.mem_append_left _ (List.mem_append_right _ h))))))))
theorem inlJ4 : ∀ w ∈ wsJ40, w ∈ wsL_law := fun _ h => List.mem_append_left _ (List.mem_append_left _ (List.mem_append_left _ (List.mem_append_left _ (List.mem_append_left _ (List.mem_append_left _ (List.mem_append_left _ (List.mem_append_right _ h)))))))
theorem inlX2 : ∀ w ∈ wsX20, w ∈ wsL_law := fun _ h => List.mem_append_left _ (List.mem_append_left _ (List.mem_append_left _ (List.mem_append_left _ (List.mem_append_left _ (List.mem_append_left _ (List.mem_append_right _ h))))))
theorem inlX4 : ∀ w ∈ wsX40, w ∈ wsL_law := fun _ h => List.mem_append_left _ (List.mem_append_left _ (List.mem_append_left _ (List.mem_append_left _ (List.mem_append_left _ (List.mem_append_right _ h)))))
theorem inlX5 : ∀ w ∈ wsX50, w ∈ wsL_law := fun _ h => List.mem_append_left _ (List.mem_append_left _ (List.mem_append_left _ (List.mem_append_left _ (List.mem_append_right _ h))))
theorem inlX6 : ∀ w ∈ wsX60, w ∈ wsL_law := fun _ h => List.mem_append_left _ (List.mem_append_left _ (List.mem_append_left _ (List.mem_append_right _ h)))
theorem inlX0 : ∀ w ∈ wsX00, w ∈ wsL_law := fun _ h => List.mem_append_left _ (List.mem_append_left _ (List.mem_append_right _ h))
theorem inlJ0 : ∀ w ∈ wsJ00, w ∈ wsL_law := fun _ h => List.mem_append_left _ (List.mem_append_right _ h)
/-! the law's words by their lists -/
theorem xt_1 : ∀ w ∈ (wsL_law_r1 ++ (wsL_law_r2 ++ (wsL_law_r3 ++ (wsL_law_r4 ++ (wsL_law_r5 ++ (wsL_law_r6 ++ (wsL_law_r7 ++ (wsL_law_r8 ++ (wsL_law_r9 ++ (wsL_law_r10 ++ (wsL_law_r11 ++ (wsL_law_r12 ++ (wsL_law_r13 ++ (wsL_law_r14 ++ (wsL_law_r15 ++ (wsL_law_r16 ++ (wsL_law_r17 ++ (wsL_law_r18 ++ (wsL_law_r19 ++ (wsL_law_r20 ++ (wsL_law_r21 ++ (wsL_law_r22 ++ (wsL_law_r23 ++ (wsL_law_r24 ++ (wsL_law_r25 ++ (wsL_law_r26 ++ (wsL_law_r27 ++ (wsL_law_r28 ++ (wsL_law_r29 ++ (wsL_law_r30 ++ (wsL_law_r31 ++ (wsL_law_r32 ++ (wsL_law_r33 ++ (wsL_law_r34 ++ (wsL_law_r35 ++ (wsL_law_r36 ++ (wsL_law_r37 ++ (wsL_law_r38 ++ (wsL_law_r39 ++ (wsL_law_r40 ++ (wsL_law_r41 ++ (wsL_law_r42 ++ wsL_law_r43)))))))))))))))))))))))))))))))))))))))))), w ∈ wsL_law := fun _ h => List.mem_append_left _ (List.mem_append_left _ (List.mem_append_left _ (List.mem_append_left _ (List.mem_append_left _ (List.mem_append_left _ (List.mem_append_left _ (List.mem_append_left _ (List.mem_append_left _ (List.mem_append_left _ (List.mem_append_left _ h))))))))))
theorem xt_2 : ∀ w ∈ (wsL_law_r2 ++ (wsL_law_r3 ++ (wsL_law_r4 ++ (wsL_law_r5 ++ (wsL_law_r6 ++ (wsL_law_r7 ++ (wsL_law_r8 ++ (wsL_law_r9 ++ (wsL_law_r10 ++ (wsL_law_r11 ++ (wsL_law_r12 ++ (wsL_law_r13 ++ (wsL_law_r14 ++ (wsL_law_r15 ++ (wsL_law_r16 ++ (wsL_law_r17 ++ (wsL_law_r18 ++ (wsL_law_r19 ++ (wsL_law_r20 ++ (wsL_law_r21 ++ (wsL_law_r22 ++ (wsL_law_r23 ++ (wsL_law_r24 ++ (wsL_law_r25 ++ (wsL_law_r26 ++ (wsL_law_r27 ++ (wsL_law_r28 ++ (wsL_law_r29 ++ (wsL_law_r30 ++ (wsL_law_r31 ++ (wsL_law_r32 ++ (wsL_law_r33 ++ (wsL_law_r34 ++ (wsL_law_r35 ++ (wsL_law_r36 ++ (wsL_law_r37 ++ (wsL_law_r38 ++ (wsL_law_r39 ++ (wsL_law_r40 ++ (wsL_law_r41 ++ (wsL_law_r42 ++ wsL_law_r43))))))))))))))))))))))))))))))))))))))))), w ∈ wsL_law := fun w h => xt_1 w (List.mem_append_right _ h)
theorem xt_3 : ∀ w ∈ (wsL_law_r3 ++ (wsL_law_r4 ++ (wsL_law_r5 ++ (wsL_law_r6 ++ (wsL_law_r7 ++ (wsL_law_r8 ++ (wsL_law_r9 ++ (wsL_law_r10 ++ (wsL_law_r11 ++ (wsL_law_r12 ++ (wsL_law_r13 ++ (wsL_law_r14 ++ (wsL_law_r15 ++ (wsL_law_r16 ++ (wsL_law_r17 ++ (wsL_law_r18 ++ (wsL_law_r19 ++ (wsL_law_r20 ++ (wsL_law_r21 ++ (wsL_law_r22 ++ (wsL_law_r23 ++ (wsL_law_r24 ++ (wsL_law_r25 ++ (wsL_law_r26 ++ (wsL_law_r27 ++ (wsL_law_r28 ++ (wsL_law_r29 ++ (wsL_law_r30 ++ (wsL_law_r31 ++ (wsL_law_r32 ++ (wsL_law_r33 ++ (wsL_law_r34 ++ (wsL_law_r35 ++ (wsL_law_r36 ++ (wsL_law_r37 ++ (wsL_law_r38 ++ (wsL_law_r39 ++ (wsL_law_r40 ++ (wsL_law_r41 ++ (wsL_law_r42 ++ wsL_law_r43)))))))))))))))))))))))))))))))))))))))), w ∈ wsL_law := fun w h => xt_2 w (List.mem_append_right _ h)
theorem xt_4 : ∀ w ∈ (wsL_law_r4 ++ (wsL_law_r5 ++ (wsL_law_r6 ++ (wsL_law_r7 ++ (wsL_law_r8 ++ (wsL_law_r9 ++ (wsL_law_r10 ++ (wsL_law_r11 ++ (wsL_law_r12 ++ (wsL_law_r13 ++ (wsL_law_r14 ++ (wsL_law_r15 ++ (wsL_law_r16 ++ (wsL_law_r17 ++ (wsL_law_r18 ++ (wsL_law_r19 ++ (wsL_law_r20 ++ (wsL_law_r21 ++ (wsL_law_r22 ++ (wsL_law_r23 ++ (wsL_law_r24 ++ (wsL_law_r25 ++ (wsL_law_r26 ++ (wsL_law_r27 ++ (wsL_law_r28 ++ (wsL_law_r29 ++ (wsL_law_r30 ++ (wsL_law_r31 ++ (wsL_law_r32 ++ (wsL_law_r33 ++ (wsL_law_r34 ++ (wsL_law_r35 ++ (wsL_law_r36 ++ (wsL_law_r37 ++ (wsL_law_r38 ++ (wsL_law_r39 ++ (wsL_law_r40 ++ (wsL_law_r41 ++ (wsL_law_r42 ++ wsL_law_r43))))))))))))))))))))))))))))))))))))))), w ∈ wsL_law := fun w h => xt_3 w (List.mem_append_right _ h)
theorem xt_5 : ∀ w ∈ (wsL_law_r5 ++ (wsL_law_r6 ++ (wsL_law_r7 ++ (wsL_law_r8 ++ (wsL_law_r9 ++ (wsL_law_r10 ++ (wsL_law_r11 ++ (wsL_law_r12 ++ (wsL_law_r13 ++ (wsL_law_r14 ++ (wsL_law_r15 ++ (wsL_law_r16 ++ (wsL_law_r17 ++ (wsL_law_r18 ++ (wsL_law_r19 ++ (wsL_law_r20 ++ (wsL_law_r21 ++ (wsL_law_r22 ++ (wsL_law_r23 ++ (wsL_law_r24 ++ (wsL_law_r25 ++ (wsL_law_r26 ++ (wsL_law_r27 ++ (wsL_law_r28 ++ (wsL_law_r29 ++ (wsL_law_r30 ++ (wsL_law_r31 ++ (wsL_law_r32 ++ (wsL_law_r33 ++ (wsL_law_r34 ++ (wsL_law_r35 ++ (wsL_law_r36 ++ (wsL_law_r37 ++ (wsL_law_r38 ++ (wsL_law_r39 ++ (wsL_law_r40 ++ (wsL_law_r41 ++ (wsL_law_r42 ++ wsL_law_r43)))))))))))))))))))))))))))))))))))))), w ∈ wsL_law := fun w h => xt_4 w (List.mem_append_right _ h)
theorem xt_6 : ∀ w ∈ (wsL_law_r6 ++ (wsL_law_r7 ++ (wsL_law_r8 ++ (wsL_law_r9 ++ (wsL_law_r10 ++ (wsL_law_r11 ++ (wsL_law_r12 ++ (wsL_law_r13 ++ (wsL_law_r14 ++ (wsL_law_r15 ++ (wsL_law_r16 ++ (wsL_law_r17 ++ (wsL_law_r18 ++ (wsL_law_r19 ++ (wsL_law_r20 ++ (wsL_law_r21 ++ (wsL_law_r22 ++ (wsL_law_r23 ++ (wsL_law_r24 ++ (wsL_law_r25 ++ (wsL_law_r26 ++ (wsL_law_r27 ++ (wsL_law_r28 ++ (wsL_law_r29 ++ (wsL_law_r30 ++ (wsL_law_r31 ++ (wsL_law_r32 ++ (wsL_law_r33 ++ (wsL_law_r34 ++ (wsL_law_r35 ++ (wsL_law_r36 ++ (wsL_law_r37 ++ (wsL_law_r38 ++ (wsL_law_r39 ++ (wsL_law_r40 ++ (wsL_law_r41 ++ (wsL_law_r42 ++ wsL_law_r43))))))))))))))))))))))))))))))))))))), w ∈ wsL_law := fun w h => xt_5 w (List.mem_append_right _ h)
theorem xt_7 : ∀ w ∈ (wsL_law_r7 ++ (wsL_law_r8 ++ (wsL_law_r9 ++ (wsL_law_r10 ++ (wsL_law_r11 ++ (wsL_law_r12 ++ (wsL_law_r13 ++ (wsL_law_r14 ++ (wsL_law_r15 ++ (wsL_law_r16 ++ (wsL_law_r17 ++ (wsL_law_r18 ++ (wsL_law_r19 ++ (wsL_law_r20 ++ (wsL_law_r21 ++ (wsL_law_r22 ++ (wsL_law_r23 ++ (wsL_law_r24 ++ (wsL_law_r25 ++ (wsL_law_r26 ++ (wsL_law_r27 ++ (wsL_law_r28 ++ (wsL_law_r29 ++ (wsL_law_r30 ++ (wsL_law_r31 ++ (wsL_law_r32 ++ (wsL_law_r33 ++ (wsL_law_r34 ++ (wsL_law_r35 ++ (wsL_law_r36 ++ (wsL_law_r37 ++ (wsL_law_r38 ++ (wsL_law_r39 ++ (wsL_law_r40 ++ (wsL_law_r41 ++ (wsL_law_r42 ++ wsL_law_r43)))))))))))))))))))))))))))))))))))), w ∈ wsL_law := fun w h => xt_6 w (List.mem_append_right _ h)
theorem xt_8 : ∀ w ∈ (wsL_law_r8 ++ (wsL_law_r9 ++ (wsL_law_r10 ++ (wsL_law_r11 ++ (wsL_law_r12 ++ (wsL_law_r13 ++ (wsL_law_r14 ++ (wsL_law_r15 ++ (wsL_law_r16 ++ (wsL_law_r17 ++ (wsL_law_r18 ++ (wsL_law_r19 ++ (wsL_law_r20 ++ (wsL_law_r21 ++ (wsL_law_r22 ++ (wsL_law_r23 ++ (wsL_law_r24 ++ (wsL_law_r25 ++ (wsL_law_r26 ++ (wsL_law_r27 ++ (wsL_law_r28 ++ (wsL_law_r29 ++ (wsL_law_r30 ++ (wsL_law_r31 ++ (wsL_law_r32 ++ (wsL_law_r33 ++ (wsL_law_r34 ++ (wsL_law_r35 ++ (wsL_law_r36 ++ (wsL_law_r37 ++ (wsL_law_r38 ++ (wsL_law_r39 ++ (wsL_law_r40 ++ (wsL_law_r41 ++ (wsL_law_r42 ++ wsL_law_r43))))))))))))))))))))))))))))))))))), w ∈ wsL_law := fun w h => xt_7 w (List.mem_append_right _ h)
theorem xt_9 : ∀ w ∈ (wsL_law_r9 ++ (wsL_law_r10 ++ (wsL_law_r11 ++ (wsL_law_r12 ++ (wsL_law_r13 ++ (wsL_law_r14 ++ (wsL_law_r15 ++ (wsL_law_r16 ++ (wsL_law_r17 ++ (wsL_law_r18 ++ (wsL_law_r19 ++ (wsL_law_r20 ++ (wsL_law_r21 ++ (wsL_law_r22 ++ (wsL_law_r23 ++ (wsL_law_r24 ++ (wsL_law_r25 ++ (wsL_law_r26 ++ (wsL_law_r27 ++ (wsL_law_r28 ++ (wsL_law_r29 ++ (wsL_law_r30 ++ (wsL_law_r31 ++ (wsL_law_r32 ++ (wsL_law_r33 ++ (wsL_law_r34 ++ (wsL_law_r35 ++ (wsL_law_r36 ++ (wsL_law_r37 ++ (wsL_law_r38 ++ (wsL_law_r39 ++ (wsL_law_r40 ++ (wsL_law_r41 ++ (wsL_law_r42 ++ wsL_law_r43)))))))))))))))))))))))))))))))))), w ∈ wsL_law := fun w h => xt_8 w (List.mem_append_right _ h)
theorem xt_10 : ∀ w ∈ (wsL_law_r10 ++ (wsL_law_r11 ++ (wsL_law_r12 ++ (wsL_law_r13 ++ (wsL_law_r14 ++ (wsL_law_r15 ++ (wsL_law_r16 ++ (wsL_law_r17 ++ (wsL_law_r18 ++ (wsL_law_r19 ++ (wsL_law_r20 ++ (wsL_law_r21 ++ (wsL_law_r22 ++ (wsL_law_r23 ++ (wsL_law_r24 ++ (wsL_law_r25 ++ (wsL_law_r26 ++ (wsL_law_r27 ++ (wsL_law_r28 ++ (wsL_law_r29 ++ (wsL_law_r30 ++ (wsL_law_r31 ++ (wsL_law_r32 ++ (wsL_law_r33 ++ (wsL_law_r34 ++ (wsL_law_r35 ++ (wsL_law_r36 ++ (wsL_law_r37 ++ (wsL_law_r38 ++ (wsL_law_r39 ++ (wsL_law_r40 ++ (wsL_law_r41 ++ (wsL_law_r42 ++ wsL_law_r43))))))))))))))))))))))))))))))))), w ∈ wsL_law := fun w h => xt_9 w (List.mem_append_right _ h)
theorem xt_11 : ∀ w ∈ (wsL_law_r11 ++ (wsL_law_r12 ++ (wsL_law_r13 ++ (wsL_law_r14 ++ (wsL_law_r15 ++ (wsL_law_r16 ++ (wsL_law_r17 ++ (wsL_law_r18 ++ (wsL_law_r19 ++ (wsL_law_r20 ++ (wsL_law_r21 ++ (wsL_law_r22 ++ (wsL_law_r23 ++ (wsL_law_r24 ++ (wsL_law_r25 ++ (wsL_law_r26 ++ (wsL_law_r27 ++ (wsL_law_r28 ++ (wsL_law_r29 ++ (wsL_law_r30 ++ (wsL_law_r31 ++ (wsL_law_r32 ++ (wsL_law_r33 ++ (wsL_law_r34 ++ (wsL_law_r35 ++ (wsL_law_r36 ++ (wsL_law_r37 ++ (wsL_law_r38 ++ (wsL_law_r39 ++ (wsL_law_r40 ++ (wsL_law_r41 ++ (wsL_law_r42 ++ wsL_law_r43)))))))))))))))))))))))))))))))), w ∈ wsL_law := fun w h => xt_10 w (List.mem_append_right _ h)
theorem xt_12 : ∀ w ∈ (wsL_law_r12 ++ (wsL_law_r13 ++ (wsL_law_r14 ++ (wsL_law_r15 ++ (wsL_law_r16 ++ (wsL_law_r17 ++ (wsL_law_r18 ++ (wsL_law_r19 ++ (wsL_law_r20 ++ (wsL_law_r21 ++ (wsL_law_r22 ++ (wsL_law_r23 ++ (wsL_law_r24 ++ (wsL_law_r25 ++ (wsL_law_r26 ++ (wsL_law_r27 ++ (wsL_law_r28 ++ (wsL_law_r29 ++ (wsL_law_r30 ++ (wsL_law_r31 ++ (wsL_law_r32 ++ (wsL_law_r33 ++ (wsL_law_r34 ++ (wsL_law_r35 ++ (wsL_law_r36 ++ (wsL_law_r37 ++ (wsL_law_r38 ++ (wsL_law_r39 ++ (wsL_law_r40 ++ (wsL_law_r41 ++ (wsL_law_r42 ++ wsL_law_r43))))))))))))))))))))))))))))))), w ∈ wsL_law := fun w h => xt_11 w (List.mem_append_right _ h)
theorem xt_13 : ∀ w ∈ (wsL_law_r13 ++ (wsL_law_r14 ++ (wsL_law_r15 ++ (wsL_law_r16 ++ (wsL_law_r17 ++ (wsL_law_r18 ++ (wsL_law_r19 ++ (wsL_law_r20 ++ (wsL_law_r21 ++ (wsL_law_r22 ++ (wsL_law_r23 ++ (wsL_law_r24 ++ (wsL_law_r25 ++ (wsL_law_r26 ++ (wsL_law_r27 ++ (wsL_law_r28 ++ (wsL_law_r29 ++ (wsL_law_r30 ++ (wsL_law_r31 ++ (wsL_law_r32 ++ (wsL_law_r33 ++ (wsL_law_r34 ++ (wsL_law_r35 ++ (wsL_law_r36 ++ (wsL_law_r37 ++ (wsL_law_r38 ++ (wsL_law_r39 ++ (wsL_law_r40 ++ (wsL_law_r41 ++ (wsL_law_r42 ++ wsL_law_r43)))))))))))))))))))))))))))))), w ∈ wsL_law := fun w h => xt_12 w (List.mem_append_right _ h)
theorem xt_14 : ∀ w ∈ (wsL_law_r14 ++ (wsL_law_r15 ++ (wsL_law_r16 ++ (wsL_law_r17 ++ (wsL_law_r18 ++ (wsL_law_r19 ++ (wsL_law_r20 ++ (wsL_law_r21 ++ (wsL_law_r22 ++ (wsL_law_r23 ++ (wsL_law_r24 ++ (wsL_law_r25 ++ (wsL_law_r26 ++ (wsL_law_r27 ++ (wsL_law_r28 ++ (wsL_law_r29 ++ (wsL_law_r30 ++ (wsL_law_r31 ++ (wsL_law_r32 ++ (wsL_law_r33 ++ (wsL_law_r34 ++ (wsL_law_r35 ++ (wsL_law_r36 ++ (wsL_law_r37 ++ (wsL_law_r38 ++ (wsL_law_r39 ++ (wsL_law_r40 ++ (wsL_law_r41 ++ (wsL_law_r42 ++ wsL_law_r43))))))))))))))))))))))))))))), w ∈ wsL_law := fun w h => xt_13 w (List.mem_append_right _ h)
theorem xt_15 : ∀ w ∈ (wsL_law_r15 ++ (wsL_law_r16 ++ (wsL_law_r17 ++ (wsL_law_r18 ++ (wsL_law_r19 ++ (wsL_law_r20 ++ (wsL_law_r21 ++ (wsL_law_r22 ++ (wsL_law_r23 ++ (wsL_law_r24 ++ (wsL_law_r25 ++ (wsL_law_r26 ++ (wsL_law_r27 ++ (wsL_law_r28 ++ (wsL_law_r29 ++ (wsL_law_r30 ++ (wsL_law_r31 ++ (wsL_law_r32 ++ (wsL_law_r33 ++ (wsL_law_r34 ++ (wsL_law_r35 ++ (wsL_law_r36 ++ (wsL_law_r37 ++ (wsL_law_r38 ++ (wsL_law_r39 ++ (wsL_law_r40 ++ (wsL_law_r41 ++ (wsL_law_r42 ++ wsL_law_r43)))))))))))))))))))))))))))), w ∈ wsL_law := fun w h => xt_14 w (List.mem_append_right _ h)
theorem xt_16 : ∀ w ∈ (wsL_law_r16 ++ (wsL_law_r17 ++ (wsL_law_r18 ++ (wsL_law_r19 ++ (wsL_law_r20 ++ (wsL_law_r21 ++ (wsL_law_r22 ++ (wsL_law_r23 ++ (wsL_law_r24 ++ (wsL_law_r25 ++ (wsL_law_r26 ++ (wsL_law_r27 ++ (wsL_law_r28 ++ (wsL_law_r29 ++ (wsL_law_r30 ++ (wsL_law_r31 ++ (wsL_law_r32 ++ (wsL_law_r33 ++ (wsL_law_r34 ++ (wsL_law_r35 ++ (wsL_law_r36 ++ (wsL_law_r37 ++ (wsL_law_r38 ++ (wsL_law_r39 ++ (wsL_law_r40 ++ (wsL_law_r41 ++ (wsL_law_r42 ++ wsL_law_r43))))))))))))))))))))))))))), w ∈ wsL_law := fun w h => xt_15 w (List.mem_append_right _ h)
theorem xt_17 : ∀ w ∈ (wsL_law_r17 ++ (wsL_law_r18 ++ (wsL_law_r19 ++ (wsL_law_r20 ++ (wsL_law_r21 ++ (wsL_law_r22 ++ (wsL_law_r23 ++ (wsL_law_r24 ++ (wsL_law_r25 ++ (wsL_law_r26 ++ (wsL_law_r27 ++ (wsL_law_r28 ++ (wsL_law_r29 ++ (wsL_law_r30 ++ (wsL_law_r31 ++ (wsL_law_r32 ++ (wsL_law_r33 ++ (wsL_law_r34 ++ (wsL_law_r35 ++ (wsL_law_r36 ++ (wsL_law_r37 ++ (wsL_law_r38 ++ (wsL_law_r39 ++ (wsL_law_r40 ++ (wsL_law_r41 ++ (wsL_law_r42 ++ wsL_law_r43)))))))))))))))))))))))))), w ∈ wsL_law := fun w h => xt_16 w (List.mem_append_right _ h)
theorem xt_18 : ∀ w ∈ (wsL_law_r18 ++ (wsL_law_r19 ++ (wsL_law_r20 ++ (wsL_law_r21 ++ (wsL_law_r22 ++ (wsL_law_r23 ++ (wsL_law_r24 ++ (wsL_law_r25 ++ (wsL_law_r26 ++ (wsL_law_r27 ++ (wsL_law_r28 ++ (wsL_law_r29 ++ (wsL_law_r30 ++ (wsL_law_r31 ++ (wsL_law_r32 ++ (wsL_law_r33 ++ (wsL_law_r34 ++ (wsL_law_r35 ++ (wsL_law_r36 ++ (wsL_law_r37 ++ (wsL_law_r38 ++ (wsL_law_r39 ++ (wsL_law_r40 ++ (wsL_law_r41 ++ (wsL_law_r42 ++ wsL_law_r43))))))))))))))))))))))))), w ∈ wsL_law := fun w h => xt_17 w (List.mem_append_right _ h)
theorem xt_19 : ∀ w ∈ (wsL_law_r19 ++ (wsL_law_r20 ++ (wsL_law_r21 ++ (wsL_law_r22 ++ (wsL_law_r23 ++ (wsL_law_r24 ++ (wsL_law_r25 ++ (wsL_law_r26 ++ (wsL_law_r27 ++ (wsL_law_r28 ++ (wsL_law_r29 ++ (wsL_law_r30 ++ (wsL_law_r31 ++ (wsL_law_r32 ++ (wsL_law_r33 ++ (wsL_law_r34 ++ (wsL_law_r35 ++ (wsL_law_r36 ++ (wsL_law_r37 ++ (wsL_law_r38 ++ (wsL_law_r39 ++ (wsL_law_r40 ++ (wsL_law_r41 ++ (wsL_law_r42 ++ wsL_law_r43)))))))))))))))))))))))), w ∈ wsL_law := fun w h => xt_18 w (List.mem_append_right _ h)
theorem xt_20 : ∀ w ∈ (wsL_law_r20 ++ (wsL_law_r21 ++ (wsL_law_r22 ++ (wsL_law_r23 ++ (wsL_law_r24 ++ (wsL_law_r25 ++ (wsL_law_r26 ++ (wsL_law_r27 ++ (wsL_law_r28 ++ (wsL_law_r29 ++ (wsL_law_r30 ++ (wsL_law_r31 ++ (wsL_law_r32 ++ (wsL_law_r33 ++ (wsL_law_r34 ++ (wsL_law_r35 ++ (wsL_law_r36 ++ (wsL_law_r37 ++ (wsL_law_r38 ++ (wsL_law_r39 ++ (wsL_law_r40 ++ (wsL_law_r41 ++ (wsL_law_r42 ++ wsL_law_r43))))))))))))))))))))))), w ∈ wsL_law := fun w h => xt_19 w (List.mem_append_right _ h)
theorem xt_21 : ∀ w ∈ (wsL_law_r21 ++ (wsL_law_r22 ++ (wsL_law_r23 ++ (wsL_law_r24 ++ (wsL_law_r25 ++ (wsL_law_r26 ++ (wsL_law_r27 ++ (wsL_law_r28 ++ (wsL_law_r29 ++ (wsL_law_r30 ++ (wsL_law_r31 ++ (wsL_law_r32 ++ (wsL_law_r33 ++ (wsL_law_r34 ++ (wsL_law_r35 ++ (wsL_law_r36 ++ (wsL_law_r37 ++ (wsL_law_r38 ++ (wsL_law_r39 ++ (wsL_law_r40 ++ (wsL_law_r41 ++ (wsL_law_r42 ++ wsL_law_r43)))))))))))))))))))))), w ∈ wsL_law := fun w h => xt_20 w (List.mem_append_right _ h)
theorem xt_22 : ∀ w ∈ (wsL_law_r22 ++ (wsL_law_r23 ++ (wsL_law_r24 ++ (wsL_law_r25 ++ (wsL_law_r26 ++ (wsL_law_r27 ++ (wsL_law_r28 ++ (wsL_law_r29 ++ (wsL_law_r30 ++ (wsL_law_r31 ++ (wsL_law_r32 ++ (wsL_law_r33 ++ (wsL_law_r34 ++ (wsL_law_r35 ++ (wsL_law_r36 ++ (wsL_law_r37 ++ (wsL_law_r38 ++ (wsL_law_r39 ++ (wsL_law_r40 ++ (wsL_law_r41 ++ (wsL_law_r42 ++ wsL_law_r43))))))))))))))))))))), w ∈ wsL_law := fun w h => xt_21 w (List.mem_append_right _ h)
theorem xt_23 : ∀ w ∈ (wsL_law_r23 ++ (wsL_law_r24 ++ (wsL_law_r25 ++ (wsL_law_r26 ++ (wsL_law_r27 ++ (wsL_law_r28 ++ (wsL_law_r29 ++ (wsL_law_r30 ++ (wsL_law_r31 ++ (wsL_law_r32 ++ (wsL_law_r33 ++ (wsL_law_r34 ++ (wsL_law_r35 ++ (wsL_law_r36 ++ (wsL_law_r37 ++ (wsL_law_r38 ++ (wsL_law_r39 ++ (wsL_law_r40 ++ (wsL_law_r41 ++ (wsL_law_r42 ++ wsL_law_r43)))))))))))))))))))), w ∈ wsL_law := fun w h => xt_22 w (List.mem_append_right _ h)
theorem xt_24 : ∀ w ∈ (wsL_law_r24 ++ (wsL_law_r25 ++ (wsL_law_r26 ++ (wsL_law_r27 ++ (wsL_law_r28 ++ (wsL_law_r29 ++ (wsL_law_r30 ++ (wsL_law_r31 ++ (wsL_law_r32 ++ (wsL_law_r33 ++ (wsL_law_r34 ++ (wsL_law_r35 ++ (wsL_law_r36 ++ (wsL_law_r37 ++ (wsL_law_r38 ++ (wsL_law_r39 ++ (wsL_law_r40 ++ (wsL_law_r41 ++ (wsL_law_r42 ++ wsL_law_r43))))))))))))))))))), w ∈ wsL_law := fun w h => xt_23 w (List.mem_append_right _ h)
theorem xt_25 : ∀ w ∈ (wsL_law_r25 ++ (wsL_law_r26 ++ (wsL_law_r27 ++ (wsL_law_r28 ++ (wsL_law_r29 ++ (wsL_law_r30 ++ (wsL_law_r31 ++ (wsL_law_r32 ++ (wsL_law_r33 ++ (wsL_law_r34 ++ (wsL_law_r35 ++ (wsL_law_r36 ++ (wsL_law_r37 ++ (wsL_law_r38 ++ (wsL_law_r39 ++ (wsL_law_r40 ++ (wsL_law_r41 ++ (wsL_law_r42 ++ wsL_law_r43)))))))))))))))))), w ∈ wsL_law := fun w h => xt_24 w (List.mem_append_right _ h)
theorem xt_26 : ∀ w ∈ (wsL_law_r26 ++ (wsL_law_r27 ++ (wsL_law_r28 ++ (wsL_law_r29 ++ (wsL_law_r30 ++ (wsL_law_r31 ++ (wsL_law_r32 ++ (wsL_law_r33 ++ (wsL_law_r34 ++ (wsL_law_r35 ++ (wsL_law_r36 ++ (wsL_law_r37 ++ (wsL_law_r38 ++ (wsL_law_r39 ++ (wsL_law_r40 ++ (wsL_law_r41 ++ (wsL_law_r42 ++ wsL_law_r43))))))))))))))))), w ∈ wsL_law := fun w h => xt_25 w (List.mem_append_right _ h)
theorem xt_27 : ∀ w ∈ (wsL_law_r27 ++ (wsL_law_r28 ++ (wsL_law_r29 ++ (wsL_law_r30 ++ (wsL_law_r31 ++ (wsL_law_r32 ++ (wsL_law_r33 ++ (wsL_law_r34 ++ (wsL_law_r35 ++ (wsL_law_r36 ++ (wsL_law_r37 ++ (wsL_law_r38 ++ (wsL_law_r39 ++ (wsL_law_r40 ++ (wsL_law_r41 ++ (wsL_law_r42 ++ wsL_law_r43)))))))))))))))), w ∈ wsL_law := fun w h => xt_26 w (List.mem_append_right _ h)
theorem xt_28 : ∀ w ∈ (wsL_law_r28 ++ (wsL_law_r29 ++ (wsL_law_r30 ++ (wsL_law_r31 ++ (wsL_law_r32 ++ (wsL_law_r33 ++ (wsL_law_r34 ++ (wsL_law_r35 ++ (wsL_law_r36 ++ (wsL_law_r37 ++ (wsL_law_r38 ++ (wsL_law_r39 ++ (wsL_law_r40 ++ (wsL_law_r41 ++ (wsL_law_r42 ++ wsL_law_r43))))))))))))))), w ∈ wsL_law := fun w h => xt_27 w (List.mem_append_right _ h)
theorem xt_29 : ∀ w ∈ (wsL_law_r29 ++ (wsL_law_r30 ++ (wsL_law_r31 ++ (wsL_law_r32 ++ (wsL_law_r33 ++ (wsL_law_r34 ++ (wsL_law_r35 ++ (wsL_law_r36 ++ (wsL_law_r37 ++ (wsL_law_r38 ++ (wsL_law_r39 ++ (wsL_law_r40 ++ (wsL_law_r41 ++ (wsL_law_r42 ++ wsL_law_r43)))))))))))))), w ∈ wsL_law := fun w h => xt_28 w (List.mem_append_right _ h)
theorem xt_30 : ∀ w ∈ (wsL_law_r30 ++ (wsL_law_r31 ++ (wsL_law_r32 ++ (wsL_law_r33 ++ (wsL_law_r34 ++ (wsL_law_r35 ++ (wsL_law_r36 ++ (wsL_law_r37 ++ (wsL_law_r38 ++ (wsL_law_r39 ++ (wsL_law_r40 ++ (wsL_law_r41 ++ (wsL_law_r42 ++ wsL_law_r43))))))))))))), w ∈ wsL_law := fun w h => xt_29 w (List.mem_append_right _ h)
theorem xt_31 : ∀ w ∈ (wsL_law_r31 ++ (wsL_law_r32 ++ (wsL_law_r33 ++ (wsL_law_r34 ++ (wsL_law_r35 ++ (wsL_law_r36 ++ (wsL_law_r37 ++ (wsL_law_r38 ++ (wsL_law_r39 ++ (wsL_law_r40 ++ (wsL_law_r41 ++ (wsL_law_r42 ++ wsL_law_r43)))))))))))), w ∈ wsL_law := fun w h => xt_30 w (List.mem_append_right _ h)
theorem xt_32 : ∀ w ∈ (wsL_law_r32 ++ (wsL_law_r33 ++ (wsL_law_r34 ++ (wsL_law_r35 ++ (wsL_law_r36 ++ (wsL_law_r37 ++ (wsL_law_r38 ++ (wsL_law_r39 ++ (wsL_law_r40 ++ (wsL_law_r41 ++ (wsL_law_r42 ++ wsL_law_r43))))))))))), w ∈ wsL_law := fun w h => xt_31 w (List.mem_append_right _ h)
theorem xt_33 : ∀ w ∈ (wsL_law_r33 ++ (wsL_law_r34 ++ (wsL_law_r35 ++ (wsL_law_r36 ++ (wsL_law_r37 ++ (wsL_law_r38 ++ (wsL_law_r39 ++ (wsL_law_r40 ++ (wsL_law_r41 ++ (wsL_law_r42 ++ wsL_law_r43)))))))))), w ∈ wsL_law := fun w h => xt_32 w (List.mem_append_right _ h)
theorem xt_34 : ∀ w ∈ (wsL_law_r34 ++ (wsL_law_r35 ++ (wsL_law_r36 ++ (wsL_law_r37 ++ (wsL_law_r38 ++ (wsL_law_r39 ++ (wsL_law_r40 ++ (wsL_law_r41 ++ (wsL_law_r42 ++ wsL_law_r43))))))))), w ∈ wsL_law := fun w h => xt_33 w (List.mem_append_right _ h)
theorem xt_35 : ∀ w ∈ (wsL_law_r35 ++ (wsL_law_r36 ++ (wsL_law_r37 ++ (wsL_law_r38 ++ (wsL_law_r39 ++ (wsL_law_r40 ++ (wsL_law_r41 ++ (wsL_law_r42 ++ wsL_law_r43)))))))), w ∈ wsL_law := fun w h => xt_34 w (List.mem_append_right _ h)
theorem xt_36 : ∀ w ∈ (wsL_law_r36 ++ (wsL_law_r37 ++ (wsL_law_r38 ++ (wsL_law_r39 ++ (wsL_law_r40 ++ (wsL_law_r41 ++ (wsL_law_r42 ++ wsL_law_r43))))))), w ∈ wsL_law := fun w h => xt_35 w (List.mem_append_right _ h)
theorem xt_37 : ∀ w ∈ (wsL_law_r37 ++ (wsL_law_r38 ++ (wsL_law_r39 ++ (wsL_law_r40 ++ (wsL_law_r41 ++ (wsL_law_r42 ++ wsL_law_r43)))))), w ∈ wsL_law := fun w h => xt_36 w (List.mem_append_right _ h)
theorem xt_38 : ∀ w ∈ (wsL_law_r38 ++ (wsL_law_r39 ++ (wsL_law_r40 ++ (wsL_law_r41 ++ (wsL_law_r42 ++ wsL_law_r43))))), w ∈ wsL_law := fun w h => xt_37 w (List.mem_append_right _ h)
theorem xt_39 : ∀ w ∈ (wsL_law_r39 ++ (wsL_law_r40 ++ (wsL_law_r41 ++ (wsL_law_r42 ++ wsL_law_r43)))), w ∈ wsL_law := fun w h => xt_38 w (List.mem_append_right _ h)
theorem xt_40 : ∀ w ∈ (wsL_law_r40 ++ (wsL_law_r41 ++ (wsL_law_r42 ++ wsL_law_r43))), w ∈ wsL_law := fun w h => xt_39 w (List.mem_append_right _ h)
theorem xt_41 : ∀ w ∈ (wsL_law_r41 ++ (wsL_law_r42 ++ wsL_law_r43)), w ∈ wsL_law := fun w h => xt_40 w (List.mem_append_right _ h)
theorem xt_42 : ∀ w ∈ (wsL_law_r42 ++ wsL_law_r43), w ∈ wsL_law := fun w h => xt_41 w (List.mem_append_right _ h)
theorem xt_43 : ∀ w ∈ wsL_law_r43, w ∈ wsL_law := fun w h => xt_42 w (List.mem_append_right _ h)
theorem xr_1 {w : Cond} (i : Nat) (h : wsL_law_r1[i]? = some w) : w ∈ wsL_law := xt_1 w (List.mem_append_left _ (List.mem_of_getElem? h))
theorem xr_2 {w : Cond} (i : Nat) (h : wsL_law_r2[i]? = some w) : w ∈ wsL_law := xt_2 w (List.mem_append_left _ (List.mem_of_getElem? h))
theorem xr_3 {w : Cond} (i : Nat) (h : wsL_law_r3[i]? = some w) : w ∈ wsL_law := xt_3 w (List.mem_append_left _ (List.mem_of_getElem? h))
theorem xr_4 {w : Cond} (i : Nat) (h : wsL_law_r4[i]? = some w) : w ∈ wsL_law := xt_4 w (List.mem_append_left _ (List.mem_of_getElem? h))
theorem xr_5 {w : Cond} (i : Nat) (h : wsL_law_r5[i]? = some w) : w ∈ wsL_law := xt_5 w (List.mem_append_left _ (List.mem_of_getElem? h))
theorem xr_6 {w : Cond} (i : Nat) (h : wsL_law_r6[i]? = some w) : w ∈ wsL_law := xt_6 w (List.mem_append_left _ (List.mem_of_getElem? h))
theorem xr_7 {w : Cond} (i : Nat) (h : wsL_law_r7[i]? = some w) : w ∈ wsL_law := xt_7 w (List.mem_append_left _ (List.mem_of_getElem? h))
theorem xr_8 {w : Cond} (i : Nat) (h : wsL_law_r8[i]? = some w) : w ∈ wsL_law := xt_8 w (List.mem_append_left _ (List.mem_of_getElem? h))
theorem xr_9 {w : Cond} (i : Nat) (h : wsL_law_r9[i]? = some w) : w ∈ wsL_law := xt_9 w (List.mem_append_left _ (List.mem_of_getElem? h))
theorem xr_10 {w : Cond} (i : Nat) (h : wsL_law_r10[i]? = some w) : w ∈ wsL_law := xt_10 w (List.mem_append_left _ (List.mem_of_getElem? h))
theorem xr_11 {w : Cond} (i : Nat) (h : wsL_law_r11[i]? = some w) : w ∈ wsL_law := xt_11 w (List.mem_append_left _ (List.mem_of_getElem? h))
theorem xr_12 {w : Cond} (i : Nat) (h : wsL_law_r12[i]? = some w) : w ∈ wsL_law := xt_12 w (List.mem_append_left _ (List.mem_of_getElem? h))
theorem xr_13 {w : Cond} (i : Nat) (h : wsL_law_r13[i]? = some w) : w ∈ wsL_law := xt_13 w (List.mem_append_left _ (List.mem_of_getElem? h))
theorem xr_14 {w : Cond} (i : Nat) (h : wsL_law_r14[i]? = some w) : w ∈ wsL_law := xt_14 w (List.mem_append_left _ (List.mem_of_getElem? h))
theorem xr_15 {w : Cond} (i : Nat) (h : wsL_law_r15[i]? = some w) : w ∈ wsL_law := xt_15 w (List.mem_append_left _ (List.mem_of_getElem? h))
theorem xr_16 {w : Cond} (i : Nat) (h : wsL_law_r16[i]? = some w) : w ∈ wsL_law := xt_16 w (List.mem_append_left _ (List.mem_of_getElem? h))
theorem xr_17 {w : Cond} (i : Nat) (h : wsL_law_r17[i]? = some w) : w ∈ wsL_law := xt_17 w (List.mem_append_left _ (List.mem_of_getElem? h))
theorem xr_18 {w : Cond} (i : Nat) (h : wsL_law_r18[i]? = some w) : w ∈ wsL_law := xt_18 w (List.mem_append_left _ (List.mem_of_getElem? h))
theorem xr_19 {w : Cond} (i : Nat) (h : wsL_law_r19[i]? = some w) : w ∈ wsL_law := xt_19 w (List.mem_append_left _ (List.mem_of_getElem? h))
theorem xr_20 {w : Cond} (i : Nat) (h : wsL_law_r20[i]? = some w) : w ∈ wsL_law := xt_20 w (List.mem_append_left _ (List.mem_of_getElem? h))
theorem xr_21 {w : Cond} (i : Nat) (h : wsL_law_r21[i]? = some w) : w ∈ wsL_law := xt_21 w (List.mem_append_left _ (List.mem_of_getElem? h))
theorem xr_22 {w : Cond} (i : Nat) (h : wsL_law_r22[i]? = some w) : w ∈ wsL_law := xt_22 w (List.mem_append_left _ (List.mem_of_getElem? h))
theorem xr_23 {w : Cond} (i : Nat) (h : wsL_law_r23[i]? = some w) : w ∈ wsL_law := xt_23 w (List.mem_append_left _ (List.mem_of_getElem? h))
theorem xr_24 {w : Cond} (i : Nat) (h : wsL_law_r24[i]? = some w) : w ∈ wsL_law := xt_24 w (List.mem_append_left _ (List.mem_of_getElem? h))
theorem xr_25 {w : Cond} (i : Nat) (h : wsL_law_r25[i]? = some w) : w ∈ wsL_law := xt_25 w (List.mem_append_left _ (List.mem_of_getElem? h))
theorem xr_26 {w : Cond} (i : Nat) (h : wsL_law_r26[i]? = some w) : w ∈ wsL_law := xt_26 w (List.mem_append_left _ (List.mem_of_getElem? h))
theorem xr_27 {w : Cond} (i : Nat) (h : wsL_law_r27[i]? = some w) : w ∈ wsL_law := xt_27 w (List.mem_append_left _ (List.mem_of_getElem? h))
theorem xr_28 {w : Cond} (i : Nat) (h : wsL_law_r28[i]? = some w) : w ∈ wsL_law := xt_28 w (List.mem_append_left _ (List.mem_of_getElem? h))
theorem xr_29 {w : Cond} (i : Nat) (h : wsL_law_r29[i]? = some w) : w ∈ wsL_law := xt_29 w (List.mem_append_left _ (List.mem_of_getElem? h))
theorem xr_30 {w : Cond} (i : Nat) (h : wsL_law_r30[i]? = some w) : w ∈ wsL_law := xt_30 w (List.mem_append_left _ (List.mem_of_getElem? h))
theorem xr_31 {w : Cond} (i : Nat) (h : wsL_law_r31[i]? = some w) : w ∈ wsL_law := xt_31 w (List.mem_append_left _ (List.mem_of_getElem? h))
theorem xr_32 {w : Cond} (i : Nat) (h : wsL_law_r32[i]? = some w) : w ∈ wsL_law := xt_32 w (List.mem_append_left _ (List.mem_of_getElem? h))
theorem xr_33 {w : Cond} (i : Nat) (h : wsL_law_r33[i]? = some w) : w ∈ wsL_law := xt_33 w (List.mem_append_left _ (List.mem_of_getElem? h))
theorem xr_34 {w : Cond} (i : Nat) (h : wsL_law_r34[i]? = some w) : w ∈ wsL_law := xt_34 w (List.mem_append_left _ (List.mem_of_getElem? h))
theorem xr_35 {w : Cond} (i : Nat) (h : wsL_law_r35[i]? = some w) : w ∈ wsL_law := xt_35 w (List.mem_append_left _ (List.mem_of_getElem? h))
theorem xr_36 {w : Cond} (i : Nat) (h : wsL_law_r36[i]? = some w) : w ∈ wsL_law := xt_36 w (List.mem_append_left _ (List.mem_of_getElem? h))
theorem xr_37 {w : Cond} (i : Nat) (h : wsL_law_r37[i]? = some w) : w ∈ wsL_law := xt_37 w (List.mem_append_left _ (List.mem_of_getElem? h))
theorem xr_38 {w : Cond} (i : Nat) (h : wsL_law_r38[i]? = some w) : w ∈ wsL_law := xt_38 w (List.mem_append_left _ (List.mem_of_getElem? h))
theorem xr_39 {w : Cond} (i : Nat) (h : wsL_law_r39[i]? = some w) : w ∈ wsL_law := xt_39 w (List.mem_append_left _ (List.mem_of_getElem? h))
theorem xr_40 {w : Cond} (i : Nat) (h : wsL_law_r40[i]? = some w) : w ∈ wsL_law := xt_40 w (List.mem_append_left _ (List.mem_of_getElem? h))
theorem xr_41 {w : Cond} (i : Nat) (h : wsL_law_r41[i]? = some w) : w ∈ wsL_law := xt_41 w (List.mem_append_left _ (List.mem_of_getElem? h))
theorem xr_42 {w : Cond} (i : Nat) (h : wsL_law_r42[i]? = some w) : w ∈ wsL_law := xt_42 w (List.mem_append_left _ (List.mem_of_getElem? h))
theorem xr_43 {w : Cond} (i : Nat) (h : wsL_law_r43[i]? = some w) : w ∈ wsL_law := xt_43 w (List.mem_of_getElem? h)
set_option maxRecDepth 20000 in
theorem xg_all : wsL_law.all goodWord = true := by decide +kernel
theorem xg_law : GoodIn wsL_law wsL_law := goodIn_sub (fun w h => h) xg_all
/-- a callee's words: its own code, and all that the law has -/
theorem xg_cons {c : Cond} (hc : c ∈ wsL_law) {ws : List Cond} (h : GoodIn wsL_law ws) : GoodIn wsL_law (c :: ws) := fun w hw => (List.mem_cons.mp hw).elim (fun e => e ▸ xg_law c hc) (fun hw => h w hw)
theorem xg_V {own C : String} {idx : Nat} {y : MethodName} {c : Cond} (h1 : Cond.methodLink own idx y ∈ wsL_law) (h2 : Cond.instanceMethod y ∈ wsL_law) (h3 : Cond.selects C y y ∈ wsL_law) (h4 : Cond.initialized C ∈ wsL_law) (h5 : c ∈ wsL_law) : GoodIn wsL_law (wsV own idx C y (c :: wsL_law)) := xg_cons h1 (xg_cons h2 (xg_cons h3 (xg_cons h4 (xg_cons h5 xg_law))))
theorem xg_S {own : String} {idx : Nat} {y : MethodName} {c : Cond} (h1 : Cond.methodLink own idx y ∈ wsL_law) (h2 : Cond.static y ∈ wsL_law) (h4 : Cond.initialized y.cls ∈ wsL_law) (h5 : c ∈ wsL_law) : GoodIn wsL_law (va_wsS own idx y (c :: wsL_law)) := xg_cons h1 (xg_cons h2 (xg_cons h4 (xg_cons h5 xg_law)))
end
section
/-! ===== what nobody writes: a static of String, the tables of digits, the String constants of the classes ===== -/
/-- the kit's numbers of classes; where the String constants lie, and their bytes; the script: its place, length, numbers -/
abbrev gD : Type := va_G × (Nat → Nat) × (Nat → Nat) × (Nat × Nat × (Nat → Int32))
def nS : List (String × Nat × String) := [("BowlsGreen$Orders", 62, "d:n"), ("BowlsGreen$Orders", 64, "d,n@n*n+"), ("BowlsGreen$Orders", 66, "d"), ("BowlsGreen$Orders", 68, "n"), ("BowlsGreen$Orders", 70, ""), ("BowlsGreen", 375, ": "), ("BowlsGreen", 380, "dry"), ("BowlsGreen", 382, "wet "), ("BowlsGreen", 384, " j"), ("BowlsGreenLaw", 146, "r"), ("BowlsGreenLaw", 154, ";h"), ("BowlsGreenLaw", 160, "c"), ("BowlsGreenLaw", 162, ";e"), ("BowlsGreenLaw", 164, ":"), ("BowlsGreenLaw", 174, "z"), ("BowlsGreenLaw", 179, "r1;h0"), ("BowlsGreenLaw", 196, "3-5: wet 2 j20")]
def lenS : List Nat := [3, 8, 1, 1, 0, 2, 3, 4, 2, 1, 2, 1, 2, 1, 1, 5, 14]
def bytS : List (List Int32) := [[100, 58, 110], [100, 44, 110, 64, 110, 42, 110, 43], [100], [110], [], [58, 32], [100, 114, 121], [119, 101, 116, 32], [32, 106], [114], [59, 104], [99], [59, 101], [58], [122], [114, 49, 59, 104, 48], [51, 45, 53, 58, 32, 119, 101, 116, 32, 50, 32, 106, 50, 48]]
/-- the String constants, one by one: two of one text lie at one place -/
def xS (aK aV : Nat → Nat) (A : Nat → Prop) (U : State) (H : Heap) : Prop := ∀ i : Nat, i < 17 → vk_S 1 [lenS.getD i 0] [bytS.getD i []] (fun _ => aK i) (fun _ => aV i) A U H
section XS
variable {aK aV : Nat → Nat} {A B : Nat → Prop} {u U : State} {H H1 : Heap}
theorem xS.kept (h : xS aK aV A U H) (hq : ∀ a : Nat, a < H.size → ¬ A a → H1[a]? = H[a]?) : xS aK aV A U H1 := fun i hi => (h i hi).kept hq
theorem xS.narrow (h : xS aK aV A U H) (hAB : ∀ q, B q → A q) : xS aK aV B U H := fun i hi => (h i hi).narrow hAB
theorem xS.moved (h : xS aK aV A u H) (hvm : u.vm.Alike U.vm) : xS aK aV A U H := fun i hi => vk_S.moved hvm (h i hi)
theorem xS.got (h : xS aK aV A U H) {i : Nat} (hi : i < 17) : va_O "java/lang/String" (aK i) A U H ∧ va_OF "java/lang/String" "coder" "B" (.int 0) (aK i) A U H ∧ va_OF "java/lang/String" "value" "[B" (.ref (aV i)) (aK i) A U H ∧ va_T .byte (aV i) (lenS.getD i 0) (fun j => .int ((bytS.getD i []).getD j 0)) A U H := (h i hi).1 0 Nat.zero_lt_one
theorem xS.recv {s : State} {locs : List Loc} (h : xS aK aV A s s.heap) {i : Nat} (hi : i < 17) (hS : va_S A s.heap H locs) : ∃ cell : Cell, H[aK i]? = some cell ∧ cell.vm.isStatics = false ∧ s.vm.findClass "java/lang/String" = some cell.cls := by
  obtain ⟨cell, h1, h2, h3, -⟩ := (h.got hi).1.kept hS.2.1
  exact ⟨cell, h1, h2, h3⟩
end XS
/-- the law's script -/
def xX (D : gD) (A : Nat → Prop) (U : State) (H : Heap) : Prop := va_X D.2.2.2.1 D.2.2.2.2.1 D.2.2.2.2.2 U H ∧ ¬ A D.2.2.2.1
theorem xX.lt {D : gD} {A : Nat → Prop} {U : State} {H : Heap} (h : xX D A U H) : D.2.2.2.1 < H.size := by
  obtain ⟨⟨scr, h1, -⟩, -⟩ := h
  exact (Array.getElem?_eq_some_iff.mp h1).1
theorem xX.kept {D : gD} {A : Nat → Prop} {U : State} {H H1 : Heap} (h : xX D A U H) (hq : ∀ a : Nat, a < H.size → ¬ A a → H1[a]? = H[a]?) : xX D A U H1 := ⟨h.1.kept (hq _ h.lt h.2), h.2⟩
theorem xX.narrow {D : gD} {A B : Nat → Prop} {U : State} {H : Heap} (h : xX D A U H) (hAB : ∀ q, B q → A q) : xX D B U H := ⟨h.1, fun q => h.2 (hAB _ q)⟩
theorem xX.moved {D : gD} {A : Nat → Prop} {u U : State} {H : Heap} (hvm : u.vm.Alike U.vm) (h : xX D A u H) : xX D A U H := ⟨va_X.moved hvm h.1, h.2⟩
def xZ (D : gD) (A : Nat → Prop) (U : State) (H : Heap) : Prop :=
  va_Z "java/lang/String" "COMPACT_STRINGS" "Z" (.int 1) A U H ∧ va_Zq "jdk/internal/util/Preconditions" "SIOOBE_FORMATTER" "Ljava/util/function/BiFunction;" A U H ∧
  (∃ t : Nat, va_Z "java/lang/Integer" "DigitOnes" "[B" (.ref t) A U H ∧ va_T .byte t 100 (fun j => .int (nI (48 + j % 10))) A U H) ∧
  (∃ t : Nat, va_Z "java/lang/Integer" "DigitTens" "[B" (.ref t) A U H ∧ va_T .byte t 100 (fun j => .int (nI (48 + j / 10))) A U H) ∧
  xS D.2.1 D.2.2.1 A U H ∧ (∀ (i : Nat) (x : String × Nat × String), nS[i]? = some x → vk_R x.1 x.2.1 x.2.2 (D.2.1 i) U) ∧ xX D A U H
theorem xZ.kept {D : gD} {A : Nat → Prop} {U : State} {H H1 : Heap} (h : xZ D A U H) (hq : ∀ a : Nat, a < H.size → ¬ A a → H1[a]? = H[a]?) : xZ D A U H1 :=
  ⟨h.1.kept hq, h.2.1.kept hq, h.2.2.1.elim fun t g => ⟨t, g.1.kept hq, g.2.kept hq⟩, h.2.2.2.1.elim fun t g => ⟨t, g.1.kept hq, g.2.kept hq⟩, h.2.2.2.2.1.kept hq, h.2.2.2.2.2.1, h.2.2.2.2.2.2.kept hq⟩
theorem xZ.narrow {D : gD} {A B : Nat → Prop} {U : State} {H : Heap} (h : xZ D A U H) (hAB : ∀ q, B q → A q) : xZ D B U H :=
  ⟨h.1.narrow hAB, h.2.1.narrow hAB, h.2.2.1.elim fun t g => ⟨t, g.1.narrow hAB, g.2.narrow hAB⟩, h.2.2.2.1.elim fun t g => ⟨t, g.1.narrow hAB, g.2.narrow hAB⟩, h.2.2.2.2.1.narrow hAB, h.2.2.2.2.2.1, h.2.2.2.2.2.2.narrow hAB⟩
theorem xZ.warm {D : gD} {A : Nat → Prop} {u U : State} {H : Heap} (hW : u.WarmedH U.vm) (h : xZ D A u H) : xZ D A U H :=
  ⟨h.1.moved hW.alike, h.2.1.moved hW.alike, h.2.2.1.elim fun t g => ⟨t, g.1.moved hW.alike, g.2.moved hW.alike⟩, h.2.2.2.1.elim fun t g => ⟨t, g.1.moved hW.alike, g.2.moved hW.alike⟩, h.2.2.2.2.1.moved hW.alike, fun i x hx => (h.2.2.2.2.2.1 i x hx).warm hW, h.2.2.2.2.2.2.moved hW.alike⟩
theorem xZ.same {D : gD} {A : Nat → Prop} {u U : State} {H : Heap} (hv : U.vm = u.vm) (h : xZ D A u H) : xZ D A U H := by
  have hA : u.vm.Alike U.vm := hv ▸ Vm.Alike.refl u.vm
  exact ⟨h.1.moved hA, h.2.1.moved hA, h.2.2.1.elim fun t g => ⟨t, g.1.moved hA, g.2.moved hA⟩, h.2.2.2.1.elim fun t g => ⟨t, g.1.moved hA, g.2.moved hA⟩, h.2.2.2.2.1.moved hA, fun i x hx => vk_R.same hv (h.2.2.2.2.2.1 i x hx), h.2.2.2.2.2.2.moved hA⟩
end
