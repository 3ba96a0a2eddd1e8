section
-- ===== PART A: goes FIRST, ahead of the names: the tables' words, and 'selects' of the private methods out of them =====
/-- a private method of a class that the tables say can be made, by its rows of tables_1 -/
def lw_okq (q : MethodName × Nat) : Prop := (q.1.cls ≠ "java/lang/invoke/MethodHandle" ∧ q.1.cls ≠ "java/lang/invoke/VarHandle") ∧ Cond.instantiable q.1.cls q.2 ∈ tables_1 ∧ Cond.privateMethod q.1 ∈ tables_1 ∧ Cond.instanceMethod q.1 ∈ tables_1
theorem lw_p0 : lw_okq (⟨"BowlsGreen", "layRink", "(II)I"⟩, 9) := ⟨⟨by decide +kernel, by decide +kernel⟩, List.mem_of_getElem? (i := 22) (by decide +kernel), List.mem_of_getElem? (i := 468) (by decide +kernel), List.mem_of_getElem? (i := 469) (by decide +kernel)⟩
theorem lw_p1 : lw_okq (⟨"BowlsGreen", "refuse", "(II)I"⟩, 9) := ⟨⟨by decide +kernel, by decide +kernel⟩, List.mem_of_getElem? (i := 22) (by decide +kernel), List.mem_of_getElem? (i := 472) (by decide +kernel), List.mem_of_getElem? (i := 473) (by decide +kernel)⟩
theorem lw_p2 : lw_okq (⟨"BowlsGreen", "settle", "(I)I"⟩, 9) := ⟨⟨by decide +kernel, by decide +kernel⟩, List.mem_of_getElem? (i := 22) (by decide +kernel), List.mem_of_getElem? (i := 492) (by decide +kernel), List.mem_of_getElem? (i := 493) (by decide +kernel)⟩
theorem lw_p3 : lw_okq (⟨"BowlsGreen", "addWood", "(II)I"⟩, 9) := ⟨⟨by decide +kernel, by decide +kernel⟩, List.mem_of_getElem? (i := 22) (by decide +kernel), List.mem_of_getElem? (i := 508) (by decide +kernel), List.mem_of_getElem? (i := 509) (by decide +kernel)⟩
theorem lw_p4 : lw_okq (⟨"BowlsGreen", "beginEnd", "(II)I"⟩, 9) := ⟨⟨by decide +kernel, by decide +kernel⟩, List.mem_of_getElem? (i := 22) (by decide +kernel), List.mem_of_getElem? (i := 523) (by decide +kernel), List.mem_of_getElem? (i := 524) (by decide +kernel)⟩
theorem lw_p5 : lw_okq (⟨"BowlsGreen$Green", "wetAfter", "(I)I"⟩, 11) := ⟨⟨by decide +kernel, by decide +kernel⟩, List.mem_of_getElem? (i := 30) (by decide +kernel), List.mem_of_getElem? (i := 539) (by decide +kernel), List.mem_of_getElem? (i := 540) (by decide +kernel)⟩
theorem lw_p6 : lw_okq (⟨"BowlsGreen", "refuseWetRink", "(II)I"⟩, 9) := ⟨⟨by decide +kernel, by decide +kernel⟩, List.mem_of_getElem? (i := 22) (by decide +kernel), List.mem_of_getElem? (i := 545) (by decide +kernel), List.mem_of_getElem? (i := 546) (by decide +kernel)⟩
theorem lw_p7 : lw_okq (⟨"BowlsGreen", "bowlWood", "(IIIIZ)I"⟩, 9) := ⟨⟨by decide +kernel, by decide +kernel⟩, List.mem_of_getElem? (i := 22) (by decide +kernel), List.mem_of_getElem? (i := 557) (by decide +kernel), List.mem_of_getElem? (i := 558) (by decide +kernel)⟩
theorem lw_p8 : lw_okq (⟨"BowlsGreen", "isBowlRefused", "(II)Z"⟩, 9) := ⟨⟨by decide +kernel, by decide +kernel⟩, List.mem_of_getElem? (i := 22) (by decide +kernel), List.mem_of_getElem? (i := 572) (by decide +kernel), List.mem_of_getElem? (i := 573) (by decide +kernel)⟩
theorem lw_p9 : lw_okq (⟨"BowlsGreen$Green", "isTaken", "(IIII)Z"⟩, 11) := ⟨⟨by decide +kernel, by decide +kernel⟩, List.mem_of_getElem? (i := 30) (by decide +kernel), List.mem_of_getElem? (i := 581) (by decide +kernel), List.mem_of_getElem? (i := 582) (by decide +kernel)⟩
theorem lw_p10 : lw_okq (⟨"BowlsGreen", "closeEnd", "(I)I"⟩, 9) := ⟨⟨by decide +kernel, by decide +kernel⟩, List.mem_of_getElem? (i := 22) (by decide +kernel), List.mem_of_getElem? (i := 600) (by decide +kernel), List.mem_of_getElem? (i := 601) (by decide +kernel)⟩
theorem lw_p11 : lw_okq (⟨"BowlsGreen$Green", "leastDistance", "(II)I"⟩, 11) := ⟨⟨by decide +kernel, by decide +kernel⟩, List.mem_of_getElem? (i := 30) (by decide +kernel), List.mem_of_getElem? (i := 608) (by decide +kernel), List.mem_of_getElem? (i := 609) (by decide +kernel)⟩
theorem lw_p12 : lw_okq (⟨"BowlsGreen$Green", "woodsNearerThan", "(III)I"⟩, 11) := ⟨⟨by decide +kernel, by decide +kernel⟩, List.mem_of_getElem? (i := 30) (by decide +kernel), List.mem_of_getElem? (i := 613) (by decide +kernel), List.mem_of_getElem? (i := 614) (by decide +kernel)⟩
theorem lw_p13 : lw_okq (⟨"BowlsGreen", "sweepRink", "(I)I"⟩, 9) := ⟨⟨by decide +kernel, by decide +kernel⟩, List.mem_of_getElem? (i := 22) (by decide +kernel), List.mem_of_getElem? (i := 629) (by decide +kernel), List.mem_of_getElem? (i := 630) (by decide +kernel)⟩
theorem lw_p14 : lw_okq (⟨"BowlsGreen", "setRain", "(I)I"⟩, 9) := ⟨⟨by decide +kernel, by decide +kernel⟩, List.mem_of_getElem? (i := 22) (by decide +kernel), List.mem_of_getElem? (i := 641) (by decide +kernel), List.mem_of_getElem? (i := 642) (by decide +kernel)⟩
theorem lw_p15 : lw_okq (⟨"BowlsGreen", "setSun", "(I)I"⟩, 9) := ⟨⟨by decide +kernel, by decide +kernel⟩, List.mem_of_getElem? (i := 22) (by decide +kernel), List.mem_of_getElem? (i := 652) (by decide +kernel), List.mem_of_getElem? (i := 653) (by decide +kernel)⟩
def lw_privs_1 : List (MethodName × Nat) := [(⟨"BowlsGreen", "layRink", "(II)I"⟩, 9), (⟨"BowlsGreen", "refuse", "(II)I"⟩, 9), (⟨"BowlsGreen", "settle", "(I)I"⟩, 9), (⟨"BowlsGreen", "addWood", "(II)I"⟩, 9), (⟨"BowlsGreen", "beginEnd", "(II)I"⟩, 9), (⟨"BowlsGreen$Green", "wetAfter", "(I)I"⟩, 11), (⟨"BowlsGreen", "refuseWetRink", "(II)I"⟩, 9), (⟨"BowlsGreen", "bowlWood", "(IIIIZ)I"⟩, 9), (⟨"BowlsGreen", "isBowlRefused", "(II)Z"⟩, 9), (⟨"BowlsGreen$Green", "isTaken", "(IIII)Z"⟩, 11), (⟨"BowlsGreen", "closeEnd", "(I)I"⟩, 9), (⟨"BowlsGreen$Green", "leastDistance", "(II)I"⟩, 11), (⟨"BowlsGreen$Green", "woodsNearerThan", "(III)I"⟩, 11), (⟨"BowlsGreen", "sweepRink", "(I)I"⟩, 9), (⟨"BowlsGreen", "setRain", "(I)I"⟩, 9), (⟨"BowlsGreen", "setSun", "(I)I"⟩, 9)]
theorem lw_r1 : ∀ q ∈ lw_privs_1, lw_okq q := List.forall_mem_cons.mpr ⟨lw_p0, List.forall_mem_cons.mpr ⟨lw_p1, List.forall_mem_cons.mpr ⟨lw_p2, List.forall_mem_cons.mpr ⟨lw_p3, List.forall_mem_cons.mpr ⟨lw_p4, List.forall_mem_cons.mpr ⟨lw_p5, List.forall_mem_cons.mpr ⟨lw_p6, List.forall_mem_cons.mpr ⟨lw_p7, List.forall_mem_cons.mpr ⟨lw_p8, List.forall_mem_cons.mpr ⟨lw_p9, List.forall_mem_cons.mpr ⟨lw_p10, List.forall_mem_cons.mpr ⟨lw_p11, List.forall_mem_cons.mpr ⟨lw_p12, List.forall_mem_cons.mpr ⟨lw_p13, List.forall_mem_cons.mpr ⟨lw_p14, List.forall_mem_cons.mpr ⟨lw_p15, fun _ h => absurd h List.not_mem_nil⟩⟩⟩⟩⟩⟩⟩⟩⟩⟩⟩⟩⟩⟩⟩⟩
theorem lw_p16 : lw_okq (⟨"BowlsGreen", "brewCups", "(I)I"⟩, 9) := ⟨⟨by decide +kernel, by decide +kernel⟩, List.mem_of_getElem? (i := 22) (by decide +kernel), List.mem_of_getElem? (i := 660) (by decide +kernel), List.mem_of_getElem? (i := 661) (by decide +kernel)⟩
theorem lw_p17 : lw_okq (⟨"BowlsGreen", "giveTea", "(I)I"⟩, 9) := ⟨⟨by decide +kernel, by decide +kernel⟩, List.mem_of_getElem? (i := 22) (by decide +kernel), List.mem_of_getElem? (i := 669) (by decide +kernel), List.mem_of_getElem? (i := 670) (by decide +kernel)⟩
theorem lw_p18 : lw_okq (⟨"BowlsGreen", "passHours", "(I)I"⟩, 9) := ⟨⟨by decide +kernel, by decide +kernel⟩, List.mem_of_getElem? (i := 22) (by decide +kernel), List.mem_of_getElem? (i := 677) (by decide +kernel), List.mem_of_getElem? (i := 678) (by decide +kernel)⟩
theorem lw_p19 : lw_okq (⟨"BowlsGreen$Orders", "readOrder", "(Ljava/lang/StringBuilder;I)Z"⟩, 4) := ⟨⟨by decide +kernel, by decide +kernel⟩, List.mem_of_getElem? (i := 263) (by decide +kernel), List.mem_of_getElem? (i := 703) (by decide +kernel), List.mem_of_getElem? (i := 704) (by decide +kernel)⟩
theorem lw_p20 : lw_okq (⟨"BowlsGreen$Orders", "readPart", "(Ljava/lang/StringBuilder;II)Z"⟩, 4) := ⟨⟨by decide +kernel, by decide +kernel⟩, List.mem_of_getElem? (i := 263) (by decide +kernel), List.mem_of_getElem? (i := 757) (by decide +kernel), List.mem_of_getElem? (i := 758) (by decide +kernel)⟩
theorem lw_p21 : lw_okq (⟨"BowlsGreen$Orders", "readDigits", "(Ljava/lang/StringBuilder;II)Z"⟩, 4) := ⟨⟨by decide +kernel, by decide +kernel⟩, List.mem_of_getElem? (i := 263) (by decide +kernel), List.mem_of_getElem? (i := 761) (by decide +kernel), List.mem_of_getElem? (i := 762) (by decide +kernel)⟩
theorem lw_p22 : lw_okq (⟨"BowlsGreen$Orders", "readSide", "(Ljava/lang/StringBuilder;I)Z"⟩, 4) := ⟨⟨by decide +kernel, by decide +kernel⟩, List.mem_of_getElem? (i := 263) (by decide +kernel), List.mem_of_getElem? (i := 768) (by decide +kernel), List.mem_of_getElem? (i := 769) (by decide +kernel)⟩
theorem lw_p23 : lw_okq (⟨"BowlsGreen$Orders", "readSign", "(Ljava/lang/StringBuilder;I)Z"⟩, 4) := ⟨⟨by decide +kernel, by decide +kernel⟩, List.mem_of_getElem? (i := 263) (by decide +kernel), List.mem_of_getElem? (i := 772) (by decide +kernel), List.mem_of_getElem? (i := 773) (by decide +kernel)⟩
theorem lw_p24 : lw_okq (⟨"BowlsGreen", "carryOutOrders", "()I"⟩, 9) := ⟨⟨by decide +kernel, by decide +kernel⟩, List.mem_of_getElem? (i := 22) (by decide +kernel), List.mem_of_getElem? (i := 779) (by decide +kernel), List.mem_of_getElem? (i := 780) (by decide +kernel)⟩
theorem lw_p25 : lw_okq (⟨"BowlsGreen", "carryOut", "(I)I"⟩, 9) := ⟨⟨by decide +kernel, by decide +kernel⟩, List.mem_of_getElem? (i := 22) (by decide +kernel), List.mem_of_getElem? (i := 783) (by decide +kernel), List.mem_of_getElem? (i := 784) (by decide +kernel)⟩
theorem lw_p26 : lw_okq (⟨"BowlsGreen", "refuseScript", "(II)I"⟩, 9) := ⟨⟨by decide +kernel, by decide +kernel⟩, List.mem_of_getElem? (i := 22) (by decide +kernel), List.mem_of_getElem? (i := 795) (by decide +kernel), List.mem_of_getElem? (i := 796) (by decide +kernel)⟩
theorem lw_p27 : lw_okq (⟨"BowlsGreen", "keepFault", "()I"⟩, 9) := ⟨⟨by decide +kernel, by decide +kernel⟩, List.mem_of_getElem? (i := 22) (by decide +kernel), List.mem_of_getElem? (i := 799) (by decide +kernel), List.mem_of_getElem? (i := 800) (by decide +kernel)⟩
theorem lw_p28 : lw_okq (⟨"BowlsGreen$Green", "woodsBefore", "(II)I"⟩, 11) := ⟨⟨by decide +kernel, by decide +kernel⟩, List.mem_of_getElem? (i := 30) (by decide +kernel), List.mem_of_getElem? (i := 875) (by decide +kernel), List.mem_of_getElem? (i := 876) (by decide +kernel)⟩
theorem lw_p29 : lw_okq (⟨"BowlsGreen$Green", "isMatched", "(ILBowlsGreen$Wood;)Z"⟩, 11) := ⟨⟨by decide +kernel, by decide +kernel⟩, List.mem_of_getElem? (i := 30) (by decide +kernel), List.mem_of_getElem? (i := 889) (by decide +kernel), List.mem_of_getElem? (i := 890) (by decide +kernel)⟩
theorem lw_p30 : lw_okq (⟨"BowlsGreen", "writeWood", "(I)V"⟩, 9) := ⟨⟨by decide +kernel, by decide +kernel⟩, List.mem_of_getElem? (i := 22) (by decide +kernel), List.mem_of_getElem? (i := 998) (by decide +kernel), List.mem_of_getElem? (i := 999) (by decide +kernel)⟩
theorem lw_p31 : lw_okq (⟨"BowlsGreenModel", "begins", "()V"⟩, 18) := ⟨⟨by decide +kernel, by decide +kernel⟩, List.mem_of_getElem? (i := 1058) (by decide +kernel), List.mem_of_getElem? (i := 1064) (by decide +kernel), List.mem_of_getElem? (i := 1065) (by decide +kernel)⟩
def lw_privs_2 : List (MethodName × Nat) := [(⟨"BowlsGreen", "brewCups", "(I)I"⟩, 9), (⟨"BowlsGreen", "giveTea", "(I)I"⟩, 9), (⟨"BowlsGreen", "passHours", "(I)I"⟩, 9), (⟨"BowlsGreen$Orders", "readOrder", "(Ljava/lang/StringBuilder;I)Z"⟩, 4), (⟨"BowlsGreen$Orders", "readPart", "(Ljava/lang/StringBuilder;II)Z"⟩, 4), (⟨"BowlsGreen$Orders", "readDigits", "(Ljava/lang/StringBuilder;II)Z"⟩, 4), (⟨"BowlsGreen$Orders", "readSide", "(Ljava/lang/StringBuilder;I)Z"⟩, 4), (⟨"BowlsGreen$Orders", "readSign", "(Ljava/lang/StringBuilder;I)Z"⟩, 4), (⟨"BowlsGreen", "carryOutOrders", "()I"⟩, 9), (⟨"BowlsGreen", "carryOut", "(I)I"⟩, 9), (⟨"BowlsGreen", "refuseScript", "(II)I"⟩, 9), (⟨"BowlsGreen", "keepFault", "()I"⟩, 9), (⟨"BowlsGreen$Green", "woodsBefore", "(II)I"⟩, 11), (⟨"BowlsGreen$Green", "isMatched", "(ILBowlsGreen$Wood;)Z"⟩, 11), (⟨"BowlsGreen", "writeWood", "(I)V"⟩, 9), (⟨"BowlsGreenModel", "begins", "()V"⟩, 18)]
theorem lw_r2 : ∀ q ∈ lw_privs_2, lw_okq q := List.forall_mem_cons.mpr ⟨lw_p16, List.forall_mem_cons.mpr ⟨lw_p17, List.forall_mem_cons.mpr ⟨lw_p18, List.forall_mem_cons.mpr ⟨lw_p19, List.forall_mem_cons.mpr ⟨lw_p20, List.forall_mem_cons.mpr ⟨lw_p21, List.forall_mem_cons.mpr ⟨lw_p22, List.forall_mem_cons.mpr ⟨lw_p23, List.forall_mem_cons.mpr ⟨lw_p24, List.forall_mem_cons.mpr ⟨lw_p25, List.forall_mem_cons.mpr ⟨lw_p26, List.forall_mem_cons.mpr ⟨lw_p27, List.forall_mem_cons.mpr ⟨lw_p28, List.forall_mem_cons.mpr ⟨lw_p29, List.forall_mem_cons.mpr ⟨lw_p30, List.forall_mem_cons.mpr ⟨lw_p31, fun _ h => absurd h List.not_mem_nil⟩⟩⟩⟩⟩⟩⟩⟩⟩⟩⟩⟩⟩⟩⟩⟩
theorem lw_p32 : lw_okq (⟨"BowlsGreenModel", "tries", "()V"⟩, 18) := ⟨⟨by decide +kernel, by decide +kernel⟩, List.mem_of_getElem? (i := 1058) (by decide +kernel), List.mem_of_getElem? (i := 1139) (by decide +kernel), List.mem_of_getElem? (i := 1140) (by decide +kernel)⟩
theorem lw_p33 : lw_okq (⟨"BowlsGreenModel", "refuses", "(II)I"⟩, 18) := ⟨⟨by decide +kernel, by decide +kernel⟩, List.mem_of_getElem? (i := 1058) (by decide +kernel), List.mem_of_getElem? (i := 1143) (by decide +kernel), List.mem_of_getElem? (i := 1144) (by decide +kernel)⟩
theorem lw_p34 : lw_okq (⟨"BowlsGreenModel", "ofRink", "(II)I"⟩, 18) := ⟨⟨by decide +kernel, by decide +kernel⟩, List.mem_of_getElem? (i := 1058) (by decide +kernel), List.mem_of_getElem? (i := 1147) (by decide +kernel), List.mem_of_getElem? (i := 1148) (by decide +kernel)⟩
theorem lw_p35 : lw_okq (⟨"BowlsGreenModel", "setsRink", "(III)V"⟩, 18) := ⟨⟨by decide +kernel, by decide +kernel⟩, List.mem_of_getElem? (i := 1058) (by decide +kernel), List.mem_of_getElem? (i := 1151) (by decide +kernel), List.mem_of_getElem? (i := 1152) (by decide +kernel)⟩
theorem lw_p36 : lw_okq (⟨"BowlsGreenModel", "keeps", "(I)I"⟩, 18) := ⟨⟨by decide +kernel, by decide +kernel⟩, List.mem_of_getElem? (i := 1058) (by decide +kernel), List.mem_of_getElem? (i := 1155) (by decide +kernel), List.mem_of_getElem? (i := 1156) (by decide +kernel)⟩
theorem lw_p37 : lw_okq (⟨"BowlsGreenModel", "setsWood", "(III)V"⟩, 18) := ⟨⟨by decide +kernel, by decide +kernel⟩, List.mem_of_getElem? (i := 1058) (by decide +kernel), List.mem_of_getElem? (i := 1163) (by decide +kernel), List.mem_of_getElem? (i := 1164) (by decide +kernel)⟩
theorem lw_p38 : lw_okq (⟨"BowlsGreenModel", "starts", "(II)I"⟩, 18) := ⟨⟨by decide +kernel, by decide +kernel⟩, List.mem_of_getElem? (i := 1058) (by decide +kernel), List.mem_of_getElem? (i := 1171) (by decide +kernel), List.mem_of_getElem? (i := 1172) (by decide +kernel)⟩
theorem lw_p39 : lw_okq (⟨"BowlsGreenModel", "isRink", "(I)Z"⟩, 18) := ⟨⟨by decide +kernel, by decide +kernel⟩, List.mem_of_getElem? (i := 1058) (by decide +kernel), List.mem_of_getElem? (i := 1175) (by decide +kernel), List.mem_of_getElem? (i := 1176) (by decide +kernel)⟩
theorem lw_p40 : lw_okq (⟨"BowlsGreenModel", "hoursToDry", "(I)I"⟩, 18) := ⟨⟨by decide +kernel, by decide +kernel⟩, List.mem_of_getElem? (i := 1058) (by decide +kernel), List.mem_of_getElem? (i := 1179) (by decide +kernel), List.mem_of_getElem? (i := 1180) (by decide +kernel)⟩
theorem lw_p41 : lw_okq (⟨"BowlsGreenModel", "changed", "(I)I"⟩, 18) := ⟨⟨by decide +kernel, by decide +kernel⟩, List.mem_of_getElem? (i := 1058) (by decide +kernel), List.mem_of_getElem? (i := 1183) (by decide +kernel), List.mem_of_getElem? (i := 1184) (by decide +kernel)⟩
theorem lw_p42 : lw_okq (⟨"BowlsGreenModel", "refusesBy", "(II)I"⟩, 18) := ⟨⟨by decide +kernel, by decide +kernel⟩, List.mem_of_getElem? (i := 1058) (by decide +kernel), List.mem_of_getElem? (i := 1189) (by decide +kernel), List.mem_of_getElem? (i := 1190) (by decide +kernel)⟩
theorem lw_p43 : lw_okq (⟨"BowlsGreenModel", "does", "(I)I"⟩, 18) := ⟨⟨by decide +kernel, by decide +kernel⟩, List.mem_of_getElem? (i := 1058) (by decide +kernel), List.mem_of_getElem? (i := 1193) (by decide +kernel), List.mem_of_getElem? (i := 1194) (by decide +kernel)⟩
theorem lw_p44 : lw_okq (⟨"BowlsGreenModel", "ends", "(I)I"⟩, 18) := ⟨⟨by decide +kernel, by decide +kernel⟩, List.mem_of_getElem? (i := 1058) (by decide +kernel), List.mem_of_getElem? (i := 1197) (by decide +kernel), List.mem_of_getElem? (i := 1198) (by decide +kernel)⟩
theorem lw_p45 : lw_okq (⟨"BowlsGreenModel", "bowls", "(IIIIZ)I"⟩, 18) := ⟨⟨by decide +kernel, by decide +kernel⟩, List.mem_of_getElem? (i := 1058) (by decide +kernel), List.mem_of_getElem? (i := 1205) (by decide +kernel), List.mem_of_getElem? (i := 1206) (by decide +kernel)⟩
theorem lw_p46 : lw_okq (⟨"BowlsGreenModel", "isWood", "(I)Z"⟩, 18) := ⟨⟨by decide +kernel, by decide +kernel⟩, List.mem_of_getElem? (i := 1058) (by decide +kernel), List.mem_of_getElem? (i := 1209) (by decide +kernel), List.mem_of_getElem? (i := 1210) (by decide +kernel)⟩
theorem lw_p47 : lw_okq (⟨"BowlsGreenModel", "isBad", "(II)Z"⟩, 18) := ⟨⟨by decide +kernel, by decide +kernel⟩, List.mem_of_getElem? (i := 1058) (by decide +kernel), List.mem_of_getElem? (i := 1213) (by decide +kernel), List.mem_of_getElem? (i := 1214) (by decide +kernel)⟩
def lw_privs_3 : List (MethodName × Nat) := [(⟨"BowlsGreenModel", "tries", "()V"⟩, 18), (⟨"BowlsGreenModel", "refuses", "(II)I"⟩, 18), (⟨"BowlsGreenModel", "ofRink", "(II)I"⟩, 18), (⟨"BowlsGreenModel", "setsRink", "(III)V"⟩, 18), (⟨"BowlsGreenModel", "keeps", "(I)I"⟩, 18), (⟨"BowlsGreenModel", "setsWood", "(III)V"⟩, 18), (⟨"BowlsGreenModel", "starts", "(II)I"⟩, 18), (⟨"BowlsGreenModel", "isRink", "(I)Z"⟩, 18), (⟨"BowlsGreenModel", "hoursToDry", "(I)I"⟩, 18), (⟨"BowlsGreenModel", "changed", "(I)I"⟩, 18), (⟨"BowlsGreenModel", "refusesBy", "(II)I"⟩, 18), (⟨"BowlsGreenModel", "does", "(I)I"⟩, 18), (⟨"BowlsGreenModel", "ends", "(I)I"⟩, 18), (⟨"BowlsGreenModel", "bowls", "(IIIIZ)I"⟩, 18), (⟨"BowlsGreenModel", "isWood", "(I)Z"⟩, 18), (⟨"BowlsGreenModel", "isBad", "(II)Z"⟩, 18)]
theorem lw_r3 : ∀ q ∈ lw_privs_3, lw_okq q := List.forall_mem_cons.mpr ⟨lw_p32, List.forall_mem_cons.mpr ⟨lw_p33, List.forall_mem_cons.mpr ⟨lw_p34, List.forall_mem_cons.mpr ⟨lw_p35, List.forall_mem_cons.mpr ⟨lw_p36, List.forall_mem_cons.mpr ⟨lw_p37, List.forall_mem_cons.mpr ⟨lw_p38, List.forall_mem_cons.mpr ⟨lw_p39, List.forall_mem_cons.mpr ⟨lw_p40, List.forall_mem_cons.mpr ⟨lw_p41, List.forall_mem_cons.mpr ⟨lw_p42, List.forall_mem_cons.mpr ⟨lw_p43, List.forall_mem_cons.mpr ⟨lw_p44, List.forall_mem_cons.mpr ⟨lw_p45, List.forall_mem_cons.mpr ⟨lw_p46, List.forall_mem_cons.mpr ⟨lw_p47, fun _ h => absurd h List.not_mem_nil⟩⟩⟩⟩⟩⟩⟩⟩⟩⟩⟩⟩⟩⟩⟩⟩
theorem lw_p48 : lw_okq (⟨"BowlsGreenModel", "ofWood", "(II)I"⟩, 18) := ⟨⟨by decide +kernel, by decide +kernel⟩, List.mem_of_getElem? (i := 1058) (by decide +kernel), List.mem_of_getElem? (i := 1217) (by decide +kernel), List.mem_of_getElem? (i := 1218) (by decide +kernel)⟩
theorem lw_p49 : lw_okq (⟨"BowlsGreenModel", "columnOf", "(IIIZ)I"⟩, 18) := ⟨⟨by decide +kernel, by decide +kernel⟩, List.mem_of_getElem? (i := 1058) (by decide +kernel), List.mem_of_getElem? (i := 1221) (by decide +kernel), List.mem_of_getElem? (i := 1222) (by decide +kernel)⟩
theorem lw_p50 : lw_okq (⟨"BowlsGreenModel", "lengthOf", "(IIII)I"⟩, 18) := ⟨⟨by decide +kernel, by decide +kernel⟩, List.mem_of_getElem? (i := 1058) (by decide +kernel), List.mem_of_getElem? (i := 1225) (by decide +kernel), List.mem_of_getElem? (i := 1226) (by decide +kernel)⟩
theorem lw_p51 : lw_okq (⟨"BowlsGreenModel", "isTaken", "(IIII)Z"⟩, 18) := ⟨⟨by decide +kernel, by decide +kernel⟩, List.mem_of_getElem? (i := 1058) (by decide +kernel), List.mem_of_getElem? (i := 1229) (by decide +kernel), List.mem_of_getElem? (i := 1230) (by decide +kernel)⟩
theorem lw_p52 : lw_okq (⟨"BowlsGreenModel", "distance", "(I)I"⟩, 18) := ⟨⟨by decide +kernel, by decide +kernel⟩, List.mem_of_getElem? (i := 1058) (by decide +kernel), List.mem_of_getElem? (i := 1233) (by decide +kernel), List.mem_of_getElem? (i := 1234) (by decide +kernel)⟩
theorem lw_p53 : lw_okq (⟨"BowlsGreenModel", "square", "(III)I"⟩, 18) := ⟨⟨by decide +kernel, by decide +kernel⟩, List.mem_of_getElem? (i := 1058) (by decide +kernel), List.mem_of_getElem? (i := 1237) (by decide +kernel), List.mem_of_getElem? (i := 1238) (by decide +kernel)⟩
theorem lw_p54 : lw_okq (⟨"BowlsGreenModel", "closes", "(I)I"⟩, 18) := ⟨⟨by decide +kernel, by decide +kernel⟩, List.mem_of_getElem? (i := 1058) (by decide +kernel), List.mem_of_getElem? (i := 1245) (by decide +kernel), List.mem_of_getElem? (i := 1246) (by decide +kernel)⟩
theorem lw_p55 : lw_okq (⟨"BowlsGreenModel", "counted", "(I)I"⟩, 18) := ⟨⟨by decide +kernel, by decide +kernel⟩, List.mem_of_getElem? (i := 1058) (by decide +kernel), List.mem_of_getElem? (i := 1249) (by decide +kernel), List.mem_of_getElem? (i := 1250) (by decide +kernel)⟩
theorem lw_p56 : lw_okq (⟨"BowlsGreenModel", "least", "(II)I"⟩, 18) := ⟨⟨by decide +kernel, by decide +kernel⟩, List.mem_of_getElem? (i := 1058) (by decide +kernel), List.mem_of_getElem? (i := 1253) (by decide +kernel), List.mem_of_getElem? (i := 1254) (by decide +kernel)⟩
theorem lw_p57 : lw_okq (⟨"BowlsGreenModel", "liesOn", "(II)Z"⟩, 18) := ⟨⟨by decide +kernel, by decide +kernel⟩, List.mem_of_getElem? (i := 1058) (by decide +kernel), List.mem_of_getElem? (i := 1258) (by decide +kernel), List.mem_of_getElem? (i := 1259) (by decide +kernel)⟩
theorem lw_p58 : lw_okq (⟨"BowlsGreenModel", "sweeps", "(I)I"⟩, 18) := ⟨⟨by decide +kernel, by decide +kernel⟩, List.mem_of_getElem? (i := 1058) (by decide +kernel), List.mem_of_getElem? (i := 1266) (by decide +kernel), List.mem_of_getElem? (i := 1267) (by decide +kernel)⟩
theorem lw_p59 : lw_okq (⟨"BowlsGreenModel", "sets", "(II)I"⟩, 18) := ⟨⟨by decide +kernel, by decide +kernel⟩, List.mem_of_getElem? (i := 1058) (by decide +kernel), List.mem_of_getElem? (i := 1274) (by decide +kernel), List.mem_of_getElem? (i := 1275) (by decide +kernel)⟩
theorem lw_p60 : lw_okq (⟨"BowlsGreenModel", "drinks", "(I)I"⟩, 18) := ⟨⟨by decide +kernel, by decide +kernel⟩, List.mem_of_getElem? (i := 1058) (by decide +kernel), List.mem_of_getElem? (i := 1290) (by decide +kernel), List.mem_of_getElem? (i := 1291) (by decide +kernel)⟩
theorem lw_p61 : lw_okq (⟨"BowlsGreenModel", "passes", "(I)I"⟩, 18) := ⟨⟨by decide +kernel, by decide +kernel⟩, List.mem_of_getElem? (i := 1058) (by decide +kernel), List.mem_of_getElem? (i := 1298) (by decide +kernel), List.mem_of_getElem? (i := 1299) (by decide +kernel)⟩
theorem lw_p62 : lw_okq (⟨"BowlsGreenModel", "castsAfter", "(III)I"⟩, 18) := ⟨⟨by decide +kernel, by decide +kernel⟩, List.mem_of_getElem? (i := 1058) (by decide +kernel), List.mem_of_getElem? (i := 1302) (by decide +kernel), List.mem_of_getElem? (i := 1303) (by decide +kernel)⟩
theorem lw_p63 : lw_okq (⟨"BowlsGreenModel", "allCasts", "()I"⟩, 18) := ⟨⟨by decide +kernel, by decide +kernel⟩, List.mem_of_getElem? (i := 1058) (by decide +kernel), List.mem_of_getElem? (i := 1306) (by decide +kernel), List.mem_of_getElem? (i := 1307) (by decide +kernel)⟩
def lw_privs_4 : List (MethodName × Nat) := [(⟨"BowlsGreenModel", "ofWood", "(II)I"⟩, 18), (⟨"BowlsGreenModel", "columnOf", "(IIIZ)I"⟩, 18), (⟨"BowlsGreenModel", "lengthOf", "(IIII)I"⟩, 18), (⟨"BowlsGreenModel", "isTaken", "(IIII)Z"⟩, 18), (⟨"BowlsGreenModel", "distance", "(I)I"⟩, 18), (⟨"BowlsGreenModel", "square", "(III)I"⟩, 18), (⟨"BowlsGreenModel", "closes", "(I)I"⟩, 18), (⟨"BowlsGreenModel", "counted", "(I)I"⟩, 18), (⟨"BowlsGreenModel", "least", "(II)I"⟩, 18), (⟨"BowlsGreenModel", "liesOn", "(II)Z"⟩, 18), (⟨"BowlsGreenModel", "sweeps", "(I)I"⟩, 18), (⟨"BowlsGreenModel", "sets", "(II)I"⟩, 18), (⟨"BowlsGreenModel", "drinks", "(I)I"⟩, 18), (⟨"BowlsGreenModel", "passes", "(I)I"⟩, 18), (⟨"BowlsGreenModel", "castsAfter", "(III)I"⟩, 18), (⟨"BowlsGreenModel", "allCasts", "()I"⟩, 18)]
theorem lw_r4 : ∀ q ∈ lw_privs_4, lw_okq q := List.forall_mem_cons.mpr ⟨lw_p48, List.forall_mem_cons.mpr ⟨lw_p49, List.forall_mem_cons.mpr ⟨lw_p50, List.forall_mem_cons.mpr ⟨lw_p51, List.forall_mem_cons.mpr ⟨lw_p52, List.forall_mem_cons.mpr ⟨lw_p53, List.forall_mem_cons.mpr ⟨lw_p54, List.forall_mem_cons.mpr ⟨lw_p55, List.forall_mem_cons.mpr ⟨lw_p56, List.forall_mem_cons.mpr ⟨lw_p57, List.forall_mem_cons.mpr ⟨lw_p58, List.forall_mem_cons.mpr ⟨lw_p59, List.forall_mem_cons.mpr ⟨lw_p60, List.forall_mem_cons.mpr ⟨lw_p61, List.forall_mem_cons.mpr ⟨lw_p62, List.forall_mem_cons.mpr ⟨lw_p63, fun _ h => absurd h List.not_mem_nil⟩⟩⟩⟩⟩⟩⟩⟩⟩⟩⟩⟩⟩⟩⟩⟩
theorem lw_p64 : lw_okq (⟨"BowlsGreenModel", "isOrder", "()Z"⟩, 18) := ⟨⟨by decide +kernel, by decide +kernel⟩, List.mem_of_getElem? (i := 1058) (by decide +kernel), List.mem_of_getElem? (i := 1314) (by decide +kernel), List.mem_of_getElem? (i := 1315) (by decide +kernel)⟩
theorem lw_p65 : lw_okq (⟨"BowlsGreenModel", "digits", "(II)Z"⟩, 18) := ⟨⟨by decide +kernel, by decide +kernel⟩, List.mem_of_getElem? (i := 1058) (by decide +kernel), List.mem_of_getElem? (i := 1318) (by decide +kernel), List.mem_of_getElem? (i := 1319) (by decide +kernel)⟩
theorem lw_p66 : lw_okq (⟨"BowlsGreenModel", "isNext", "(C)Z"⟩, 18) := ⟨⟨by decide +kernel, by decide +kernel⟩, List.mem_of_getElem? (i := 1058) (by decide +kernel), List.mem_of_getElem? (i := 1322) (by decide +kernel), List.mem_of_getElem? (i := 1323) (by decide +kernel)⟩
theorem lw_p67 : lw_okq (⟨"BowlsGreenModel", "side", "()Z"⟩, 18) := ⟨⟨by decide +kernel, by decide +kernel⟩, List.mem_of_getElem? (i := 1058) (by decide +kernel), List.mem_of_getElem? (i := 1326) (by decide +kernel), List.mem_of_getElem? (i := 1327) (by decide +kernel)⟩
theorem lw_p68 : lw_okq (⟨"BowlsGreenModel", "carries", "()I"⟩, 18) := ⟨⟨by decide +kernel, by decide +kernel⟩, List.mem_of_getElem? (i := 1058) (by decide +kernel), List.mem_of_getElem? (i := 1330) (by decide +kernel), List.mem_of_getElem? (i := 1331) (by decide +kernel)⟩
theorem lw_p69 : lw_okq (⟨"BowlsGreenModel", "comesBack", "()V"⟩, 18) := ⟨⟨by decide +kernel, by decide +kernel⟩, List.mem_of_getElem? (i := 1058) (by decide +kernel), List.mem_of_getElem? (i := 1334) (by decide +kernel), List.mem_of_getElem? (i := 1335) (by decide +kernel)⟩
theorem lw_p70 : lw_okq (⟨"BowlsGreenModel", "countOn", "(II)I"⟩, 18) := ⟨⟨by decide +kernel, by decide +kernel⟩, List.mem_of_getElem? (i := 1058) (by decide +kernel), List.mem_of_getElem? (i := 1350) (by decide +kernel), List.mem_of_getElem? (i := 1351) (by decide +kernel)⟩
theorem lw_p71 : lw_okq (⟨"BowlsGreenModel", "woodsOf", "(IZ)I"⟩, 18) := ⟨⟨by decide +kernel, by decide +kernel⟩, List.mem_of_getElem? (i := 1058) (by decide +kernel), List.mem_of_getElem? (i := 1362) (by decide +kernel), List.mem_of_getElem? (i := 1363) (by decide +kernel)⟩
theorem lw_p72 : lw_okq (⟨"BowlsGreenModel", "atPlace", "(II)I"⟩, 18) := ⟨⟨by decide +kernel, by decide +kernel⟩, List.mem_of_getElem? (i := 1058) (by decide +kernel), List.mem_of_getElem? (i := 1374) (by decide +kernel), List.mem_of_getElem? (i := 1375) (by decide +kernel)⟩
theorem lw_p73 : lw_okq (⟨"BowlsGreenModel", "ahead", "(IIZ)I"⟩, 18) := ⟨⟨by decide +kernel, by decide +kernel⟩, List.mem_of_getElem? (i := 1058) (by decide +kernel), List.mem_of_getElem? (i := 1394) (by decide +kernel), List.mem_of_getElem? (i := 1395) (by decide +kernel)⟩
theorem lw_p74 : lw_okq (⟨"BowlsGreenModel", "writesNumber", "(I)V"⟩, 18) := ⟨⟨by decide +kernel, by decide +kernel⟩, List.mem_of_getElem? (i := 1058) (by decide +kernel), List.mem_of_getElem? (i := 1414) (by decide +kernel), List.mem_of_getElem? (i := 1415) (by decide +kernel)⟩
theorem lw_p75 : lw_okq (⟨"BowlsGreenModel", "writes", "(Ljava/lang/String;)V"⟩, 18) := ⟨⟨by decide +kernel, by decide +kernel⟩, List.mem_of_getElem? (i := 1058) (by decide +kernel), List.mem_of_getElem? (i := 1419) (by decide +kernel), List.mem_of_getElem? (i := 1420) (by decide +kernel)⟩
theorem lw_p76 : lw_okq (⟨"BowlsGreenModel", "closed", "()I"⟩, 18) := ⟨⟨by decide +kernel, by decide +kernel⟩, List.mem_of_getElem? (i := 1058) (by decide +kernel), List.mem_of_getElem? (i := 1442) (by decide +kernel), List.mem_of_getElem? (i := 1443) (by decide +kernel)⟩
def lw_privs_5 : List (MethodName × Nat) := [(⟨"BowlsGreenModel", "isOrder", "()Z"⟩, 18), (⟨"BowlsGreenModel", "digits", "(II)Z"⟩, 18), (⟨"BowlsGreenModel", "isNext", "(C)Z"⟩, 18), (⟨"BowlsGreenModel", "side", "()Z"⟩, 18), (⟨"BowlsGreenModel", "carries", "()I"⟩, 18), (⟨"BowlsGreenModel", "comesBack", "()V"⟩, 18), (⟨"BowlsGreenModel", "countOn", "(II)I"⟩, 18), (⟨"BowlsGreenModel", "woodsOf", "(IZ)I"⟩, 18), (⟨"BowlsGreenModel", "atPlace", "(II)I"⟩, 18), (⟨"BowlsGreenModel", "ahead", "(IIZ)I"⟩, 18), (⟨"BowlsGreenModel", "writesNumber", "(I)V"⟩, 18), (⟨"BowlsGreenModel", "writes", "(Ljava/lang/String;)V"⟩, 18), (⟨"BowlsGreenModel", "closed", "()I"⟩, 18)]
theorem lw_r5 : ∀ q ∈ lw_privs_5, lw_okq q := List.forall_mem_cons.mpr ⟨lw_p64, List.forall_mem_cons.mpr ⟨lw_p65, List.forall_mem_cons.mpr ⟨lw_p66, List.forall_mem_cons.mpr ⟨lw_p67, List.forall_mem_cons.mpr ⟨lw_p68, List.forall_mem_cons.mpr ⟨lw_p69, List.forall_mem_cons.mpr ⟨lw_p70, List.forall_mem_cons.mpr ⟨lw_p71, List.forall_mem_cons.mpr ⟨lw_p72, List.forall_mem_cons.mpr ⟨lw_p73, List.forall_mem_cons.mpr ⟨lw_p74, List.forall_mem_cons.mpr ⟨lw_p75, List.forall_mem_cons.mpr ⟨lw_p76, fun _ h => absurd h List.not_mem_nil⟩⟩⟩⟩⟩⟩⟩⟩⟩⟩⟩⟩⟩
def lw_privs : List (MethodName × Nat) := lw_privs_1 ++ (lw_privs_2 ++ (lw_privs_3 ++ (lw_privs_4 ++ (lw_privs_5))))
def lw_tbl : List Cond := k2_sels lw_privs ++ tables_1
theorem lw_privs_ok : ∀ q ∈ lw_privs, lw_okq q := by
  show ∀ q ∈ lw_privs_1 ++ (lw_privs_2 ++ (lw_privs_3 ++ (lw_privs_4 ++ (lw_privs_5)))), lw_okq q
  exact List.forall_mem_append.mpr ⟨lw_r1, List.forall_mem_append.mpr ⟨lw_r2, List.forall_mem_append.mpr ⟨lw_r3, List.forall_mem_append.mpr ⟨lw_r4, lw_r5⟩⟩⟩⟩
/-- the streams that the claim lets the run draw from -/
abbrev lw_cs : List Choice := [Jvm.Choice.named "NaN.bits"]
theorem lw_bits : nanBits ∈ lw_cs := by first | decide | exact List.mem_cons_self | simp [lw_cs, nanBits]
-- ===== end of PART A; then your names; then what follows =====
end
section
/-! ===== BEGIN words of one list among another's, by their places ===== -/
theorem goodIn_r {big : List Cond} (ws : List Cond) (ps : List Nat) (hp : ws = ps.filterMap (fun i => big[i]?)) (h : ws.all goodWord = true) : GoodIn big ws := by
  intro w hw
  have h1 := List.all_eq_true.mp h w hw
  rw [hp] at hw
  obtain ⟨i, -, hi⟩ := List.mem_filterMap.mp hw
  have hm : w ∈ big := by first | exact List.mem_of_getElem? hi | exact List.getElem?_mem hi
  exact ⟨hm, good_of_word h1⟩
theorem goodIn_app {big a b : List Cond} (ha : GoodIn big a) (hb : GoodIn big b) : GoodIn big (a ++ b) := fun w h => (List.mem_append.mp h).elim (ha w) (hb w)
theorem goodIn_ca {big a b : List Cond} {c : Cond} (ha : GoodIn big (c :: a)) (hb : GoodIn big b) : GoodIn big (c :: (a ++ b)) := fun w h => (List.mem_cons.mp h).elim (fun e => ha w (List.mem_cons.mpr (Or.inl e))) (fun h => (List.mem_append.mp h).elim (fun h => ha w (List.mem_cons.mpr (Or.inr h))) (hb w))
theorem goodIn_sub {big ws : List Cond} (hm : ∀ w ∈ ws, w ∈ big) (h : ws.all goodWord = true) : GoodIn big ws := fun w hw => ⟨hm w hw, good_of_word (List.all_eq_true.mp h w hw)⟩
/-! ===== END ===== -/

/-! ===== BEGIN printed: names, fields, word lists, decode rows ===== -/
def RX0 : String := "BowlsGreen$Club"
def TX0 : u_T := fun k => match k with
  | 0 => ("BowlsGreen$Club", "shots", "I", false)
  | 1 => ("BowlsGreen$Club", "ends", "I", false)
  | 2 => ("BowlsGreen$Club", "coins", "I", false)
  | _ => ("BowlsGreen$Club", "teas", "I", false)
def tyX0 : Nat → FieldType := fun k => match k with
  | 0 => .int
  | 1 => .int
  | 2 => .int
  | _ => .int
abbrev wsX00 : List Cond := u_ws RX0 TX0 4
theorem nmX0 : ∀ a, a < 4 → ∀ b, b < 4 → a ≠ b → (TX0 a).2.1 ≠ (TX0 b).2.1 := by decide +kernel
theorem tyX0_ok : ∀ k, k < 4 → parseFieldDescriptor (TX0 k).2.2.1 = some (tyX0 k) := by decide +kernel
abbrev cX0_init : ByteArray := prog_2_method_1_code
def yX0_init : MethodName := ⟨RX0, "<init>", "()V"⟩
abbrev cX0_reset : ByteArray := prog_2_method_2_code
def yX0_reset : MethodName := ⟨RX0, "reset", "()V"⟩
abbrev cX0_become : ByteArray := prog_2_method_3_code
def yX0_become : MethodName := ⟨RX0, "become", "(LBowlsGreen$Club;)V"⟩
def RX1 : String := "BowlsGreen$Green"
def TX1 : u_T := fun k => match k with
  | 0 => ("BowlsGreen$Green", "rinks", "[LBowlsGreen$Rink;", true)
  | 1 => ("BowlsGreen$Green", "woods", "[LBowlsGreen$Wood;", true)
  | 2 => ("BowlsGreen$Green", "clubs", "[LBowlsGreen$Club;", true)
  | 3 => ("BowlsGreen$Green", "rinkCount", "I", false)
  | 4 => ("BowlsGreen$Green", "woodCount", "I", false)
  | 5 => ("BowlsGreen$Green", "hour", "I", false)
  | 6 => ("BowlsGreen$Green", "rain", "I", false)
  | 7 => ("BowlsGreen$Green", "sun", "I", false)
  | 8 => ("BowlsGreen$Green", "cups", "I", false)
  | 9 => ("BowlsGreen$Green", "drunk", "I", false)
  | _ => ("BowlsGreen$Green", "swept", "I", false)
def tyX1 : Nat → FieldType := fun k => match k with
  | 0 => .array (.object "BowlsGreen$Rink")
  | 1 => .array (.object "BowlsGreen$Wood")
  | 2 => .array (.object "BowlsGreen$Club")
  | 3 => .int
  | 4 => .int
  | 5 => .int
  | 6 => .int
  | 7 => .int
  | 8 => .int
  | 9 => .int
  | _ => .int
abbrev wsX10 : List Cond := u_ws RX1 TX1 11
theorem nmX1 : ∀ a, a < 11 → ∀ b, b < 11 → a ≠ b → (TX1 a).2.1 ≠ (TX1 b).2.1 := by decide +kernel
theorem tyX1_ok : ∀ k, k < 11 → parseFieldDescriptor (TX1 k).2.2.1 = some (tyX1 k) := by decide +kernel
abbrev cX1_init : ByteArray := prog_3_method_1_code
def yX1_init : MethodName := ⟨RX1, "<init>", "()V"⟩
abbrev cX1_reset : ByteArray := prog_3_method_2_code
def yX1_reset : MethodName := ⟨RX1, "reset", "()V"⟩
abbrev cX1_become : ByteArray := prog_3_method_3_code
def yX1_become : MethodName := ⟨RX1, "become", "(LBowlsGreen$Green;)V"⟩
abbrev cX1_isRink : ByteArray := prog_3_method_4_code
def yX1_isRink : MethodName := ⟨RX1, "isRink", "(I)Z"⟩
abbrev cX1_isWood : ByteArray := prog_3_method_5_code
def yX1_isWood : MethodName := ⟨RX1, "isWood", "(I)Z"⟩
abbrev cX1_lowestRinkWithin : ByteArray := prog_3_method_6_code
def yX1_lowestRinkWithin : MethodName := ⟨RX1, "lowestRinkWithin", "(II)I"⟩
abbrev cX1_rinkInOrder : ByteArray := prog_3_method_7_code
def yX1_rinkInOrder : MethodName := ⟨RX1, "rinkInOrder", "(I)I"⟩
abbrev cX1_landing : ByteArray := prog_3_method_8_code
def yX1_landing : MethodName := ⟨RX1, "landing", "(IIIIZ)I"⟩
abbrev cX1_isTaken : ByteArray := prog_3_method_9_code
def yX1_isTaken : MethodName := ⟨RX1, "isTaken", "(IIII)Z"⟩
abbrev cX1_woodInOrder : ByteArray := prog_3_method_10_code
def yX1_woodInOrder : MethodName := ⟨RX1, "woodInOrder", "(II)I"⟩
abbrev cX1_woodsBefore : ByteArray := prog_3_method_11_code
def yX1_woodsBefore : MethodName := ⟨RX1, "woodsBefore", "(II)I"⟩
abbrev cX1_countShots : ByteArray := prog_3_method_12_code
def yX1_countShots : MethodName := ⟨RX1, "countShots", "(I)I"⟩
abbrev cX1_leastDistance : ByteArray := prog_3_method_13_code
def yX1_leastDistance : MethodName := ⟨RX1, "leastDistance", "(II)I"⟩
abbrev cX1_woodsNearerThan : ByteArray := prog_3_method_14_code
def yX1_woodsNearerThan : MethodName := ⟨RX1, "woodsNearerThan", "(III)I"⟩
abbrev cX1_countShotsInOrder : ByteArray := prog_3_method_15_code
def yX1_countShotsInOrder : MethodName := ⟨RX1, "countShotsInOrder", "(I)I"⟩
abbrev cX1_isMatched : ByteArray := prog_3_method_16_code
def yX1_isMatched : MethodName := ⟨RX1, "isMatched", "(ILBowlsGreen$Wood;)Z"⟩
abbrev cX1_bringWoodsToShed : ByteArray := prog_3_method_17_code
def yX1_bringWoodsToShed : MethodName := ⟨RX1, "bringWoodsToShed", "(I)V"⟩
abbrev cX1_woodsOn : ByteArray := prog_3_method_18_code
def yX1_woodsOn : MethodName := ⟨RX1, "woodsOn", "(II)I"⟩
abbrev cX1_woodsOfClub : ByteArray := prog_3_method_19_code
def yX1_woodsOfClub : MethodName := ⟨RX1, "woodsOfClub", "(I)I"⟩
abbrev cX1_woodsOfClubInShed : ByteArray := prog_3_method_20_code
def yX1_woodsOfClubInShed : MethodName := ⟨RX1, "woodsOfClubInShed", "(I)I"⟩
abbrev cX1_woodsInShed : ByteArray := prog_3_method_21_code
def yX1_woodsInShed : MethodName := ⟨RX1, "woodsInShed", "()I"⟩
abbrev cX1_woodsBowled : ByteArray := prog_3_method_22_code
def yX1_woodsBowled : MethodName := ⟨RX1, "woodsBowled", "()I"⟩
abbrev cX1_endsPlayed : ByteArray := prog_3_method_23_code
def yX1_endsPlayed : MethodName := ⟨RX1, "endsPlayed", "()I"⟩
abbrev cX1_endsClosed : ByteArray := prog_3_method_24_code
def yX1_endsClosed : MethodName := ⟨RX1, "endsClosed", "()I"⟩
abbrev cX1_allWet : ByteArray := prog_3_method_25_code
def yX1_allWet : MethodName := ⟨RX1, "allWet", "()I"⟩
abbrev cX1_allCasts : ByteArray := prog_3_method_26_code
def yX1_allCasts : MethodName := ⟨RX1, "allCasts", "()I"⟩
abbrev cX1_drink : ByteArray := prog_3_method_27_code
def yX1_drink : MethodName := ⟨RX1, "drink", "(I)V"⟩
abbrev cX1_passHour : ByteArray := prog_3_method_28_code
def yX1_passHour : MethodName := ⟨RX1, "passHour", "()V"⟩
abbrev cX1_wetAfter : ByteArray := prog_3_method_29_code
def yX1_wetAfter : MethodName := ⟨RX1, "wetAfter", "(I)I"⟩
abbrev cX1_wetAhead : ByteArray := prog_3_method_30_code
def yX1_wetAhead : MethodName := ⟨RX1, "wetAhead", "(II)I"⟩
abbrev cX1_castsAhead : ByteArray := prog_3_method_31_code
def yX1_castsAhead : MethodName := ⟨RX1, "castsAhead", "(II)I"⟩
abbrev cX1_hoursUntilDry : ByteArray := prog_3_method_32_code
def yX1_hoursUntilDry : MethodName := ⟨RX1, "hoursUntilDry", "(I)I"⟩
def RX2 : String := "BowlsGreen$Orders"
def TX2 : u_T := fun k => match k with
  | 0 => ("BowlsGreen$Orders", "signs", "[I", true)
  | 1 => ("BowlsGreen$Orders", "numbers", "[I", true)
  | 2 => ("BowlsGreen$Orders", "count", "I", false)
  | _ => ("BowlsGreen$Orders", "position", "I", false)
def tyX2 : Nat → FieldType := fun k => match k with
  | 0 => .array .int
  | 1 => .array .int
  | 2 => .int
  | _ => .int
abbrev wsX20 : List Cond := u_ws RX2 TX2 4
theorem nmX2 : ∀ a, a < 4 → ∀ b, b < 4 → a ≠ b → (TX2 a).2.1 ≠ (TX2 b).2.1 := by decide +kernel
theorem tyX2_ok : ∀ k, k < 4 → parseFieldDescriptor (TX2 k).2.2.1 = some (tyX2 k) := by decide +kernel
abbrev cX2_init : ByteArray := prog_4_method_1_code
def yX2_init : MethodName := ⟨RX2, "<init>", "()V"⟩
abbrev cX2_number : ByteArray := prog_4_method_2_code
def yX2_number : MethodName := ⟨RX2, "number", "(II)I"⟩
abbrev cX2_read : ByteArray := prog_4_method_3_code
def yX2_read : MethodName := ⟨RX2, "read", "(Ljava/lang/StringBuilder;)Z"⟩
abbrev cX2_readOrder : ByteArray := prog_4_method_4_code
def yX2_readOrder : MethodName := ⟨RX2, "readOrder", "(Ljava/lang/StringBuilder;I)Z"⟩
abbrev cX2_formOf : ByteArray := prog_4_method_5_code
def yX2_formOf : MethodName := ⟨RX2, "formOf", "(I)Ljava/lang/String;"⟩
abbrev cX2_isKept : ByteArray := prog_4_method_6_code
def yX2_isKept : MethodName := ⟨RX2, "isKept", "(I)Z"⟩
abbrev cX2_readPart : ByteArray := prog_4_method_7_code
def yX2_readPart : MethodName := ⟨RX2, "readPart", "(Ljava/lang/StringBuilder;II)Z"⟩
abbrev cX2_readDigits : ByteArray := prog_4_method_8_code
def yX2_readDigits : MethodName := ⟨RX2, "readDigits", "(Ljava/lang/StringBuilder;II)Z"⟩
abbrev cX2_isDigit : ByteArray := prog_4_method_9_code
def yX2_isDigit : MethodName := ⟨RX2, "isDigit", "(C)Z"⟩
abbrev cX2_readSide : ByteArray := prog_4_method_10_code
def yX2_readSide : MethodName := ⟨RX2, "readSide", "(Ljava/lang/StringBuilder;I)Z"⟩
abbrev cX2_readSign : ByteArray := prog_4_method_11_code
def yX2_readSign : MethodName := ⟨RX2, "readSign", "(Ljava/lang/StringBuilder;I)Z"⟩
def RX3 : String := "BowlsGreen$Past"
def TX3 : u_T := fun k => match k with
  | 0 => ("BowlsGreen$Past", "greens", "[LBowlsGreen$Green;", true)
  | 1 => ("BowlsGreen$Past", "free", "I", false)
  | _ => ("BowlsGreen$Past", "count", "I", false)
def tyX3 : Nat → FieldType := fun k => match k with
  | 0 => .array (.object "BowlsGreen$Green")
  | 1 => .int
  | _ => .int
abbrev wsX30 : List Cond := u_ws RX3 TX3 3
theorem nmX3 : ∀ a, a < 3 → ∀ b, b < 3 → a ≠ b → (TX3 a).2.1 ≠ (TX3 b).2.1 := by decide +kernel
theorem tyX3_ok : ∀ k, k < 3 → parseFieldDescriptor (TX3 k).2.2.1 = some (tyX3 k) := by decide +kernel
abbrev cX3_init : ByteArray := prog_5_method_1_code
def yX3_init : MethodName := ⟨RX3, "<init>", "()V"⟩
abbrev cX3_forget : ByteArray := prog_5_method_2_code
def yX3_forget : MethodName := ⟨RX3, "forget", "()V"⟩
abbrev cX3_note : ByteArray := prog_5_method_3_code
def yX3_note : MethodName := ⟨RX3, "note", "(LBowlsGreen$Green;)V"⟩
abbrev cX3_putBack : ByteArray := prog_5_method_4_code
def yX3_putBack : MethodName := ⟨RX3, "putBack", "(LBowlsGreen$Green;)V"⟩
abbrev cX3_keep : ByteArray := prog_5_method_5_code
def yX3_keep : MethodName := ⟨RX3, "keep", "()V"⟩
abbrev cX3_takeBack : ByteArray := prog_5_method_6_code
def yX3_takeBack : MethodName := ⟨RX3, "takeBack", "(LBowlsGreen$Green;)V"⟩
def RX4 : String := "BowlsGreen$Reasons"
def TX4 : u_T := fun k => match k with
  | 0 => ("BowlsGreen$Reasons", "numbers", "[I", true)
  | 1 => ("BowlsGreen$Reasons", "details", "[I", true)
  | _ => ("BowlsGreen$Reasons", "count", "I", false)
def tyX4 : Nat → FieldType := fun k => match k with
  | 0 => .array .int
  | 1 => .array .int
  | _ => .int
abbrev wsX40 : List Cond := u_ws RX4 TX4 3
theorem nmX4 : ∀ a, a < 3 → ∀ b, b < 3 → a ≠ b → (TX4 a).2.1 ≠ (TX4 b).2.1 := by decide +kernel
theorem tyX4_ok : ∀ k, k < 3 → parseFieldDescriptor (TX4 k).2.2.1 = some (tyX4 k) := by decide +kernel
abbrev cX4_init : ByteArray := prog_6_method_1_code
def yX4_init : MethodName := ⟨RX4, "<init>", "()V"⟩
abbrev cX4_empty : ByteArray := prog_6_method_2_code
def yX4_empty : MethodName := ⟨RX4, "empty", "()V"⟩
abbrev cX4_put : ByteArray := prog_6_method_3_code
def yX4_put : MethodName := ⟨RX4, "put", "(II)V"⟩
abbrev cX4_tell : ByteArray := prog_6_method_4_code
def yX4_tell : MethodName := ⟨RX4, "tell", "(IZ)I"⟩
def RX5 : String := "BowlsGreen$Rink"
def TX5 : u_T := fun k => match k with
  | 0 => ("BowlsGreen$Rink", "first", "I", false)
  | 1 => ("BowlsGreen$Rink", "last", "I", false)
  | 2 => ("BowlsGreen$Rink", "wet", "I", false)
  | 3 => ("BowlsGreen$Rink", "casts", "I", false)
  | 4 => ("BowlsGreen$Rink", "jack", "I", false)
  | 5 => ("BowlsGreen$Rink", "starter", "I", false)
  | 6 => ("BowlsGreen$Rink", "turn", "I", false)
  | 7 => ("BowlsGreen$Rink", "closed", "I", false)
  | _ => ("BowlsGreen$Rink", "bowled", "[I", true)
def tyX5 : Nat → FieldType := fun k => match k with
  | 0 => .int
  | 1 => .int
  | 2 => .int
  | 3 => .int
  | 4 => .int
  | 5 => .int
  | 6 => .int
  | 7 => .int
  | _ => .array .int
abbrev wsX50 : List Cond := u_ws RX5 TX5 9
theorem nmX5 : ∀ a, a < 9 → ∀ b, b < 9 → a ≠ b → (TX5 a).2.1 ≠ (TX5 b).2.1 := by decide +kernel
theorem tyX5_ok : ∀ k, k < 9 → parseFieldDescriptor (TX5 k).2.2.1 = some (tyX5 k) := by decide +kernel
abbrev cX5_init : ByteArray := prog_7_method_1_code
def yX5_init : MethodName := ⟨RX5, "<init>", "()V"⟩
abbrev cX5_lay : ByteArray := prog_7_method_2_code
def yX5_lay : MethodName := ⟨RX5, "lay", "(II)V"⟩
abbrev cX5_become : ByteArray := prog_7_method_3_code
def yX5_become : MethodName := ⟨RX5, "become", "(LBowlsGreen$Rink;)V"⟩
abbrev cX5_holds : ByteArray := prog_7_method_4_code
def yX5_holds : MethodName := ⟨RX5, "holds", "(I)Z"⟩
abbrev cX5_isPlayed : ByteArray := prog_7_method_5_code
def yX5_isPlayed : MethodName := ⟨RX5, "isPlayed", "()Z"⟩
abbrev cX5_startEnd : ByteArray := prog_7_method_6_code
def yX5_startEnd : MethodName := ⟨RX5, "startEnd", "(I)V"⟩
abbrev cX5_finishEnd : ByteArray := prog_7_method_7_code
def yX5_finishEnd : MethodName := ⟨RX5, "finishEnd", "()V"⟩
abbrev cX5_distance : ByteArray := prog_7_method_8_code
def yX5_distance : MethodName := ⟨RX5, "distance", "(II)I"⟩
abbrev cX5_castsAfter : ByteArray := prog_7_method_9_code
def yX5_castsAfter : MethodName := ⟨RX5, "castsAfter", "(II)I"⟩
def RX6 : String := "BowlsGreen$Wood"
def TX6 : u_T := fun k => match k with
  | 0 => ("BowlsGreen$Wood", "club", "I", false)
  | 1 => ("BowlsGreen$Wood", "bias", "I", false)
  | 2 => ("BowlsGreen$Wood", "state", "I", false)
  | 3 => ("BowlsGreen$Wood", "rink", "I", false)
  | 4 => ("BowlsGreen$Wood", "column", "I", false)
  | 5 => ("BowlsGreen$Wood", "length", "I", false)
  | 6 => ("BowlsGreen$Wood", "distance", "I", false)
  | _ => ("BowlsGreen$Wood", "bowled", "I", false)
def tyX6 : Nat → FieldType := fun k => match k with
  | 0 => .int
  | 1 => .int
  | 2 => .int
  | 3 => .int
  | 4 => .int
  | 5 => .int
  | 6 => .int
  | _ => .int
abbrev wsX60 : List Cond := u_ws RX6 TX6 8
theorem nmX6 : ∀ a, a < 8 → ∀ b, b < 8 → a ≠ b → (TX6 a).2.1 ≠ (TX6 b).2.1 := by decide +kernel
theorem tyX6_ok : ∀ k, k < 8 → parseFieldDescriptor (TX6 k).2.2.1 = some (tyX6 k) := by decide +kernel
abbrev cX6_init : ByteArray := prog_8_method_1_code
def yX6_init : MethodName := ⟨RX6, "<init>", "()V"⟩
abbrev cX6_make : ByteArray := prog_8_method_2_code
def yX6_make : MethodName := ⟨RX6, "make", "(II)V"⟩
abbrev cX6_become : ByteArray := prog_8_method_3_code
def yX6_become : MethodName := ⟨RX6, "become", "(LBowlsGreen$Wood;)V"⟩
abbrev cX6_liesOn : ByteArray := prog_8_method_4_code
def yX6_liesOn : MethodName := ⟨RX6, "liesOn", "(I)Z"⟩
def RX7 : String := "BowlsGreen"
def TX7 : u_T := fun k => match k with
  | 0 => ("BowlsGreen", "green", "LBowlsGreen$Green;", true)
  | 1 => ("BowlsGreen", "saved", "LBowlsGreen$Green;", true)
  | 2 => ("BowlsGreen", "isSaved", "Z", false)
  | 3 => ("BowlsGreen", "past", "LBowlsGreen$Past;", true)
  | 4 => ("BowlsGreen", "input", "Ljava/lang/StringBuilder;", true)
  | 5 => ("BowlsGreen", "orders", "LBowlsGreen$Orders;", true)
  | 6 => ("BowlsGreen", "faultPosition", "I", false)
  | 7 => ("BowlsGreen", "reasons", "LBowlsGreen$Reasons;", true)
  | _ => ("BowlsGreen", "line", "Ljava/lang/StringBuilder;", true)
def tyX7 : Nat → FieldType := fun k => match k with
  | 0 => .object "BowlsGreen$Green"
  | 1 => .object "BowlsGreen$Green"
  | 2 => .boolean
  | 3 => .object "BowlsGreen$Past"
  | 4 => .object "java/lang/StringBuilder"
  | 5 => .object "BowlsGreen$Orders"
  | 6 => .int
  | 7 => .object "BowlsGreen$Reasons"
  | _ => .object "java/lang/StringBuilder"
abbrev wsX70 : List Cond := u_ws RX7 TX7 9
theorem nmX7 : ∀ a, a < 9 → ∀ b, b < 9 → a ≠ b → (TX7 a).2.1 ≠ (TX7 b).2.1 := by decide +kernel
theorem tyX7_ok : ∀ k, k < 9 → parseFieldDescriptor (TX7 k).2.2.1 = some (tyX7 k) := by decide +kernel
abbrev cX7_init : ByteArray := prog_1_method_1_code
def yX7_init : MethodName := ⟨RX7, "<init>", "()V"⟩
abbrev cX7_clear : ByteArray := prog_1_method_2_code
def yX7_clear : MethodName := ⟨RX7, "clear", "()I"⟩
abbrev cX7_append : ByteArray := prog_1_method_3_code
def yX7_append : MethodName := ⟨RX7, "append", "(C)I"⟩
abbrev cX7_rink : ByteArray := prog_1_method_4_code
def yX7_rink : MethodName := ⟨RX7, "rink", "(II)I"⟩
abbrev cX7_wood : ByteArray := prog_1_method_5_code
def yX7_wood : MethodName := ⟨RX7, "wood", "(II)I"⟩
abbrev cX7_begin : ByteArray := prog_1_method_6_code
def yX7_begin : MethodName := ⟨RX7, "begin", "(II)I"⟩
abbrev cX7_bowl : ByteArray := prog_1_method_7_code
def yX7_bowl : MethodName := ⟨RX7, "bowl", "(IIIIZ)I"⟩
abbrev cX7_close : ByteArray := prog_1_method_8_code
def yX7_close : MethodName := ⟨RX7, "close", "(I)I"⟩
abbrev cX7_sweep : ByteArray := prog_1_method_9_code
def yX7_sweep : MethodName := ⟨RX7, "sweep", "(I)I"⟩
abbrev cX7_rain : ByteArray := prog_1_method_10_code
def yX7_rain : MethodName := ⟨RX7, "rain", "(I)I"⟩
abbrev cX7_sun : ByteArray := prog_1_method_11_code
def yX7_sun : MethodName := ⟨RX7, "sun", "(I)I"⟩
abbrev cX7_brew : ByteArray := prog_1_method_12_code
def yX7_brew : MethodName := ⟨RX7, "brew", "(I)I"⟩
abbrev cX7_tea : ByteArray := prog_1_method_13_code
def yX7_tea : MethodName := ⟨RX7, "tea", "(I)I"⟩
abbrev cX7_hour : ByteArray := prog_1_method_14_code
def yX7_hour : MethodName := ⟨RX7, "hour", "(I)I"⟩
abbrev cX7_script : ByteArray := prog_1_method_15_code
def yX7_script : MethodName := ⟨RX7, "script", "()I"⟩
abbrev cX7_settle : ByteArray := prog_1_method_16_code
def yX7_settle : MethodName := ⟨RX7, "settle", "(I)I"⟩
abbrev cX7_isCode : ByteArray := prog_1_method_17_code
def yX7_isCode : MethodName := ⟨RX7, "isCode", "(I)Z"⟩
abbrev cX7_refuse : ByteArray := prog_1_method_18_code
def yX7_refuse : MethodName := ⟨RX7, "refuse", "(II)I"⟩
abbrev cX7_layRink : ByteArray := prog_1_method_19_code
def yX7_layRink : MethodName := ⟨RX7, "layRink", "(II)I"⟩
abbrev cX7_addWood : ByteArray := prog_1_method_20_code
def yX7_addWood : MethodName := ⟨RX7, "addWood", "(II)I"⟩
abbrev cX7_beginEnd : ByteArray := prog_1_method_21_code
def yX7_beginEnd : MethodName := ⟨RX7, "beginEnd", "(II)I"⟩
abbrev cX7_refuseWetRink : ByteArray := prog_1_method_22_code
def yX7_refuseWetRink : MethodName := ⟨RX7, "refuseWetRink", "(II)I"⟩
abbrev cX7_bowlWood : ByteArray := prog_1_method_23_code
def yX7_bowlWood : MethodName := ⟨RX7, "bowlWood", "(IIIIZ)I"⟩
abbrev cX7_isBowlRefused : ByteArray := prog_1_method_24_code
def yX7_isBowlRefused : MethodName := ⟨RX7, "isBowlRefused", "(II)Z"⟩
abbrev cX7_closeEnd : ByteArray := prog_1_method_25_code
def yX7_closeEnd : MethodName := ⟨RX7, "closeEnd", "(I)I"⟩
abbrev cX7_sweepRink : ByteArray := prog_1_method_26_code
def yX7_sweepRink : MethodName := ⟨RX7, "sweepRink", "(I)I"⟩
abbrev cX7_setRain : ByteArray := prog_1_method_27_code
def yX7_setRain : MethodName := ⟨RX7, "setRain", "(I)I"⟩
abbrev cX7_setSun : ByteArray := prog_1_method_28_code
def yX7_setSun : MethodName := ⟨RX7, "setSun", "(I)I"⟩
abbrev cX7_brewCups : ByteArray := prog_1_method_29_code
def yX7_brewCups : MethodName := ⟨RX7, "brewCups", "(I)I"⟩
abbrev cX7_giveTea : ByteArray := prog_1_method_30_code
def yX7_giveTea : MethodName := ⟨RX7, "giveTea", "(I)I"⟩
abbrev cX7_passHours : ByteArray := prog_1_method_31_code
def yX7_passHours : MethodName := ⟨RX7, "passHours", "(I)I"⟩
abbrev cX7_keepFault : ByteArray := prog_1_method_32_code
def yX7_keepFault : MethodName := ⟨RX7, "keepFault", "()I"⟩
abbrev cX7_carryOutOrders : ByteArray := prog_1_method_33_code
def yX7_carryOutOrders : MethodName := ⟨RX7, "carryOutOrders", "()I"⟩
abbrev cX7_carryOut : ByteArray := prog_1_method_34_code
def yX7_carryOut : MethodName := ⟨RX7, "carryOut", "(I)I"⟩
abbrev cX7_refuseScript : ByteArray := prog_1_method_35_code
def yX7_refuseScript : MethodName := ⟨RX7, "refuseScript", "(II)I"⟩
abbrev cX7_fault : ByteArray := prog_1_method_36_code
def yX7_fault : MethodName := ⟨RX7, "fault", "()I"⟩
abbrev cX7_reason : ByteArray := prog_1_method_37_code
def yX7_reason : MethodName := ⟨RX7, "reason", "(IZ)I"⟩
abbrev cX7_rinkOf : ByteArray := prog_1_method_38_code
def yX7_rinkOf : MethodName := ⟨RX7, "rinkOf", "(II)I"⟩
abbrev cX7_woodOf : ByteArray := prog_1_method_39_code
def yX7_woodOf : MethodName := ⟨RX7, "woodOf", "(II)I"⟩
abbrev cX7_clubOf : ByteArray := prog_1_method_40_code
def yX7_clubOf : MethodName := ⟨RX7, "clubOf", "(II)I"⟩
abbrev cX7_rinkAt : ByteArray := prog_1_method_41_code
def yX7_rinkAt : MethodName := ⟨RX7, "rinkAt", "(I)I"⟩
abbrev cX7_nearest : ByteArray := prog_1_method_42_code
def yX7_nearest : MethodName := ⟨RX7, "nearest", "(II)I"⟩
abbrev cX7_shots : ByteArray := prog_1_method_43_code
def yX7_shots : MethodName := ⟨RX7, "shots", "(IZ)I"⟩
abbrev cX7_would : ByteArray := prog_1_method_44_code
def yX7_would : MethodName := ⟨RX7, "would", "(IIIIZ)I"⟩
abbrev cX7_bestStrength : ByteArray := prog_1_method_45_code
def yX7_bestStrength : MethodName := ⟨RX7, "bestStrength", "(IIIZ)I"⟩
abbrev cX7_wetIn : ByteArray := prog_1_method_46_code
def yX7_wetIn : MethodName := ⟨RX7, "wetIn", "(II)I"⟩
abbrev cX7_castsIn : ByteArray := prog_1_method_47_code
def yX7_castsIn : MethodName := ⟨RX7, "castsIn", "(II)I"⟩
abbrev cX7_dryIn : ByteArray := prog_1_method_48_code
def yX7_dryIn : MethodName := ⟨RX7, "dryIn", "(I)I"⟩
abbrev cX7_leader : ByteArray := prog_1_method_49_code
def yX7_leader : MethodName := ⟨RX7, "leader", "()I"⟩
abbrev cX7_describe : ByteArray := prog_1_method_50_code
def yX7_describe : MethodName := ⟨RX7, "describe", "(I)I"⟩
abbrev cX7_writeWood : ByteArray := prog_1_method_51_code
def yX7_writeWood : MethodName := ⟨RX7, "writeWood", "(I)V"⟩
abbrev cX7_written : ByteArray := prog_1_method_52_code
def yX7_written : MethodName := ⟨RX7, "written", "(I)I"⟩
abbrev cX7_meanWet : ByteArray := prog_1_method_53_code
def yX7_meanWet : MethodName := ⟨RX7, "meanWet", "()F"⟩
abbrev cX7_winShare : ByteArray := prog_1_method_54_code
def yX7_winShare : MethodName := ⟨RX7, "winShare", "()D"⟩
abbrev cX7_account : ByteArray := prog_1_method_55_code
def yX7_account : MethodName := ⟨RX7, "account", "(I)I"⟩
abbrev cX7_undo : ByteArray := prog_1_method_56_code
def yX7_undo : MethodName := ⟨RX7, "undo", "()I"⟩
abbrev cX7_save : ByteArray := prog_1_method_57_code
def yX7_save : MethodName := ⟨RX7, "save", "()I"⟩
abbrev cX7_restore : ByteArray := prog_1_method_58_code
def yX7_restore : MethodName := ⟨RX7, "restore", "()I"⟩
abbrev cX7_isClub : ByteArray := prog_1_method_59_code
def yX7_isClub : MethodName := ⟨RX7, "isClub", "(I)Z"⟩
abbrev cX7_otherClub : ByteArray := prog_1_method_60_code
def yX7_otherClub : MethodName := ⟨RX7, "otherClub", "(I)I"⟩
abbrev cX7_isStrength : ByteArray := prog_1_method_61_code
def yX7_isStrength : MethodName := ⟨RX7, "isStrength", "(I)Z"⟩
abbrev cX7_isWeather : ByteArray := prog_1_method_62_code
def yX7_isWeather : MethodName := ⟨RX7, "isWeather", "(I)Z"⟩
def RX8 : String := "BowlsGreenModel"
def TX8 : u_T := fun k => match k with
  | 0 => ("BowlsGreenModel", "now", "[I", true)
  | 1 => ("BowlsGreenModel", "tried", "[I", true)
  | 2 => ("BowlsGreenModel", "kept", "[I", true)
  | 3 => ("BowlsGreenModel", "undos", "I", false)
  | 4 => ("BowlsGreenModel", "saved", "[I", true)
  | 5 => ("BowlsGreenModel", "isSaved", "Z", false)
  | 6 => ("BowlsGreenModel", "line", "[I", true)
  | 7 => ("BowlsGreenModel", "lined", "I", false)
  | 8 => ("BowlsGreenModel", "text", "[C", true)
  | 9 => ("BowlsGreenModel", "length", "I", false)
  | 10 => ("BowlsGreenModel", "at", "I", false)
  | 11 => ("BowlsGreenModel", "order", "C", false)
  | 12 => ("BowlsGreenModel", "told", "[I", true)
  | 13 => ("BowlsGreenModel", "isRight", "Z", false)
  | 14 => ("BowlsGreenModel", "fault", "I", false)
  | 15 => ("BowlsGreenModel", "reasons", "[I", true)
  | 16 => ("BowlsGreenModel", "depth", "I", false)
  | _ => ("BowlsGreenModel", "answer", "I", false)
def tyX8 : Nat → FieldType := fun k => match k with
  | 0 => .array .int
  | 1 => .array .int
  | 2 => .array .int
  | 3 => .int
  | 4 => .array .int
  | 5 => .boolean
  | 6 => .array .int
  | 7 => .int
  | 8 => .array .char
  | 9 => .int
  | 10 => .int
  | 11 => .char
  | 12 => .array .int
  | 13 => .boolean
  | 14 => .int
  | 15 => .array .int
  | 16 => .int
  | _ => .int
abbrev wsX80 : List Cond := u_ws RX8 TX8 18
theorem nmX8 : ∀ a, a < 18 → ∀ b, b < 18 → a ≠ b → (TX8 a).2.1 ≠ (TX8 b).2.1 := by decide +kernel
theorem tyX8_ok : ∀ k, k < 18 → parseFieldDescriptor (TX8 k).2.2.1 = some (tyX8 k) := by decide +kernel
abbrev cX8_init : ByteArray := prog_10_method_1_code
def yX8_init : MethodName := ⟨RX8, "<init>", "()V"⟩
abbrev cX8_begins : ByteArray := prog_10_method_2_code
def yX8_begins : MethodName := ⟨RX8, "begins", "()V"⟩
abbrev cX8_in : ByteArray := prog_10_method_3_code
def yX8_in : MethodName := ⟨RX8, "in", "(III)Z"⟩
abbrev cX8_tries : ByteArray := prog_10_method_4_code
def yX8_tries : MethodName := ⟨RX8, "tries", "()V"⟩
abbrev cX8_comesBack : ByteArray := prog_10_method_5_code
def yX8_comesBack : MethodName := ⟨RX8, "comesBack", "()V"⟩
abbrev cX8_keeps : ByteArray := prog_10_method_6_code
def yX8_keeps : MethodName := ⟨RX8, "keeps", "(I)I"⟩
abbrev cX8_refuses : ByteArray := prog_10_method_7_code
def yX8_refuses : MethodName := ⟨RX8, "refuses", "(II)I"⟩
abbrev cX8_refusesBy : ByteArray := prog_10_method_8_code
def yX8_refusesBy : MethodName := ⟨RX8, "refusesBy", "(II)I"⟩
abbrev cX8_does : ByteArray := prog_10_method_9_code
def yX8_does : MethodName := ⟨RX8, "does", "(I)I"⟩
abbrev cX8_ends : ByteArray := prog_10_method_10_code
def yX8_ends : MethodName := ⟨RX8, "ends", "(I)I"⟩
abbrev cX8_isRink : ByteArray := prog_10_method_11_code
def yX8_isRink : MethodName := ⟨RX8, "isRink", "(I)Z"⟩
abbrev cX8_isWood : ByteArray := prog_10_method_12_code
def yX8_isWood : MethodName := ⟨RX8, "isWood", "(I)Z"⟩
abbrev cX8_ofRink : ByteArray := prog_10_method_13_code
def yX8_ofRink : MethodName := ⟨RX8, "ofRink", "(II)I"⟩
abbrev cX8_setsRink : ByteArray := prog_10_method_14_code
def yX8_setsRink : MethodName := ⟨RX8, "setsRink", "(III)V"⟩
abbrev cX8_ofWood : ByteArray := prog_10_method_15_code
def yX8_ofWood : MethodName := ⟨RX8, "ofWood", "(II)I"⟩
abbrev cX8_setsWood : ByteArray := prog_10_method_16_code
def yX8_setsWood : MethodName := ⟨RX8, "setsWood", "(III)V"⟩
abbrev cX8_clear : ByteArray := prog_10_method_17_code
def yX8_clear : MethodName := ⟨RX8, "clear", "()I"⟩
abbrev cX8_append : ByteArray := prog_10_method_18_code
def yX8_append : MethodName := ⟨RX8, "append", "(C)I"⟩
abbrev cX8_rink : ByteArray := prog_10_method_19_code
def yX8_rink : MethodName := ⟨RX8, "rink", "(II)I"⟩
abbrev cX8_wood : ByteArray := prog_10_method_20_code
def yX8_wood : MethodName := ⟨RX8, "wood", "(II)I"⟩
abbrev cX8_changed : ByteArray := prog_10_method_21_code
def yX8_changed : MethodName := ⟨RX8, "changed", "(I)I"⟩
abbrev cX8_hoursToDry : ByteArray := prog_10_method_22_code
def yX8_hoursToDry : MethodName := ⟨RX8, "hoursToDry", "(I)I"⟩
abbrev cX8_starts : ByteArray := prog_10_method_23_code
def yX8_starts : MethodName := ⟨RX8, "starts", "(II)I"⟩
abbrev cX8_begin : ByteArray := prog_10_method_24_code
def yX8_begin : MethodName := ⟨RX8, "begin", "(II)I"⟩
abbrev cX8_isTaken : ByteArray := prog_10_method_25_code
def yX8_isTaken : MethodName := ⟨RX8, "isTaken", "(IIII)Z"⟩
abbrev cX8_columnOf : ByteArray := prog_10_method_26_code
def yX8_columnOf : MethodName := ⟨RX8, "columnOf", "(IIIZ)I"⟩
abbrev cX8_lengthOf : ByteArray := prog_10_method_27_code
def yX8_lengthOf : MethodName := ⟨RX8, "lengthOf", "(IIII)I"⟩
abbrev cX8_square : ByteArray := prog_10_method_28_code
def yX8_square : MethodName := ⟨RX8, "square", "(III)I"⟩
abbrev cX8_distance : ByteArray := prog_10_method_29_code
def yX8_distance : MethodName := ⟨RX8, "distance", "(I)I"⟩
abbrev cX8_isBad : ByteArray := prog_10_method_30_code
def yX8_isBad : MethodName := ⟨RX8, "isBad", "(II)Z"⟩
abbrev cX8_bowls : ByteArray := prog_10_method_31_code
def yX8_bowls : MethodName := ⟨RX8, "bowls", "(IIIIZ)I"⟩
abbrev cX8_bowl : ByteArray := prog_10_method_32_code
def yX8_bowl : MethodName := ⟨RX8, "bowl", "(IIIIZ)I"⟩
abbrev cX8_liesOn : ByteArray := prog_10_method_33_code
def yX8_liesOn : MethodName := ⟨RX8, "liesOn", "(II)Z"⟩
abbrev cX8_least : ByteArray := prog_10_method_34_code
def yX8_least : MethodName := ⟨RX8, "least", "(II)I"⟩
abbrev cX8_counted : ByteArray := prog_10_method_35_code
def yX8_counted : MethodName := ⟨RX8, "counted", "(I)I"⟩
abbrev cX8_closes : ByteArray := prog_10_method_36_code
def yX8_closes : MethodName := ⟨RX8, "closes", "(I)I"⟩
abbrev cX8_close : ByteArray := prog_10_method_37_code
def yX8_close : MethodName := ⟨RX8, "close", "(I)I"⟩
abbrev cX8_sweeps : ByteArray := prog_10_method_38_code
def yX8_sweeps : MethodName := ⟨RX8, "sweeps", "(I)I"⟩
abbrev cX8_sweep : ByteArray := prog_10_method_39_code
def yX8_sweep : MethodName := ⟨RX8, "sweep", "(I)I"⟩
abbrev cX8_sets : ByteArray := prog_10_method_40_code
def yX8_sets : MethodName := ⟨RX8, "sets", "(II)I"⟩
abbrev cX8_rain : ByteArray := prog_10_method_41_code
def yX8_rain : MethodName := ⟨RX8, "rain", "(I)I"⟩
abbrev cX8_sun : ByteArray := prog_10_method_42_code
def yX8_sun : MethodName := ⟨RX8, "sun", "(I)I"⟩
abbrev cX8_brew : ByteArray := prog_10_method_43_code
def yX8_brew : MethodName := ⟨RX8, "brew", "(I)I"⟩
abbrev cX8_drinks : ByteArray := prog_10_method_44_code
def yX8_drinks : MethodName := ⟨RX8, "drinks", "(I)I"⟩
abbrev cX8_tea : ByteArray := prog_10_method_45_code
def yX8_tea : MethodName := ⟨RX8, "tea", "(I)I"⟩
abbrev cX8_allCasts : ByteArray := prog_10_method_46_code
def yX8_allCasts : MethodName := ⟨RX8, "allCasts", "()I"⟩
abbrev cX8_castsAfter : ByteArray := prog_10_method_47_code
def yX8_castsAfter : MethodName := ⟨RX8, "castsAfter", "(III)I"⟩
abbrev cX8_passes : ByteArray := prog_10_method_48_code
def yX8_passes : MethodName := ⟨RX8, "passes", "(I)I"⟩
abbrev cX8_hour : ByteArray := prog_10_method_49_code
def yX8_hour : MethodName := ⟨RX8, "hour", "(I)I"⟩
abbrev cX8_isNext : ByteArray := prog_10_method_50_code
def yX8_isNext : MethodName := ⟨RX8, "isNext", "(C)Z"⟩
abbrev cX8_digits : ByteArray := prog_10_method_51_code
def yX8_digits : MethodName := ⟨RX8, "digits", "(II)Z"⟩
abbrev cX8_side : ByteArray := prog_10_method_52_code
def yX8_side : MethodName := ⟨RX8, "side", "()Z"⟩
abbrev cX8_isOrder : ByteArray := prog_10_method_53_code
def yX8_isOrder : MethodName := ⟨RX8, "isOrder", "()Z"⟩
abbrev cX8_carries : ByteArray := prog_10_method_54_code
def yX8_carries : MethodName := ⟨RX8, "carries", "()I"⟩
abbrev cX8_script : ByteArray := prog_10_method_55_code
def yX8_script : MethodName := ⟨RX8, "script", "()I"⟩
abbrev cX8_fault : ByteArray := prog_10_method_56_code
def yX8_fault : MethodName := ⟨RX8, "fault", "()I"⟩
abbrev cX8_reason : ByteArray := prog_10_method_57_code
def yX8_reason : MethodName := ⟨RX8, "reason", "(IZ)I"⟩
abbrev cX8_countOn : ByteArray := prog_10_method_58_code
def yX8_countOn : MethodName := ⟨RX8, "countOn", "(II)I"⟩
abbrev cX8_rinkOf : ByteArray := prog_10_method_59_code
def yX8_rinkOf : MethodName := ⟨RX8, "rinkOf", "(II)I"⟩
abbrev cX8_woodOf : ByteArray := prog_10_method_60_code
def yX8_woodOf : MethodName := ⟨RX8, "woodOf", "(II)I"⟩
abbrev cX8_woodsOf : ByteArray := prog_10_method_61_code
def yX8_woodsOf : MethodName := ⟨RX8, "woodsOf", "(IZ)I"⟩
abbrev cX8_clubOf : ByteArray := prog_10_method_62_code
def yX8_clubOf : MethodName := ⟨RX8, "clubOf", "(II)I"⟩
abbrev cX8_rinkAt : ByteArray := prog_10_method_63_code
def yX8_rinkAt : MethodName := ⟨RX8, "rinkAt", "(I)I"⟩
abbrev cX8_atPlace : ByteArray := prog_10_method_64_code
def yX8_atPlace : MethodName := ⟨RX8, "atPlace", "(II)I"⟩
abbrev cX8_nearest : ByteArray := prog_10_method_65_code
def yX8_nearest : MethodName := ⟨RX8, "nearest", "(II)I"⟩
abbrev cX8_shots : ByteArray := prog_10_method_66_code
def yX8_shots : MethodName := ⟨RX8, "shots", "(IZ)I"⟩
abbrev cX8_would : ByteArray := prog_10_method_67_code
def yX8_would : MethodName := ⟨RX8, "would", "(IIIIZ)I"⟩
abbrev cX8_bestStrength : ByteArray := prog_10_method_68_code
def yX8_bestStrength : MethodName := ⟨RX8, "bestStrength", "(IIIZ)I"⟩
abbrev cX8_ahead : ByteArray := prog_10_method_69_code
def yX8_ahead : MethodName := ⟨RX8, "ahead", "(IIZ)I"⟩
abbrev cX8_wetIn : ByteArray := prog_10_method_70_code
def yX8_wetIn : MethodName := ⟨RX8, "wetIn", "(II)I"⟩
abbrev cX8_castsIn : ByteArray := prog_10_method_71_code
def yX8_castsIn : MethodName := ⟨RX8, "castsIn", "(II)I"⟩
abbrev cX8_dryIn : ByteArray := prog_10_method_72_code
def yX8_dryIn : MethodName := ⟨RX8, "dryIn", "(I)I"⟩
abbrev cX8_leader : ByteArray := prog_10_method_73_code
def yX8_leader : MethodName := ⟨RX8, "leader", "()I"⟩
abbrev cX8_writes : ByteArray := prog_10_method_74_code
def yX8_writes : MethodName := ⟨RX8, "writes", "(Ljava/lang/String;)V"⟩
abbrev cX8_writesNumber : ByteArray := prog_10_method_75_code
def yX8_writesNumber : MethodName := ⟨RX8, "writesNumber", "(I)V"⟩
abbrev cX8_describe : ByteArray := prog_10_method_76_code
def yX8_describe : MethodName := ⟨RX8, "describe", "(I)I"⟩
abbrev cX8_written : ByteArray := prog_10_method_77_code
def yX8_written : MethodName := ⟨RX8, "written", "(I)I"⟩
abbrev cX8_meanWet : ByteArray := prog_10_method_78_code
def yX8_meanWet : MethodName := ⟨RX8, "meanWet", "()F"⟩
abbrev cX8_closed : ByteArray := prog_10_method_79_code
def yX8_closed : MethodName := ⟨RX8, "closed", "()I"⟩
abbrev cX8_winShare : ByteArray := prog_10_method_80_code
def yX8_winShare : MethodName := ⟨RX8, "winShare", "()D"⟩
abbrev cX8_account : ByteArray := prog_10_method_81_code
def yX8_account : MethodName := ⟨RX8, "account", "(I)I"⟩
abbrev cX8_undo : ByteArray := prog_10_method_82_code
def yX8_undo : MethodName := ⟨RX8, "undo", "()I"⟩
abbrev cX8_save : ByteArray := prog_10_method_83_code
def yX8_save : MethodName := ⟨RX8, "save", "()I"⟩
abbrev cX8_restore : ByteArray := prog_10_method_84_code
def yX8_restore : MethodName := ⟨RX8, "restore", "()I"⟩
def RJ5 : String := "java/lang/AbstractStringBuilder"
def TJ5 : u_T := fun k => match k with
  | _ => ("", "", "", false)
def tyJ5 : Nat → FieldType := fun k => match k with
  | _ => .int
abbrev wsJ50 : List Cond := u_ws RJ5 TJ5 0
theorem nmJ5 : ∀ a, a < 0 → ∀ b, b < 0 → a ≠ b → (TJ5 a).2.1 ≠ (TJ5 b).2.1 := by decide +kernel
theorem tyJ5_ok : ∀ k, k < 0 → parseFieldDescriptor (TJ5 k).2.2.1 = some (tyJ5 k) := by decide +kernel
abbrev cJ5_init_d00df : ByteArray := prog_11_method_2_code
def yJ5_init_d00df : MethodName := ⟨RJ5, "<init>", "(I)V"⟩
abbrev cJ5_length_8abf5 : ByteArray := prog_11_method_6_code
def yJ5_length_8abf5 : MethodName := ⟨RJ5, "length", "()I"⟩
abbrev cJ5_ensureCapacityInternal_d00df : ByteArray := prog_11_method_9_code
def yJ5_ensureCapacityInternal_d00df : MethodName := ⟨RJ5, "ensureCapacityInternal", "(I)V"⟩
abbrev cJ5_newCapacity_0f7a4 : ByteArray := prog_11_method_10_code
def yJ5_newCapacity_0f7a4 : MethodName := ⟨RJ5, "newCapacity", "(I)I"⟩
abbrev cJ5_inflate_da8c8 : ByteArray := prog_11_method_11_code
def yJ5_inflate_da8c8 : MethodName := ⟨RJ5, "inflate", "()V"⟩
abbrev cJ5_setLength_d00df : ByteArray := prog_11_method_13_code
def yJ5_setLength_d00df : MethodName := ⟨RJ5, "setLength", "(I)V"⟩
abbrev cJ5_charAt_5068e : ByteArray := prog_11_method_14_code
def yJ5_charAt_5068e : MethodName := ⟨RJ5, "charAt", "(I)C"⟩
abbrev cJ5_append_cf1ce : ByteArray := prog_11_method_22_code
def yJ5_append_cf1ce : MethodName := ⟨RJ5, "append", "(Ljava/lang/String;)Ljava/lang/AbstractStringBuilder;"⟩
abbrev cJ5_appendNull_278bc : ByteArray := prog_11_method_26_code
def yJ5_appendNull_278bc : MethodName := ⟨RJ5, "appendNull", "()Ljava/lang/AbstractStringBuilder;"⟩
abbrev cJ5_append_3fe6f : ByteArray := prog_11_method_31_code
def yJ5_append_3fe6f : MethodName := ⟨RJ5, "append", "(C)Ljava/lang/AbstractStringBuilder;"⟩
abbrev cJ5_append_c97b9 : ByteArray := prog_11_method_32_code
def yJ5_append_c97b9 : MethodName := ⟨RJ5, "append", "(I)Ljava/lang/AbstractStringBuilder;"⟩
abbrev cJ5_isLatin1_aae02 : ByteArray := prog_11_method_68_code
def yJ5_isLatin1_aae02 : MethodName := ⟨RJ5, "isLatin1", "()Z"⟩
abbrev cJ5_inflateIfNeededFor_a7421 : ByteArray := prog_11_method_71_code
def yJ5_inflateIfNeededFor_a7421 : MethodName := ⟨RJ5, "inflateIfNeededFor", "(Ljava/lang/String;)V"⟩
abbrev cJ5_putStringAt_47b60 : ByteArray := prog_11_method_73_code
def yJ5_putStringAt_47b60 : MethodName := ⟨RJ5, "putStringAt", "(ILjava/lang/String;)V"⟩
def RJx8e188 : String := "java/lang/Cloneable"
def TJx8e188 : u_T := fun k => match k with
  | _ => ("", "", "", false)
def tyJx8e188 : Nat → FieldType := fun k => match k with
  | _ => .int
abbrev wsJx8e1880 : List Cond := u_ws RJx8e188 TJx8e188 0
theorem nmJx8e188 : ∀ a, a < 0 → ∀ b, b < 0 → a ≠ b → (TJx8e188 a).2.1 ≠ (TJx8e188 b).2.1 := by decide +kernel
theorem tyJx8e188_ok : ∀ k, k < 0 → parseFieldDescriptor (TJx8e188 k).2.2.1 = some (tyJx8e188 k) := by decide +kernel
def RJ6 : String := "java/lang/Integer"
def TJ6 : u_T := fun k => match k with
  | _ => ("", "", "", false)
def tyJ6 : Nat → FieldType := fun k => match k with
  | _ => .int
abbrev wsJ60 : List Cond := u_ws RJ6 TJ6 0
theorem nmJ6 : ∀ a, a < 0 → ∀ b, b < 0 → a ≠ b → (TJ6 a).2.1 ≠ (TJ6 b).2.1 := by decide +kernel
theorem tyJ6_ok : ∀ k, k < 0 → parseFieldDescriptor (TJ6 k).2.2.1 = some (tyJ6 k) := by decide +kernel
abbrev cJ6_getChars_ba4f3 : ByteArray := prog_13_method_12_code
def yJ6_getChars_ba4f3 : MethodName := ⟨RJ6, "getChars", "(II[B)I"⟩
abbrev cJ6_stringSize_0f7a4 : ByteArray := prog_13_method_13_code
def yJ6_stringSize_0f7a4 : MethodName := ⟨RJ6, "stringSize", "(I)I"⟩
def RJ9 : String := "java/lang/Math"
def TJ9 : u_T := fun k => match k with
  | _ => ("", "", "", false)
def tyJ9 : Nat → FieldType := fun k => match k with
  | _ => .int
abbrev wsJ90 : List Cond := u_ws RJ9 TJ9 0
theorem nmJ9 : ∀ a, a < 0 → ∀ b, b < 0 → a ≠ b → (TJ9 a).2.1 ≠ (TJ9 b).2.1 := by decide +kernel
theorem tyJ9_ok : ∀ k, k < 0 → parseFieldDescriptor (TJ9 k).2.2.1 = some (tyJ9 k) := by decide +kernel
abbrev cJ9_max_7cf53 : ByteArray := prog_14_method_65_code
def yJ9_max_7cf53 : MethodName := ⟨RJ9, "max", "(II)I"⟩
abbrev cJ9_min_7cf53 : ByteArray := prog_14_method_69_code
def yJ9_min_7cf53 : MethodName := ⟨RJ9, "min", "(II)I"⟩
def RJ0 : String := "java/lang/String"
def TJ0 : u_T := fun k => match k with
  | _ => ("", "", "", false)
def tyJ0 : Nat → FieldType := fun k => match k with
  | _ => .int
abbrev wsJ00 : List Cond := u_ws RJ0 TJ0 0
theorem nmJ0 : ∀ a, a < 0 → ∀ b, b < 0 → a ≠ b → (TJ0 a).2.1 ≠ (TJ0 b).2.1 := by decide +kernel
theorem tyJ0_ok : ∀ k, k < 0 → parseFieldDescriptor (TJ0 k).2.2.1 = some (tyJ0 k) := by decide +kernel
abbrev cJ0_length_8abf5 : ByteArray := prog_15_method_54_code
def yJ0_length_8abf5 : MethodName := ⟨RJ0, "length", "()I"⟩
abbrev cJ0_isEmpty_aae02 : ByteArray := prog_15_method_55_code
def yJ0_isEmpty_aae02 : MethodName := ⟨RJ0, "isEmpty", "()Z"⟩
abbrev cJ0_charAt_5068e : ByteArray := prog_15_method_56_code
def yJ0_charAt_5068e : MethodName := ⟨RJ0, "charAt", "(I)C"⟩
abbrev cJ0_getBytes_840e7 : ByteArray := prog_15_method_147_code
def yJ0_getBytes_840e7 : MethodName := ⟨RJ0, "getBytes", "([BIB)V"⟩
abbrev cJ0_coder_7d493 : ByteArray := prog_15_method_152_code
def yJ0_coder_7d493 : MethodName := ⟨RJ0, "coder", "()B"⟩
abbrev cJ0_isLatin1_aae02 : ByteArray := prog_15_method_154_code
def yJ0_isLatin1_aae02 : MethodName := ⟨RJ0, "isLatin1", "()Z"⟩
abbrev cJ0_checkIndex_df160 : ByteArray := prog_15_method_155_code
def yJ0_checkIndex_df160 : MethodName := ⟨RJ0, "checkIndex", "(II)V"⟩
abbrev cJ0_checkBoundsOffCount_cabcc : ByteArray := prog_15_method_157_code
def yJ0_checkBoundsOffCount_cabcc : MethodName := ⟨RJ0, "checkBoundsOffCount", "(III)I"⟩
abbrev cJ0_checkBoundsBeginEnd_23922 : ByteArray := prog_15_method_158_code
def yJ0_checkBoundsBeginEnd_23922 : MethodName := ⟨RJ0, "checkBoundsBeginEnd", "(III)V"⟩
def RJ4 : String := "java/lang/StringBuilder"
def TJ4 : u_T := fun k => match k with
  | 0 => ("java/lang/AbstractStringBuilder", "value", "[B", false)
  | 1 => ("java/lang/AbstractStringBuilder", "coder", "B", false)
  | 2 => ("java/lang/AbstractStringBuilder", "maybeLatin1", "Z", false)
  | _ => ("java/lang/AbstractStringBuilder", "count", "I", false)
def tyJ4 : Nat → FieldType := fun k => match k with
  | 0 => .array .byte
  | 1 => .byte
  | 2 => .boolean
  | _ => .int
abbrev wsJ40 : List Cond := u_ws RJ4 TJ4 4
theorem nmJ4 : ∀ a, a < 4 → ∀ b, b < 4 → a ≠ b → (TJ4 a).2.1 ≠ (TJ4 b).2.1 := by decide +kernel
theorem tyJ4_ok : ∀ k, k < 4 → parseFieldDescriptor (TJ4 k).2.2.1 = some (tyJ4 k) := by decide +kernel
abbrev cJ4_init_da8c8 : ByteArray := prog_16_method_1_code
def yJ4_init_da8c8 : MethodName := ⟨RJ4, "<init>", "()V"⟩
abbrev cJ4_append_15ec4 : ByteArray := prog_16_method_7_code
def yJ4_append_15ec4 : MethodName := ⟨RJ4, "append", "(Ljava/lang/String;)Ljava/lang/StringBuilder;"⟩
abbrev cJ4_append_cf468 : ByteArray := prog_16_method_14_code
def yJ4_append_cf468 : MethodName := ⟨RJ4, "append", "(C)Ljava/lang/StringBuilder;"⟩
abbrev cJ4_append_bf812 : ByteArray := prog_16_method_15_code
def yJ4_append_bf812 : MethodName := ⟨RJ4, "append", "(I)Ljava/lang/StringBuilder;"⟩
abbrev cJ4_charAt_5068e : ByteArray := prog_16_method_88_code
def yJ4_charAt_5068e : MethodName := ⟨RJ4, "charAt", "(I)C"⟩
abbrev cJ4_setLength_d00df : ByteArray := prog_16_method_89_code
def yJ4_setLength_d00df : MethodName := ⟨RJ4, "setLength", "(I)V"⟩
abbrev cJ4_length_8abf5 : ByteArray := prog_16_method_93_code
def yJ4_length_8abf5 : MethodName := ⟨RJ4, "length", "()I"⟩
def RJ1 : String := "java/lang/StringLatin1"
def TJ1 : u_T := fun k => match k with
  | _ => ("", "", "", false)
def tyJ1 : Nat → FieldType := fun k => match k with
  | _ => .int
abbrev wsJ10 : List Cond := u_ws RJ1 TJ1 0
theorem nmJ1 : ∀ a, a < 0 → ∀ b, b < 0 → a ≠ b → (TJ1 a).2.1 ≠ (TJ1 b).2.1 := by decide +kernel
theorem tyJ1_ok : ∀ k, k < 0 → parseFieldDescriptor (TJ1 k).2.2.1 = some (tyJ1 k) := by decide +kernel
abbrev cJ1_charAt_3b067 : ByteArray := prog_17_method_2_code
def yJ1_charAt_3b067 : MethodName := ⟨RJ1, "charAt", "([BI)C"⟩
abbrev cJ1_canEncode_fc78d : ByteArray := prog_17_method_3_code
def yJ1_canEncode_fc78d : MethodName := ⟨RJ1, "canEncode", "(C)Z"⟩
abbrev cJ1_fillNull_b72d1 : ByteArray := prog_17_method_48_code
def yJ1_fillNull_b72d1 : MethodName := ⟨RJ1, "fillNull", "([BII)V"⟩
abbrev cJ1_inflate_0e8fd : ByteArray := prog_17_method_50_code
def yJ1_inflate_0e8fd : MethodName := ⟨RJ1, "inflate", "([BI[BII)V"⟩
def RJ2 : String := "java/lang/StringUTF16"
def TJ2 : u_T := fun k => match k with
  | _ => ("", "", "", false)
def tyJ2 : Nat → FieldType := fun k => match k with
  | _ => .int
abbrev wsJ20 : List Cond := u_ws RJ2 TJ2 0
theorem nmJ2 : ∀ a, a < 0 → ∀ b, b < 0 → a ≠ b → (TJ2 a).2.1 ≠ (TJ2 b).2.1 := by decide +kernel
theorem tyJ2_ok : ∀ k, k < 0 → parseFieldDescriptor (TJ2 k).2.2.1 = some (tyJ2 k) := by decide +kernel
abbrev cJ2_newBytesFor_77867 : ByteArray := prog_18_method_2_code
def yJ2_newBytesFor_77867 : MethodName := ⟨RJ2, "newBytesFor", "(I)[B"⟩
abbrev cJ2_newBytesLength_0f7a4 : ByteArray := prog_18_method_3_code
def yJ2_newBytesLength_0f7a4 : MethodName := ⟨RJ2, "newBytesLength", "(I)I"⟩
abbrev cJ2_putChar_b72d1 : ByteArray := prog_18_method_4_code
def yJ2_putChar_b72d1 : MethodName := ⟨RJ2, "putChar", "([BII)V"⟩
abbrev cJ2_getChar_3b067 : ByteArray := prog_18_method_5_code
def yJ2_getChar_3b067 : MethodName := ⟨RJ2, "getChar", "([BI)C"⟩
abbrev cJ2_length_9d52b : ByteArray := prog_18_method_6_code
def yJ2_length_9d52b : MethodName := ⟨RJ2, "length", "([B)I"⟩
abbrev cJ2_fillNull_b72d1 : ByteArray := prog_18_method_70_code
def yJ2_fillNull_b72d1 : MethodName := ⟨RJ2, "fillNull", "([BII)V"⟩
abbrev cJ2_putCharSB_b72d1 : ByteArray := prog_18_method_71_code
def yJ2_putCharSB_b72d1 : MethodName := ⟨RJ2, "putCharSB", "([BII)V"⟩
abbrev cJ2_getChars_46870 : ByteArray := prog_18_method_77_code
def yJ2_getChars_46870 : MethodName := ⟨RJ2, "getChars", "(III[B)I"⟩
abbrev cJ2_putCharsAt_cd4e5 : ByteArray := prog_18_method_81_code
def yJ2_putCharsAt_cd4e5 : MethodName := ⟨RJ2, "putCharsAt", "([BICCCC)I"⟩
abbrev cJ2_charAt_3b067 : ByteArray := prog_18_method_83_code
def yJ2_charAt_3b067 : MethodName := ⟨RJ2, "charAt", "([BI)C"⟩
abbrev cJ2_inflate_0e8fd : ByteArray := prog_18_method_86_code
def yJ2_inflate_0e8fd : MethodName := ⟨RJ2, "inflate", "([BI[BII)V"⟩
abbrev cJ2_getChars_ba4f3 : ByteArray := prog_18_method_89_code
def yJ2_getChars_ba4f3 : MethodName := ⟨RJ2, "getChars", "(II[B)I"⟩
abbrev cJ2_checkIndex_2214a : ByteArray := prog_18_method_91_code
def yJ2_checkIndex_2214a : MethodName := ⟨RJ2, "checkIndex", "(I[B)V"⟩
abbrev cJ2_checkBoundsBeginEnd_d044e : ByteArray := prog_18_method_93_code
def yJ2_checkBoundsBeginEnd_d044e : MethodName := ⟨RJ2, "checkBoundsBeginEnd", "(II[B)V"⟩
abbrev cJ2_checkBoundsOffCount_d044e : ByteArray := prog_18_method_94_code
def yJ2_checkBoundsOffCount_d044e : MethodName := ⟨RJ2, "checkBoundsOffCount", "(II[B)V"⟩
def RJ10 : String := "java/lang/System"
def TJ10 : u_T := fun k => match k with
  | _ => ("", "", "", false)
def tyJ10 : Nat → FieldType := fun k => match k with
  | _ => .int
abbrev wsJ100 : List Cond := u_ws RJ10 TJ10 0
theorem nmJ10 : ∀ a, a < 0 → ∀ b, b < 0 → a ≠ b → (TJ10 a).2.1 ≠ (TJ10 b).2.1 := by decide +kernel
theorem tyJ10_ok : ∀ k, k < 0 → parseFieldDescriptor (TJ10 k).2.2.1 = some (tyJ10 k) := by decide +kernel
def RJ7 : String := "java/util/Arrays"
def TJ7 : u_T := fun k => match k with
  | _ => ("", "", "", false)
def tyJ7 : Nat → FieldType := fun k => match k with
  | _ => .int
abbrev wsJ70 : List Cond := u_ws RJ7 TJ7 0
theorem nmJ7 : ∀ a, a < 0 → ∀ b, b < 0 → a ≠ b → (TJ7 a).2.1 ≠ (TJ7 b).2.1 := by decide +kernel
theorem tyJ7_ok : ∀ k, k < 0 → parseFieldDescriptor (TJ7 k).2.2.1 = some (tyJ7 k) := by decide +kernel
abbrev cJ7_rangeCheck_23922 : ByteArray := prog_20_method_30_code
def yJ7_rangeCheck_23922 : MethodName := ⟨RJ7, "rangeCheck", "(III)V"⟩
abbrev cJ7_fill_eb02e : ByteArray := prog_20_method_110_code
def yJ7_fill_eb02e : MethodName := ⟨RJ7, "fill", "([BIIB)V"⟩
abbrev cJ7_copyOf_9075b : ByteArray := prog_20_method_121_code
def yJ7_copyOf_9075b : MethodName := ⟨RJ7, "copyOf", "([BI)[B"⟩
def RJ8 : String := "jdk/internal/util/ArraysSupport"
def TJ8 : u_T := fun k => match k with
  | _ => ("", "", "", false)
def tyJ8 : Nat → FieldType := fun k => match k with
  | _ => .int
abbrev wsJ80 : List Cond := u_ws RJ8 TJ8 0
theorem nmJ8 : ∀ a, a < 0 → ∀ b, b < 0 → a ≠ b → (TJ8 a).2.1 ≠ (TJ8 b).2.1 := by decide +kernel
theorem tyJ8_ok : ∀ k, k < 0 → parseFieldDescriptor (TJ8 k).2.2.1 = some (tyJ8 k) := by decide +kernel
abbrev cJ8_newLength_cabcc : ByteArray := prog_21_method_27_code
def yJ8_newLength_cabcc : MethodName := ⟨RJ8, "newLength", "(III)I"⟩
abbrev cJ8_hugeLength_7cf53 : ByteArray := prog_21_method_28_code
def yJ8_hugeLength_7cf53 : MethodName := ⟨RJ8, "hugeLength", "(II)I"⟩
def RJ3 : String := "jdk/internal/util/Preconditions"
def TJ3 : u_T := fun k => match k with
  | _ => ("", "", "", false)
def tyJ3 : Nat → FieldType := fun k => match k with
  | _ => .int
abbrev wsJ30 : List Cond := u_ws RJ3 TJ3 0
theorem nmJ3 : ∀ a, a < 0 → ∀ b, b < 0 → a ≠ b → (TJ3 a).2.1 ≠ (TJ3 b).2.1 := by decide +kernel
theorem tyJ3_ok : ∀ k, k < 0 → parseFieldDescriptor (TJ3 k).2.2.1 = some (tyJ3 k) := by decide +kernel
abbrev cJ3_checkIndex_8e157 : ByteArray := prog_22_method_11_code
def yJ3_checkIndex_8e157 : MethodName := ⟨RJ3, "checkIndex", "(IILjava/util/function/BiFunction;)I"⟩
abbrev cJ3_checkFromToIndex_8c36e : ByteArray := prog_22_method_12_code
def yJ3_checkFromToIndex_8c36e : MethodName := ⟨RJ3, "checkFromToIndex", "(IIILjava/util/function/BiFunction;)I"⟩
abbrev cJ3_checkFromIndexSize_8c36e : ByteArray := prog_22_method_13_code
def yJ3_checkFromIndexSize_8c36e : MethodName := ⟨RJ3, "checkFromIndexSize", "(IIILjava/util/function/BiFunction;)I"⟩
def RL : String := "BowlsGreenLaw"
abbrev cL_law : ByteArray := code
def yL_law : MethodName := ⟨RL, "law", "([I)Z"⟩
def wsL_law_r1 : List Cond := [Cond.classLink RL 7 RX7, Cond.instantiable RX7 9, Cond.initialized RX7, Cond.classLink RL 10 RX8, Cond.instantiable RX8 18, Cond.initialized RX8, Cond.methodLink RL 9 yX7_init, Cond.instanceMethod yX7_init, Cond.code yX7_init cX7_init 1 none, Cond.methodLink RX7 3 objectInit, Cond.instanceMethod objectInit, Cond.code objectInit ⟨#[0xb1]⟩ 1 none, Cond.classLink RX7 9 RX1, Cond.instantiable RX1 11, Cond.initialized RX1, Cond.fieldLink RX7 12 "BowlsGreen" "green" "LBowlsGreen$Green;", Cond.fieldLink RX7 16 "BowlsGreen" "saved" "LBowlsGreen$Green;", Cond.fieldLink RX7 19 "BowlsGreen" "isSaved" "Z", Cond.classLink RX7 23 RX3, Cond.instantiable RX3 3, Cond.initialized RX3, Cond.fieldLink RX7 26 "BowlsGreen" "past" "LBowlsGreen$Past;", Cond.classLink RX7 30 RJ4, Cond.instantiable RJ4 4]
def wsL_law_r2 : List Cond := [Cond.initialized RJ4, Cond.fieldLink RX7 33 "BowlsGreen" "input" "Ljava/lang/StringBuilder;", Cond.classLink RX7 37 RX2, Cond.instantiable RX2 4, Cond.initialized RX2, Cond.fieldLink RX7 40 "BowlsGreen" "orders" "LBowlsGreen$Orders;", Cond.fieldLink RX7 44 "BowlsGreen" "faultPosition" "I", Cond.classLink RX7 48 RX4, Cond.instantiable RX4 3, Cond.initialized RX4, Cond.fieldLink RX7 51 "BowlsGreen" "reasons" "LBowlsGreen$Reasons;", Cond.fieldLink RX7 55 "BowlsGreen" "line" "Ljava/lang/StringBuilder;", Cond.methodLink RX7 11 yX1_init, Cond.instanceMethod yX1_init, Cond.code yX1_init cX1_init 2 none, Cond.methodLink RX1 3 objectInit, Cond.classLink RX1 9 RX5, Cond.fieldLink RX1 11 "BowlsGreen$Green" "rinks" "[LBowlsGreen$Rink;", Cond.instantiable RX5 9, Cond.initialized RX5, Cond.classLink RX1 18 RX6, Cond.fieldLink RX1 20 "BowlsGreen$Green" "woods" "[LBowlsGreen$Wood;", Cond.instantiable RX6 8, Cond.initialized RX6]
def wsL_law_r3 : List Cond := [Cond.classLink RX1 25 RX0, Cond.fieldLink RX1 27 "BowlsGreen$Green" "clubs" "[LBowlsGreen$Club;", Cond.instantiable RX0 4, Cond.initialized RX0, Cond.methodLink RX1 17 yX5_init, Cond.instanceMethod yX5_init, Cond.code yX5_init cX5_init 1 none, Cond.methodLink RX5 3 objectInit, Cond.arrayClass .int, Cond.fieldLink RX5 9 "BowlsGreen$Rink" "bowled" "[I", Cond.instanceMethod yX6_init, Cond.code yX6_init cX6_init 1 none, Cond.methodLink RX6 3 objectInit, Cond.instanceMethod yX0_init, Cond.code yX0_init cX0_init 1 none, Cond.methodLink RX0 3 objectInit, Cond.methodLink RX1 32 yX1_reset, Cond.instanceMethod yX1_reset, Cond.selects RX1 yX1_reset yX1_reset, Cond.code yX1_reset cX1_reset 1 none, Cond.fieldLink RX1 35 "BowlsGreen$Green" "rinkCount" "I", Cond.fieldLink RX1 39 "BowlsGreen$Green" "woodCount" "I", Cond.fieldLink RX1 43 "BowlsGreen$Green" "hour" "I", Cond.fieldLink RX1 46 "BowlsGreen$Green" "rain" "I"]
def wsL_law_r4 : List Cond := [Cond.fieldLink RX1 49 "BowlsGreen$Green" "sun" "I", Cond.fieldLink RX1 52 "BowlsGreen$Green" "cups" "I", Cond.fieldLink RX1 55 "BowlsGreen$Green" "drunk" "I", Cond.fieldLink RX1 58 "BowlsGreen$Green" "swept" "I", Cond.methodLink RX1 42 yX0_reset, Cond.instanceMethod yX0_reset, Cond.selects RX0 yX0_reset yX0_reset, Cond.code yX0_reset cX0_reset 1 none, Cond.fieldLink RX0 9 "BowlsGreen$Club" "shots" "I", Cond.fieldLink RX0 15 "BowlsGreen$Club" "ends" "I", Cond.fieldLink RX0 18 "BowlsGreen$Club" "coins" "I", Cond.fieldLink RX0 21 "BowlsGreen$Club" "teas" "I", Cond.methodLink RX7 25 yX3_init, Cond.instanceMethod yX3_init, Cond.code yX3_init cX3_init 2 none, Cond.methodLink RX3 3 objectInit, Cond.classLink RX3 9 RX1, Cond.fieldLink RX3 11 "BowlsGreen$Past" "greens" "[LBowlsGreen$Green;", Cond.methodLink RX3 17 yX1_init, Cond.methodLink RX7 32 yJ4_init_da8c8, Cond.instanceMethod yJ4_init_da8c8, Cond.code yJ4_init_da8c8 cJ4_init_da8c8 1 none, Cond.methodLink RJ4 1 yJ5_init_d00df, Cond.instanceMethod yJ5_init_d00df]
def wsL_law_r5 : List Cond := [Cond.initialized RJ5, Cond.code yJ5_init_d00df cJ5_init_d00df 2 none, Cond.methodLink RJ5 3 objectInit, Cond.fieldLink RJ5 18 "java/lang/String" "COMPACT_STRINGS" "Z", Cond.arrayClass .byte, Cond.fieldLink RJ5 15 "java/lang/AbstractStringBuilder" "value" "[B", Cond.fieldLink RJ5 22 "java/lang/AbstractStringBuilder" "coder" "B", Cond.methodLink RJ5 26 yJ2_newBytesFor_77867, Cond.static yJ2_newBytesFor_77867, Cond.initialized RJ2, Cond.code yJ2_newBytesFor_77867 cJ2_newBytesFor_77867 1 (some (.array .byte)), Cond.methodLink RJ2 11 yJ2_newBytesLength_0f7a4, Cond.static yJ2_newBytesLength_0f7a4, Cond.code yJ2_newBytesLength_0f7a4 cJ2_newBytesLength_0f7a4 1 (some .int), Cond.constant RJ2 20 (1073741823), Cond.methodLink RX7 39 yX2_init, Cond.instanceMethod yX2_init, Cond.code yX2_init cX2_init 1 none, Cond.methodLink RX2 3 objectInit, Cond.fieldLink RX2 9 "BowlsGreen$Orders" "signs" "[I", Cond.fieldLink RX2 15 "BowlsGreen$Orders" "numbers" "[I", Cond.methodLink RX7 50 yX4_init, Cond.instanceMethod yX4_init, Cond.code yX4_init cX4_init 1 none]
def wsL_law_r6 : List Cond := [Cond.methodLink RX4 3 objectInit, Cond.fieldLink RX4 9 "BowlsGreen$Reasons" "numbers" "[I", Cond.fieldLink RX4 15 "BowlsGreen$Reasons" "details" "[I", Cond.methodLink RL 12 yX8_init, Cond.instanceMethod yX8_init, Cond.code yX8_init cX8_init 1 none, Cond.methodLink RX8 3 objectInit, Cond.fieldLink RX8 9 "BowlsGreenModel" "now" "[I", Cond.fieldLink RX8 13 "BowlsGreenModel" "tried" "[I", Cond.fieldLink RX8 16 "BowlsGreenModel" "kept" "[I", Cond.fieldLink RX8 19 "BowlsGreenModel" "saved" "[I", Cond.fieldLink RX8 22 "BowlsGreenModel" "line" "[I", Cond.arrayClass .char, Cond.fieldLink RX8 25 "BowlsGreenModel" "text" "[C", Cond.fieldLink RX8 29 "BowlsGreenModel" "told" "[I", Cond.fieldLink RX8 32 "BowlsGreenModel" "fault" "I", Cond.fieldLink RX8 36 "BowlsGreenModel" "reasons" "[I", Cond.methodLink RX8 39 yX8_begins, Cond.instanceMethod yX8_begins, Cond.selects RX8 yX8_begins yX8_begins, Cond.code yX8_begins cX8_begins 2 none, Cond.methodLink RL 13 yX7_clear, Cond.instanceMethod yX7_clear, Cond.selects RX7 yX7_clear yX7_clear]
def wsL_law_r7 : List Cond := [Cond.code yX7_clear cX7_clear 2 (some .int), Cond.fieldLink RX7 58 "BowlsGreen$Green" "hour" "I", Cond.methodLink RX7 61 yX1_reset, Cond.methodLink RX7 64 yX3_forget, Cond.instanceMethod yX3_forget, Cond.selects RX3 yX3_forget yX3_forget, Cond.code yX3_forget cX3_forget 1 none, Cond.fieldLink RX3 18 "BowlsGreen$Past" "count" "I", Cond.methodLink RL 17 yX8_clear, Cond.instanceMethod yX8_clear, Cond.selects RX8 yX8_clear yX8_clear, Cond.code yX8_clear cX8_clear 2 (some .int), Cond.fieldLink RX8 42 "BowlsGreenModel" "undos" "I", Cond.methodLink RL 18 yX7_append, Cond.instanceMethod yX7_append, Cond.selects RX7 yX7_append yX7_append, Cond.code yX7_append cX7_append 2 (some .int), Cond.methodLink RX7 67 yJ4_length_8abf5, Cond.instanceMethod yJ4_length_8abf5, Cond.selects RJ4 yJ4_length_8abf5 yJ4_length_8abf5, Cond.code yJ4_length_8abf5 cJ4_length_8abf5 1 (some .int), Cond.methodLink RJ4 343 yJ5_length_8abf5, Cond.sameMethod "java/lang/AbstractStringBuilder" "java/lang/AbstractStringBuilder" "length" "()I", Cond.superclass RJ4 RJ5]
def wsL_law_r8 : List Cond := [Cond.instanceMethod yJ5_length_8abf5, Cond.code yJ5_length_8abf5 cJ5_length_8abf5 1 (some .int), Cond.fieldLink RJ5 79 "java/lang/AbstractStringBuilder" "count" "I", Cond.methodLink RX7 71 yJ4_append_cf468, Cond.instanceMethod yJ4_append_cf468, Cond.selects RJ4 yJ4_append_cf468 yJ4_append_cf468, Cond.code yJ4_append_cf468 cJ4_append_cf468 2 (some (.object "java/lang/StringBuilder")), Cond.methodLink RJ4 50 yJ5_append_3fe6f, Cond.sameMethod "java/lang/AbstractStringBuilder" "java/lang/AbstractStringBuilder" "append" "(C)Ljava/lang/AbstractStringBuilder;", Cond.instanceMethod yJ5_append_3fe6f, Cond.code yJ5_append_3fe6f cJ5_append_3fe6f 2 (some (.object "java/lang/AbstractStringBuilder")), Cond.methodLink RJ5 100 ⟨"java/lang/AbstractStringBuilder", "ensureCapacityInternal", "(I)V"⟩, Cond.sameMethod "java/lang/AbstractStringBuilder" "java/lang/AbstractStringBuilder" "ensureCapacityInternal" "(I)V", Cond.selects RJ4 ⟨"java/lang/AbstractStringBuilder", "ensureCapacityInternal", "(I)V"⟩ yJ5_ensureCapacityInternal_d00df, Cond.instanceMethod yJ5_ensureCapacityInternal_d00df, Cond.code yJ5_ensureCapacityInternal_d00df cJ5_ensureCapacityInternal_d00df 3 none, Cond.methodLink RJ5 104 ⟨"java/lang/AbstractStringBuilder", "newCapacity", "(I)I"⟩, Cond.sameMethod "java/lang/AbstractStringBuilder" "java/lang/AbstractStringBuilder" "newCapacity" "(I)I", Cond.selects RJ4 ⟨"java/lang/AbstractStringBuilder", "newCapacity", "(I)I"⟩ yJ5_newCapacity_0f7a4, Cond.instanceMethod yJ5_newCapacity_0f7a4, Cond.code yJ5_newCapacity_0f7a4 cJ5_newCapacity_0f7a4 6 (some .int), Cond.constant RJ5 39 (2147483647), Cond.methodLink RJ5 114 yJ8_newLength_cabcc, Cond.static yJ8_newLength_cabcc]
def wsL_law_r9 : List Cond := [Cond.initialized RJ8, Cond.code yJ8_newLength_cabcc cJ8_newLength_cabcc 4 (some .int), Cond.methodLink RJ8 194 Lib.Math.max.name, Cond.static Lib.Math.max.name, Cond.initialized "java/lang/Math", Cond.code Lib.Math.max.name Lib.Math.max.code 2 (some .int), Cond.constant RJ8 200 (2147483639), Cond.methodLink RJ8 201 yJ8_hugeLength_7cf53, Cond.static yJ8_hugeLength_7cf53, Cond.code yJ8_hugeLength_7cf53 cJ8_hugeLength_7cf53 3 (some .int), Cond.methodLink RJ5 108 yJ7_copyOf_9075b, Cond.static yJ7_copyOf_9075b, Cond.initialized RJ7, Cond.code yJ7_copyOf_9075b cJ7_copyOf_9075b 3 (some (.array .byte)), Cond.methodLink RJ7 310 ⟨"[B", "clone", "()Ljava/lang/Object;"⟩, Cond.sameMethod "[B" "java/lang/Object" "clone" "()Ljava/lang/Object;", Cond.native ⟨"java/lang/Object", "clone", "()Ljava/lang/Object;"⟩, Cond.instanceMethod ⟨"java/lang/Object", "clone", "()Ljava/lang/Object;"⟩, Cond.selects "[B" ⟨"[B", "clone", "()Ljava/lang/Object;"⟩ ⟨"java/lang/Object", "clone", "()Ljava/lang/Object;"⟩, Cond.classLink RJ7 311 "[B", Cond.methodLink RJ7 304 Lib.Math.min.name, Cond.static Lib.Math.min.name, Cond.code Lib.Math.min.name Lib.Math.min.code 2 (some .int), Cond.methodLink RJ7 150 arraycopyName]
def wsL_law_r10 : List Cond := [Cond.native arraycopyName, Cond.static arraycopyName, Cond.initialized "java/lang/System", Cond.methodLink RJ5 83 ⟨"java/lang/AbstractStringBuilder", "isLatin1", "()Z"⟩, Cond.sameMethod "java/lang/AbstractStringBuilder" "java/lang/AbstractStringBuilder" "isLatin1" "()Z", Cond.selects RJ4 ⟨"java/lang/AbstractStringBuilder", "isLatin1", "()Z"⟩ yJ5_isLatin1_aae02, Cond.instanceMethod yJ5_isLatin1_aae02, Cond.code yJ5_isLatin1_aae02 cJ5_isLatin1_aae02 1 (some .boolean), Cond.methodLink RJ5 191 yJ1_canEncode_fc78d, Cond.static yJ1_canEncode_fc78d, Cond.initialized RJ1, Cond.code yJ1_canEncode_fc78d cJ1_canEncode_fc78d 1 (some .boolean), Cond.methodLink RJ5 195 ⟨"java/lang/AbstractStringBuilder", "inflate", "()V"⟩, Cond.sameMethod "java/lang/AbstractStringBuilder" "java/lang/AbstractStringBuilder" "inflate" "()V", Cond.selects RJ4 ⟨"java/lang/AbstractStringBuilder", "inflate", "()V"⟩ yJ5_inflate_da8c8, Cond.instanceMethod yJ5_inflate_da8c8, Cond.code yJ5_inflate_da8c8 cJ5_inflate_da8c8 2 none, Cond.methodLink RJ5 125 yJ1_inflate_0e8fd, Cond.static yJ1_inflate_0e8fd, Cond.code yJ1_inflate_0e8fd cJ1_inflate_0e8fd 5 none, Cond.methodLink RJ1 240 yJ2_inflate_0e8fd, Cond.static yJ2_inflate_0e8fd, Cond.code yJ2_inflate_0e8fd cJ2_inflate_0e8fd 6 none, Cond.methodLink RJ2 173 yJ2_checkBoundsOffCount_d044e]
def wsL_law_r11 : List Cond := [Cond.static yJ2_checkBoundsOffCount_d044e, Cond.code yJ2_checkBoundsOffCount_d044e cJ2_checkBoundsOffCount_d044e 3 none, Cond.methodLink RJ2 48 yJ2_length_9d52b, Cond.static yJ2_length_9d52b, Cond.code yJ2_length_9d52b cJ2_length_9d52b 1 (some .int), Cond.methodLink RJ2 419 yJ0_checkBoundsOffCount_cabcc, Cond.static yJ0_checkBoundsOffCount_cabcc, Cond.initialized RJ0, Cond.code yJ0_checkBoundsOffCount_cabcc cJ0_checkBoundsOffCount_cabcc 3 (some .int), Cond.fieldLink RJ0 1053 "jdk/internal/util/Preconditions" "SIOOBE_FORMATTER" "Ljava/util/function/BiFunction;", Cond.methodLink RJ0 1065 yJ3_checkFromIndexSize_8c36e, Cond.static yJ3_checkFromIndexSize_8c36e, Cond.initialized RJ3, Cond.code yJ3_checkFromIndexSize_8c36e cJ3_checkFromIndexSize_8c36e 4 (some .int), Cond.methodLink RJ2 111 yJ2_putChar_b72d1, Cond.static yJ2_putChar_b72d1, Cond.code yJ2_putChar_b72d1 cJ2_putChar_b72d1 3 none, Cond.fieldLink RJ2 44 "java/lang/StringUTF16" "$assertionsDisabled" "Z", Cond.fieldLink RJ2 59 "java/lang/StringUTF16" "HI_BYTE_SHIFT" "I", Cond.fieldLink RJ2 63 "java/lang/StringUTF16" "LO_BYTE_SHIFT" "I", Cond.methodLink RJ5 197 yJ2_putCharSB_b72d1, Cond.static yJ2_putCharSB_b72d1, Cond.code yJ2_putCharSB_b72d1 cJ2_putCharSB_b72d1 3 none, Cond.methodLink RJ2 67 yJ2_checkIndex_2214a]
def wsL_law_r12 : List Cond := [Cond.static yJ2_checkIndex_2214a, Cond.code yJ2_checkIndex_2214a cJ2_checkIndex_2214a 2 none, Cond.methodLink RJ2 414 yJ0_checkIndex_df160, Cond.static yJ0_checkIndex_df160, Cond.code yJ0_checkIndex_df160 cJ0_checkIndex_df160 2 none, Cond.methodLink RJ0 1059 yJ3_checkIndex_8e157, Cond.static yJ3_checkIndex_8e157, Cond.code yJ3_checkIndex_8e157 cJ3_checkIndex_8e157 3 (some .int), Cond.methodLink RL 22 yX8_append, Cond.instanceMethod yX8_append, Cond.selects RX8 yX8_append yX8_append, Cond.code yX8_append cX8_append 2 (some .int), Cond.fieldLink RX8 59 "BowlsGreenModel" "length" "I", Cond.methodLink RX8 55 yX8_in, Cond.static yX8_in, Cond.code yX8_in cX8_in 3 (some .boolean), Cond.methodLink RL 23 yX7_rink, Cond.instanceMethod yX7_rink, Cond.selects RX7 yX7_rink yX7_rink, Cond.code yX7_rink cX7_rink 3 (some .int), Cond.methodLink RX7 75 yX3_note, Cond.instanceMethod yX3_note, Cond.selects RX3 yX3_note yX3_note, Cond.code yX3_note cX3_note 2 none]
def wsL_law_r13 : List Cond := [Cond.fieldLink RX3 22 "BowlsGreen$Past" "free" "I", Cond.methodLink RX3 25 yX1_become, Cond.instanceMethod yX1_become, Cond.selects RX1 yX1_become yX1_become, Cond.code yX1_become cX1_become 3 none, Cond.methodLink RX1 61 yX5_become, Cond.instanceMethod yX5_become, Cond.selects RX5 yX5_become yX5_become, Cond.code yX5_become cX5_become 2 none, Cond.fieldLink RX5 15 "BowlsGreen$Rink" "first" "I", Cond.fieldLink RX5 19 "BowlsGreen$Rink" "last" "I", Cond.fieldLink RX5 22 "BowlsGreen$Rink" "wet" "I", Cond.fieldLink RX5 25 "BowlsGreen$Rink" "casts" "I", Cond.fieldLink RX5 28 "BowlsGreen$Rink" "jack" "I", Cond.fieldLink RX5 31 "BowlsGreen$Rink" "starter" "I", Cond.fieldLink RX5 34 "BowlsGreen$Rink" "turn" "I", Cond.fieldLink RX5 37 "BowlsGreen$Rink" "closed" "I", Cond.methodLink RX1 65 yX6_become, Cond.instanceMethod yX6_become, Cond.selects RX6 yX6_become yX6_become, Cond.code yX6_become cX6_become 2 none, Cond.fieldLink RX6 9 "BowlsGreen$Wood" "club" "I", Cond.fieldLink RX6 15 "BowlsGreen$Wood" "bias" "I", Cond.fieldLink RX6 18 "BowlsGreen$Wood" "state" "I"]
def wsL_law_r14 : List Cond := [Cond.fieldLink RX6 21 "BowlsGreen$Wood" "rink" "I", Cond.fieldLink RX6 24 "BowlsGreen$Wood" "column" "I", Cond.fieldLink RX6 27 "BowlsGreen$Wood" "length" "I", Cond.fieldLink RX6 30 "BowlsGreen$Wood" "distance" "I", Cond.fieldLink RX6 33 "BowlsGreen$Wood" "bowled" "I", Cond.methodLink RX1 68 yX0_become, Cond.instanceMethod yX0_become, Cond.selects RX0 yX0_become yX0_become, Cond.code yX0_become cX0_become 2 none, Cond.methodLink RX7 79 yX7_layRink, Cond.instanceMethod yX7_layRink, Cond.selects RX7 yX7_layRink yX7_layRink, Cond.code yX7_layRink cX7_layRink 6 (some .int), Cond.fieldLink RX7 146 "BowlsGreen$Green" "rinkCount" "I", Cond.fieldLink RX7 155 "BowlsGreen$Green" "rinks" "[LBowlsGreen$Rink;", Cond.methodLink RX7 149 yX7_refuse, Cond.instanceMethod yX7_refuse, Cond.selects RX7 yX7_refuse yX7_refuse, Cond.code yX7_refuse cX7_refuse 3 (some .int), Cond.methodLink RX7 139 yX4_empty, Cond.instanceMethod yX4_empty, Cond.selects RX4 yX4_empty yX4_empty, Cond.code yX4_empty cX4_empty 1 none, Cond.fieldLink RX4 18 "BowlsGreen$Reasons" "count" "I"]
def wsL_law_r15 : List Cond := [Cond.methodLink RX7 142 yX4_put, Cond.instanceMethod yX4_put, Cond.selects RX4 yX4_put yX4_put, Cond.code yX4_put cX4_put 3 none, Cond.methodLink RX7 152 yX1_lowestRinkWithin, Cond.instanceMethod yX1_lowestRinkWithin, Cond.selects RX1 yX1_lowestRinkWithin yX1_lowestRinkWithin, Cond.code yX1_lowestRinkWithin cX1_lowestRinkWithin 4 (some .int), Cond.fieldLink RX1 71 "BowlsGreen$Rink" "first" "I", Cond.fieldLink RX1 74 "BowlsGreen$Rink" "last" "I", Cond.methodLink RX7 159 yX5_lay, Cond.instanceMethod yX5_lay, Cond.selects RX5 yX5_lay yX5_lay, Cond.code yX5_lay cX5_lay 3 none, Cond.methodLink RX7 83 yX7_settle, Cond.instanceMethod yX7_settle, Cond.selects RX7 yX7_settle yX7_settle, Cond.code yX7_settle cX7_settle 2 (some .int), Cond.methodLink RX7 132 yX7_isCode, Cond.static yX7_isCode, Cond.code yX7_isCode cX7_isCode 1 (some .boolean), Cond.methodLink RX7 136 yX3_keep, Cond.instanceMethod yX3_keep, Cond.selects RX3 yX3_keep yX3_keep]
def wsL_law_r16 : List Cond := [Cond.code yX3_keep cX3_keep 1 none, Cond.methodLink RX3 29 Lib.Math.min.name, Cond.methodLink RL 27 yX8_rink, Cond.instanceMethod yX8_rink, Cond.selects RX8 yX8_rink yX8_rink, Cond.code yX8_rink cX8_rink 5 (some .int), Cond.methodLink RX8 62 yX8_tries, Cond.instanceMethod yX8_tries, Cond.selects RX8 yX8_tries yX8_tries, Cond.code yX8_tries cX8_tries 2 none, Cond.methodLink RX8 65 yX8_refuses, Cond.instanceMethod yX8_refuses, Cond.selects RX8 yX8_refuses yX8_refuses, Cond.code yX8_refuses cX8_refuses 3 (some .int), Cond.fieldLink RX8 45 "BowlsGreenModel" "depth" "I", Cond.methodLink RX8 69 yX8_ofRink, Cond.instanceMethod yX8_ofRink, Cond.selects RX8 yX8_ofRink yX8_ofRink, Cond.code yX8_ofRink cX8_ofRink 3 (some .int), Cond.methodLink RX8 72 yX8_setsRink, Cond.instanceMethod yX8_setsRink, Cond.selects RX8 yX8_setsRink yX8_setsRink, Cond.code yX8_setsRink cX8_setsRink 4 none, Cond.methodLink RX8 51 yX8_keeps]
def wsL_law_r17 : List Cond := [Cond.instanceMethod yX8_keeps, Cond.selects RX8 yX8_keeps yX8_keeps, Cond.code yX8_keeps cX8_keeps 3 (some .int), Cond.methodLink RL 28 yX7_wood, Cond.instanceMethod yX7_wood, Cond.selects RX7 yX7_wood yX7_wood, Cond.code yX7_wood cX7_wood 3 (some .int), Cond.methodLink RX7 87 yX7_addWood, Cond.instanceMethod yX7_addWood, Cond.selects RX7 yX7_addWood yX7_addWood, Cond.code yX7_addWood cX7_addWood 4 (some .int), Cond.fieldLink RX7 167 "BowlsGreen$Green" "woodCount" "I", Cond.fieldLink RX7 170 "BowlsGreen$Green" "woods" "[LBowlsGreen$Wood;", Cond.methodLink RX7 164 yX7_isClub, Cond.static yX7_isClub, Cond.code yX7_isClub cX7_isClub 1 (some .boolean), Cond.methodLink RX7 174 yX6_make, Cond.instanceMethod yX6_make, Cond.selects RX6 yX6_make yX6_make, Cond.code yX6_make cX6_make 3 none, Cond.methodLink RL 31 yX8_wood, Cond.instanceMethod yX8_wood, Cond.selects RX8 yX8_wood yX8_wood, Cond.code yX8_wood cX8_wood 5 (some .int)]
def wsL_law_r18 : List Cond := [Cond.methodLink RX8 76 yX8_setsWood, Cond.instanceMethod yX8_setsWood, Cond.selects RX8 yX8_setsWood yX8_setsWood, Cond.code yX8_setsWood cX8_setsWood 4 none, Cond.methodLink RL 32 yX7_begin, Cond.instanceMethod yX7_begin, Cond.selects RX7 yX7_begin yX7_begin, Cond.code yX7_begin cX7_begin 3 (some .int), Cond.methodLink RX7 90 yX7_beginEnd, Cond.instanceMethod yX7_beginEnd, Cond.selects RX7 yX7_beginEnd yX7_beginEnd, Cond.code yX7_beginEnd cX7_beginEnd 4 (some .int), Cond.fieldLink RX7 186 "BowlsGreen$Rink" "jack" "I", Cond.fieldLink RX7 189 "BowlsGreen$Rink" "wet" "I", Cond.fieldLink RX7 201 "BowlsGreen$Rink" "turn" "I", Cond.methodLink RX7 179 yX1_isRink, Cond.instanceMethod yX1_isRink, Cond.selects RX1 yX1_isRink yX1_isRink, Cond.code yX1_isRink cX1_isRink 2 (some .boolean), Cond.methodLink RX7 182 yX5_isPlayed, Cond.instanceMethod yX5_isPlayed, Cond.selects RX5 yX5_isPlayed yX5_isPlayed, Cond.code yX5_isPlayed cX5_isPlayed 1 (some .boolean), Cond.methodLink RX7 192 yX1_hoursUntilDry]
def wsL_law_r19 : List Cond := [Cond.instanceMethod yX1_hoursUntilDry, Cond.selects RX1 yX1_hoursUntilDry yX1_hoursUntilDry, Cond.code yX1_hoursUntilDry cX1_hoursUntilDry 4 (some .int), Cond.fieldLink RX1 80 "BowlsGreen$Rink" "wet" "I", Cond.methodLink RX1 159 yX1_wetAfter, Cond.instanceMethod yX1_wetAfter, Cond.selects RX1 yX1_wetAfter yX1_wetAfter, Cond.code yX1_wetAfter cX1_wetAfter 2 (some .int), Cond.methodLink RX1 126 Lib.Math.min.name, Cond.methodLink RX1 86 Lib.Math.max.name, Cond.methodLink RX7 195 yX7_refuseWetRink, Cond.instanceMethod yX7_refuseWetRink, Cond.selects RX7 yX7_refuseWetRink yX7_refuseWetRink, Cond.code yX7_refuseWetRink cX7_refuseWetRink 3 (some .int), Cond.methodLink RX7 198 yX5_startEnd, Cond.instanceMethod yX5_startEnd, Cond.selects RX5 yX5_startEnd yX5_startEnd, Cond.code yX5_startEnd cX5_startEnd 2 none, Cond.methodLink RL 35 yX8_begin, Cond.instanceMethod yX8_begin, Cond.selects RX8 yX8_begin yX8_begin, Cond.code yX8_begin cX8_begin 3 (some .int), Cond.methodLink RX8 103 yX8_starts, Cond.instanceMethod yX8_starts]
def wsL_law_r20 : List Cond := [Cond.selects RX8 yX8_starts yX8_starts, Cond.code yX8_starts cX8_starts 4 (some .int), Cond.methodLink RX8 90 yX8_isRink, Cond.instanceMethod yX8_isRink, Cond.selects RX8 yX8_isRink yX8_isRink, Cond.code yX8_isRink cX8_isRink 2 (some .boolean), Cond.methodLink RX8 94 yX8_hoursToDry, Cond.instanceMethod yX8_hoursToDry, Cond.selects RX8 yX8_hoursToDry yX8_hoursToDry, Cond.code yX8_hoursToDry cX8_hoursToDry 4 (some .int), Cond.methodLink RX8 87 yX8_changed, Cond.instanceMethod yX8_changed, Cond.selects RX8 yX8_changed yX8_changed, Cond.code yX8_changed cX8_changed 2 (some .int), Cond.methodLink RX8 79 Lib.Math.min.name, Cond.methodLink RX8 84 Lib.Math.max.name, Cond.methodLink RX8 97 yX8_refusesBy, Cond.instanceMethod yX8_refusesBy, Cond.selects RX8 yX8_refusesBy yX8_refusesBy, Cond.code yX8_refusesBy cX8_refusesBy 4 (some .int), Cond.methodLink RX8 100 yX8_does, Cond.instanceMethod yX8_does, Cond.selects RX8 yX8_does yX8_does, Cond.code yX8_does cX8_does 2 (some .int)]
def wsL_law_r21 : List Cond := [Cond.fieldLink RX8 48 "BowlsGreenModel" "answer" "I", Cond.methodLink RX8 106 yX8_ends, Cond.instanceMethod yX8_ends, Cond.selects RX8 yX8_ends yX8_ends, Cond.code yX8_ends cX8_ends 2 (some .int), Cond.methodLink RL 36 yX7_bowl, Cond.instanceMethod yX7_bowl, Cond.selects RX7 yX7_bowl yX7_bowl, Cond.code yX7_bowl cX7_bowl 6 (some .int), Cond.methodLink RX7 93 yX7_bowlWood, Cond.instanceMethod yX7_bowlWood, Cond.selects RX7 yX7_bowlWood yX7_bowlWood, Cond.code yX7_bowlWood cX7_bowlWood 9 (some .int), Cond.fieldLink RX7 220 "BowlsGreen$Rink" "bowled" "[I", Cond.fieldLink RX7 224 "BowlsGreen$Wood" "club" "I", Cond.fieldLink RX7 230 "BowlsGreen$Wood" "bowled" "I", Cond.fieldLink RX7 232 "BowlsGreen$Wood" "rink" "I", Cond.fieldLink RX7 235 "BowlsGreen$Wood" "state" "I", Cond.fieldLink RX7 238 "BowlsGreen$Wood" "column" "I", Cond.fieldLink RX7 241 "BowlsGreen$Wood" "length" "I", Cond.fieldLink RX7 246 "BowlsGreen$Wood" "distance" "I", Cond.methodLink RX7 204 yX1_isWood, Cond.instanceMethod yX1_isWood, Cond.selects RX1 yX1_isWood yX1_isWood]
def wsL_law_r22 : List Cond := [Cond.code yX1_isWood cX1_isWood 2 (some .boolean), Cond.methodLink RX7 207 yX5_holds, Cond.instanceMethod yX5_holds, Cond.selects RX5 yX5_holds yX5_holds, Cond.code yX5_holds cX5_holds 2 (some .boolean), Cond.methodLink RX7 210 yX7_isStrength, Cond.static yX7_isStrength, Cond.code yX7_isStrength cX7_isStrength 1 (some .boolean), Cond.methodLink RX7 213 yX7_isBowlRefused, Cond.instanceMethod yX7_isBowlRefused, Cond.selects RX7 yX7_isBowlRefused yX7_isBowlRefused, Cond.code yX7_isBowlRefused cX7_isBowlRefused 6 (some .boolean), Cond.methodLink RX7 217 yX1_landing, Cond.instanceMethod yX1_landing, Cond.selects RX1 yX1_landing yX1_landing, Cond.code yX1_landing cX1_landing 11 (some .int), Cond.fieldLink RX1 77 "BowlsGreen$Wood" "bias" "I", Cond.fieldLink RX1 83 "BowlsGreen$Rink" "casts" "I", Cond.methodLink RX1 92 yX5_holds, Cond.methodLink RX1 96 yX1_isTaken, Cond.instanceMethod yX1_isTaken, Cond.selects RX1 yX1_isTaken yX1_isTaken, Cond.code yX1_isTaken cX1_isTaken 7 (some .boolean), Cond.fieldLink RX1 103 "BowlsGreen$Wood" "column" "I"]
def wsL_law_r23 : List Cond := [Cond.fieldLink RX1 106 "BowlsGreen$Wood" "length" "I", Cond.methodLink RX1 100 yX6_liesOn, Cond.instanceMethod yX6_liesOn, Cond.selects RX6 yX6_liesOn yX6_liesOn, Cond.code yX6_liesOn cX6_liesOn 2 (some .boolean), Cond.methodLink RX7 227 yX7_otherClub, Cond.static yX7_otherClub, Cond.code yX7_otherClub cX7_otherClub 1 (some .int), Cond.methodLink RX7 243 yX5_distance, Cond.instanceMethod yX5_distance, Cond.selects RX5 yX5_distance yX5_distance, Cond.code yX5_distance cX5_distance 5 (some .int), Cond.methodLink RL 40 yX8_bowl, Cond.instanceMethod yX8_bowl, Cond.selects RX8 yX8_bowl yX8_bowl, Cond.code yX8_bowl cX8_bowl 6 (some .int), Cond.methodLink RX8 138 yX8_bowls, Cond.instanceMethod yX8_bowls, Cond.selects RX8 yX8_bowls yX8_bowls, Cond.code yX8_bowls cX8_bowls 9 (some .int), Cond.methodLink RX8 120 yX8_isWood, Cond.instanceMethod yX8_isWood, Cond.selects RX8 yX8_isWood yX8_isWood, Cond.code yX8_isWood cX8_isWood 2 (some .boolean)]
def wsL_law_r24 : List Cond := [Cond.methodLink RX8 123 yX8_isBad, Cond.instanceMethod yX8_isBad, Cond.selects RX8 yX8_isBad yX8_isBad, Cond.code yX8_isBad cX8_isBad 3 (some .boolean), Cond.methodLink RX8 109 yX8_ofWood, Cond.instanceMethod yX8_ofWood, Cond.selects RX8 yX8_ofWood yX8_ofWood, Cond.code yX8_ofWood cX8_ofWood 3 (some .int), Cond.methodLink RX8 127 yX8_columnOf, Cond.instanceMethod yX8_columnOf, Cond.selects RX8 yX8_columnOf yX8_columnOf, Cond.code yX8_columnOf cX8_columnOf 6 (some .int), Cond.methodLink RX8 131 yX8_lengthOf, Cond.instanceMethod yX8_lengthOf, Cond.selects RX8 yX8_lengthOf yX8_lengthOf, Cond.code yX8_lengthOf cX8_lengthOf 6 (some .int), Cond.methodLink RX8 112 yX8_isTaken, Cond.instanceMethod yX8_isTaken, Cond.selects RX8 yX8_isTaken yX8_isTaken, Cond.code yX8_isTaken cX8_isTaken 6 (some .boolean), Cond.methodLink RX8 135 yX8_distance, Cond.instanceMethod yX8_distance, Cond.selects RX8 yX8_distance yX8_distance, Cond.code yX8_distance cX8_distance 2 (some .int)]
def wsL_law_r25 : List Cond := [Cond.methodLink RX8 116 yX8_square, Cond.instanceMethod yX8_square, Cond.selects RX8 yX8_square yX8_square, Cond.code yX8_square cX8_square 6 (some .int), Cond.methodLink RL 41 yX7_close, Cond.instanceMethod yX7_close, Cond.selects RX7 yX7_close yX7_close, Cond.code yX7_close cX7_close 2 (some .int), Cond.methodLink RX7 97 yX7_closeEnd, Cond.instanceMethod yX7_closeEnd, Cond.selects RX7 yX7_closeEnd yX7_closeEnd, Cond.code yX7_closeEnd cX7_closeEnd 5 (some .int), Cond.fieldLink RX7 251 "BowlsGreen$Green" "clubs" "[LBowlsGreen$Club;", Cond.fieldLink RX7 255 "BowlsGreen$Club" "shots" "I", Cond.fieldLink RX7 260 "BowlsGreen$Club" "ends" "I", Cond.fieldLink RX7 263 "BowlsGreen$Rink" "starter" "I", Cond.methodLink RX7 248 yX1_countShots, Cond.instanceMethod yX1_countShots, Cond.selects RX1 yX1_countShots yX1_countShots, Cond.code yX1_countShots cX1_countShots 4 (some .int), Cond.methodLink RX1 115 yX1_leastDistance, Cond.instanceMethod yX1_leastDistance, Cond.selects RX1 yX1_leastDistance yX1_leastDistance, Cond.code yX1_leastDistance cX1_leastDistance 5 (some .int)]
def wsL_law_r26 : List Cond := [Cond.constant RX1 122 (1000000), Cond.fieldLink RX1 123 "BowlsGreen$Wood" "club" "I", Cond.fieldLink RX1 112 "BowlsGreen$Wood" "distance" "I", Cond.methodLink RX1 118 yX1_woodsNearerThan, Cond.instanceMethod yX1_woodsNearerThan, Cond.selects RX1 yX1_woodsNearerThan yX1_woodsNearerThan, Cond.code yX1_woodsNearerThan cX1_woodsNearerThan 6 (some .int), Cond.methodLink RX7 266 yX5_finishEnd, Cond.instanceMethod yX5_finishEnd, Cond.selects RX5 yX5_finishEnd yX5_finishEnd, Cond.code yX5_finishEnd cX5_finishEnd 1 none, Cond.methodLink RX7 269 yX1_bringWoodsToShed, Cond.instanceMethod yX1_bringWoodsToShed, Cond.selects RX1 yX1_bringWoodsToShed yX1_bringWoodsToShed, Cond.code yX1_bringWoodsToShed cX1_bringWoodsToShed 3 none, Cond.fieldLink RX1 139 "BowlsGreen$Wood" "rink" "I", Cond.fieldLink RX1 142 "BowlsGreen$Wood" "state" "I", Cond.methodLink RL 45 yX8_close, Cond.instanceMethod yX8_close, Cond.selects RX8 yX8_close yX8_close, Cond.code yX8_close cX8_close 2 (some .int), Cond.methodLink RX8 154 yX8_closes, Cond.instanceMethod yX8_closes, Cond.selects RX8 yX8_closes yX8_closes]
def wsL_law_r27 : List Cond := [Cond.code yX8_closes cX8_closes 5 (some .int), Cond.methodLink RX8 151 yX8_counted, Cond.instanceMethod yX8_counted, Cond.selects RX8 yX8_counted yX8_counted, Cond.code yX8_counted cX8_counted 7 (some .int), Cond.methodLink RX8 148 yX8_least, Cond.instanceMethod yX8_least, Cond.selects RX8 yX8_least yX8_least, Cond.code yX8_least cX8_least 5 (some .int), Cond.constant RX8 144 (2147483647), Cond.methodLink RX8 145 yX8_liesOn, Cond.instanceMethod yX8_liesOn, Cond.selects RX8 yX8_liesOn yX8_liesOn, Cond.code yX8_liesOn cX8_liesOn 3 (some .boolean), Cond.methodLink RL 46 yX7_sweep, Cond.instanceMethod yX7_sweep, Cond.selects RX7 yX7_sweep yX7_sweep, Cond.code yX7_sweep cX7_sweep 2 (some .int), Cond.methodLink RX7 100 yX7_sweepRink, Cond.instanceMethod yX7_sweepRink, Cond.selects RX7 yX7_sweepRink yX7_sweepRink, Cond.code yX7_sweepRink cX7_sweepRink 4 (some .int), Cond.fieldLink RX7 272 "BowlsGreen$Rink" "casts" "I", Cond.fieldLink RX7 275 "BowlsGreen$Green" "cups" "I"]
def wsL_law_r28 : List Cond := [Cond.fieldLink RX7 281 "BowlsGreen$Green" "swept" "I", Cond.methodLink RX7 278 yX1_drink, Cond.instanceMethod yX1_drink, Cond.selects RX1 yX1_drink yX1_drink, Cond.code yX1_drink cX1_drink 2 none, Cond.methodLink RL 49 yX8_sweep, Cond.instanceMethod yX8_sweep, Cond.selects RX8 yX8_sweep yX8_sweep, Cond.code yX8_sweep cX8_sweep 2 (some .int), Cond.methodLink RX8 157 yX8_sweeps, Cond.instanceMethod yX8_sweeps, Cond.selects RX8 yX8_sweeps yX8_sweeps, Cond.code yX8_sweeps cX8_sweeps 4 (some .int), Cond.methodLink RL 50 yX7_rain, Cond.instanceMethod yX7_rain, Cond.selects RX7 yX7_rain yX7_rain, Cond.code yX7_rain cX7_rain 2 (some .int), Cond.methodLink RX7 103 yX7_setRain, Cond.instanceMethod yX7_setRain, Cond.selects RX7 yX7_setRain yX7_setRain, Cond.code yX7_setRain cX7_setRain 3 (some .int), Cond.fieldLink RX7 287 "BowlsGreen$Green" "rain" "I", Cond.methodLink RX7 284 yX7_isWeather, Cond.static yX7_isWeather]
def wsL_law_r29 : List Cond := [Cond.code yX7_isWeather cX7_isWeather 1 (some .boolean), Cond.methodLink RL 53 yX8_rain, Cond.instanceMethod yX8_rain, Cond.selects RX8 yX8_rain yX8_rain, Cond.code yX8_rain cX8_rain 2 (some .int), Cond.methodLink RX8 160 yX8_sets, Cond.instanceMethod yX8_sets, Cond.selects RX8 yX8_sets yX8_sets, Cond.code yX8_sets cX8_sets 4 (some .int), Cond.methodLink RL 54 yX7_sun, Cond.instanceMethod yX7_sun, Cond.selects RX7 yX7_sun yX7_sun, Cond.code yX7_sun cX7_sun 2 (some .int), Cond.methodLink RX7 106 yX7_setSun, Cond.instanceMethod yX7_setSun, Cond.selects RX7 yX7_setSun yX7_setSun, Cond.code yX7_setSun cX7_setSun 3 (some .int), Cond.fieldLink RX7 290 "BowlsGreen$Green" "sun" "I", Cond.methodLink RL 57 yX8_sun, Cond.instanceMethod yX8_sun, Cond.selects RX8 yX8_sun yX8_sun, Cond.code yX8_sun cX8_sun 2 (some .int), Cond.methodLink RL 58 yX7_brew, Cond.instanceMethod yX7_brew]
def wsL_law_r30 : List Cond := [Cond.selects RX7 yX7_brew yX7_brew, Cond.code yX7_brew cX7_brew 2 (some .int), Cond.methodLink RX7 109 yX7_brewCups, Cond.instanceMethod yX7_brewCups, Cond.selects RX7 yX7_brewCups yX7_brewCups, Cond.code yX7_brewCups cX7_brewCups 2 (some .int), Cond.methodLink RX7 293 Lib.Math.min.name, Cond.methodLink RL 61 yX8_brew, Cond.instanceMethod yX8_brew, Cond.selects RX8 yX8_brew yX8_brew, Cond.code yX8_brew cX8_brew 2 (some .int), Cond.methodLink RL 62 yX7_tea, Cond.instanceMethod yX7_tea, Cond.selects RX7 yX7_tea yX7_tea, Cond.code yX7_tea cX7_tea 2 (some .int), Cond.methodLink RX7 112 yX7_giveTea, Cond.instanceMethod yX7_giveTea, Cond.selects RX7 yX7_giveTea yX7_giveTea, Cond.code yX7_giveTea cX7_giveTea 3 (some .int), Cond.fieldLink RX7 298 "BowlsGreen$Club" "coins" "I", Cond.fieldLink RX7 301 "BowlsGreen$Club" "teas" "I", Cond.methodLink RL 65 yX8_tea, Cond.instanceMethod yX8_tea, Cond.selects RX8 yX8_tea yX8_tea]
def wsL_law_r31 : List Cond := [Cond.code yX8_tea cX8_tea 2 (some .int), Cond.methodLink RX8 163 yX8_drinks, Cond.instanceMethod yX8_drinks, Cond.selects RX8 yX8_drinks yX8_drinks, Cond.code yX8_drinks cX8_drinks 2 (some .int), Cond.methodLink RL 66 yX7_hour, Cond.instanceMethod yX7_hour, Cond.selects RX7 yX7_hour yX7_hour, Cond.code yX7_hour cX7_hour 2 (some .int), Cond.methodLink RX7 115 yX7_passHours, Cond.instanceMethod yX7_passHours, Cond.selects RX7 yX7_passHours yX7_passHours, Cond.code yX7_passHours cX7_passHours 3 (some .int), Cond.methodLink RX7 304 yX1_passHour, Cond.instanceMethod yX1_passHour, Cond.selects RX1 yX1_passHour yX1_passHour, Cond.code yX1_passHour cX1_passHour 3 none, Cond.methodLink RX1 162 yX5_castsAfter, Cond.instanceMethod yX5_castsAfter, Cond.selects RX5 yX5_castsAfter yX5_castsAfter, Cond.code yX5_castsAfter cX5_castsAfter 3 (some .int), Cond.methodLink RX5 44 Lib.Math.min.name, Cond.methodLink RX5 40 yX5_isPlayed, Cond.methodLink RX7 307 yX1_allCasts]
def wsL_law_r32 : List Cond := [Cond.instanceMethod yX1_allCasts, Cond.selects RX1 yX1_allCasts yX1_allCasts, Cond.code yX1_allCasts cX1_allCasts 3 (some .int), Cond.methodLink RL 69 yX8_hour, Cond.instanceMethod yX8_hour, Cond.selects RX8 yX8_hour yX8_hour, Cond.code yX8_hour cX8_hour 2 (some .int), Cond.methodLink RX8 173 yX8_passes, Cond.instanceMethod yX8_passes, Cond.selects RX8 yX8_passes yX8_passes, Cond.code yX8_passes cX8_passes 4 (some .int), Cond.methodLink RX8 166 yX8_castsAfter, Cond.instanceMethod yX8_castsAfter, Cond.selects RX8 yX8_castsAfter yX8_castsAfter, Cond.code yX8_castsAfter cX8_castsAfter 4 (some .int), Cond.methodLink RX8 169 yX8_allCasts, Cond.instanceMethod yX8_allCasts, Cond.selects RX8 yX8_allCasts yX8_allCasts, Cond.code yX8_allCasts cX8_allCasts 3 (some .int), Cond.methodLink RL 70 yX7_script, Cond.instanceMethod yX7_script, Cond.selects RX7 yX7_script yX7_script, Cond.code yX7_script cX7_script 2 (some .int), Cond.methodLink RX7 118 yX2_read]
def wsL_law_r33 : List Cond := [Cond.instanceMethod yX2_read, Cond.selects RX2 yX2_read yX2_read, Cond.code yX2_read cX2_read 3 (some .boolean), Cond.fieldLink RX2 18 "BowlsGreen$Orders" "count" "I", Cond.fieldLink RX2 22 "BowlsGreen$Orders" "position" "I", Cond.methodLink RX2 25 yX2_readOrder, Cond.instanceMethod yX2_readOrder, Cond.selects RX2 yX2_readOrder yX2_readOrder, Cond.code yX2_readOrder cX2_readOrder 7 (some .boolean), Cond.methodLink RX2 29 yJ4_length_8abf5, Cond.methodLink RX2 38 yJ4_charAt_5068e, Cond.instanceMethod yJ4_charAt_5068e, Cond.selects RJ4 yJ4_charAt_5068e yJ4_charAt_5068e, Cond.code yJ4_charAt_5068e cJ4_charAt_5068e 2 (some .char), Cond.methodLink RJ4 329 yJ5_charAt_5068e, Cond.sameMethod "java/lang/AbstractStringBuilder" "java/lang/AbstractStringBuilder" "charAt" "(I)C", Cond.instanceMethod yJ5_charAt_5068e, Cond.code yJ5_charAt_5068e cJ5_charAt_5068e 5 (some .char), Cond.methodLink RJ5 138 Lib.Math.min.name, Cond.methodLink RJ5 144 yJ0_checkIndex_df160, Cond.methodLink RJ5 148 yJ2_getChar_3b067, Cond.static yJ2_getChar_3b067, Cond.code yJ2_getChar_3b067 cJ2_getChar_3b067 2 (some .char), Cond.methodLink RX2 42 yX2_formOf]
def wsL_law_r34 : List Cond := [Cond.static yX2_formOf, Cond.code yX2_formOf cX2_formOf 1 (some (.object "java/lang/String")), Cond.methodLink RX2 46 yJ0_isEmpty_aae02, Cond.instanceMethod yJ0_isEmpty_aae02, Cond.selects RJ0 yJ0_isEmpty_aae02 yJ0_isEmpty_aae02, Cond.code yJ0_isEmpty_aae02 cJ0_isEmpty_aae02 1 (some .boolean), Cond.fieldLink RJ0 9 "java/lang/String" "value" "[B", Cond.methodLink RX2 52 yJ0_length_8abf5, Cond.instanceMethod yJ0_length_8abf5, Cond.selects RJ0 yJ0_length_8abf5 yJ0_length_8abf5, Cond.code yJ0_length_8abf5 cJ0_length_8abf5 1 (some .int), Cond.methodLink RJ0 335 yJ0_coder_7d493, Cond.instanceMethod yJ0_coder_7d493, Cond.selects RJ0 yJ0_coder_7d493 yJ0_coder_7d493, Cond.code yJ0_coder_7d493 cJ0_coder_7d493 1 (some .byte), Cond.fieldLink RJ0 38 "java/lang/String" "COMPACT_STRINGS" "Z", Cond.fieldLink RJ0 15 "java/lang/String" "coder" "B", Cond.methodLink RX2 53 yJ0_charAt_5068e, Cond.instanceMethod yJ0_charAt_5068e, Cond.selects RJ0 yJ0_charAt_5068e yJ0_charAt_5068e, Cond.code yJ0_charAt_5068e cJ0_charAt_5068e 2 (some .char), Cond.methodLink RJ0 492 yJ0_isLatin1_aae02, Cond.instanceMethod yJ0_isLatin1_aae02, Cond.selects RJ0 yJ0_isLatin1_aae02 yJ0_isLatin1_aae02]
def wsL_law_r35 : List Cond := [Cond.code yJ0_isLatin1_aae02 cJ0_isLatin1_aae02 1 (some .boolean), Cond.methodLink RJ0 495 yJ1_charAt_3b067, Cond.static yJ1_charAt_3b067, Cond.code yJ1_charAt_3b067 cJ1_charAt_3b067 2 (some .char), Cond.methodLink RJ1 9 yJ0_checkIndex_df160, Cond.methodLink RJ0 498 yJ2_charAt_3b067, Cond.static yJ2_charAt_3b067, Cond.code yJ2_charAt_3b067 cJ2_charAt_3b067 2 (some .char), Cond.methodLink RJ2 71 yJ2_getChar_3b067, Cond.methodLink RX2 54 yX2_readPart, Cond.instanceMethod yX2_readPart, Cond.selects RX2 yX2_readPart yX2_readPart, Cond.code yX2_readPart cX2_readPart 4 (some .boolean), Cond.methodLink RX2 72 yX2_readDigits, Cond.instanceMethod yX2_readDigits, Cond.selects RX2 yX2_readDigits yX2_readDigits, Cond.code yX2_readDigits cX2_readDigits 6 (some .boolean), Cond.methodLink RX2 78 yX2_isDigit, Cond.static yX2_isDigit, Cond.code yX2_isDigit cX2_isDigit 1 (some .boolean), Cond.methodLink RX2 75 yX2_readSide, Cond.instanceMethod yX2_readSide, Cond.selects RX2 yX2_readSide yX2_readSide, Cond.code yX2_readSide cX2_readSide 3 (some .boolean)]
def wsL_law_r36 : List Cond := [Cond.methodLink RX2 35 yX2_readSign, Cond.instanceMethod yX2_readSign, Cond.selects RX2 yX2_readSign yX2_readSign, Cond.code yX2_readSign cX2_readSign 3 (some .boolean), Cond.methodLink RX2 58 yX2_isKept, Cond.static yX2_isKept, Cond.code yX2_isKept cX2_isKept 1 (some .boolean), Cond.methodLink RX7 122 yX7_carryOutOrders, Cond.instanceMethod yX7_carryOutOrders, Cond.selects RX7 yX7_carryOutOrders yX7_carryOutOrders, Cond.code yX7_carryOutOrders cX7_carryOutOrders 3 (some .int), Cond.fieldLink RX7 313 "BowlsGreen$Orders" "count" "I", Cond.methodLink RX7 316 yX7_carryOut, Cond.instanceMethod yX7_carryOut, Cond.selects RX7 yX7_carryOut yX7_carryOut, Cond.code yX7_carryOut cX7_carryOut 4 (some .int), Cond.fieldLink RX7 328 "BowlsGreen$Orders" "signs" "[I", Cond.methodLink RX7 325 yX2_number, Cond.instanceMethod yX2_number, Cond.selects RX2 yX2_number yX2_number, Cond.code yX2_number cX2_number 3 (some .int), Cond.methodLink RX7 319 yX3_putBack, Cond.instanceMethod yX3_putBack, Cond.selects RX3 yX3_putBack yX3_putBack]
def wsL_law_r37 : List Cond := [Cond.code yX3_putBack cX3_putBack 2 none, Cond.methodLink RX7 322 yX7_refuseScript, Cond.instanceMethod yX7_refuseScript, Cond.selects RX7 yX7_refuseScript yX7_refuseScript, Cond.code yX7_refuseScript cX7_refuseScript 3 (some .int), Cond.methodLink RX7 125 yX7_keepFault, Cond.instanceMethod yX7_keepFault, Cond.selects RX7 yX7_keepFault yX7_keepFault, Cond.code yX7_keepFault cX7_keepFault 1 (some .int), Cond.fieldLink RX7 310 "BowlsGreen$Orders" "position" "I", Cond.methodLink RX7 128 yJ4_setLength_d00df, Cond.instanceMethod yJ4_setLength_d00df, Cond.selects RJ4 yJ4_setLength_d00df yJ4_setLength_d00df, Cond.code yJ4_setLength_d00df cJ4_setLength_d00df 2 none, Cond.methodLink RJ4 333 yJ5_setLength_d00df, Cond.sameMethod "java/lang/AbstractStringBuilder" "java/lang/AbstractStringBuilder" "setLength" "(I)V", Cond.instanceMethod yJ5_setLength_d00df, Cond.code yJ5_setLength_d00df cJ5_setLength_d00df 2 none, Cond.fieldLink RJ5 73 "java/lang/AbstractStringBuilder" "maybeLatin1" "Z", Cond.methodLink RJ5 133 yJ1_fillNull_b72d1, Cond.static yJ1_fillNull_b72d1, Cond.code yJ1_fillNull_b72d1 cJ1_fillNull_b72d1 3 none, Cond.methodLink RJ1 236 yJ7_fill_eb02e, Cond.static yJ7_fill_eb02e]
def wsL_law_r38 : List Cond := [Cond.code yJ7_fill_eb02e cJ7_fill_eb02e 5 none, Cond.methodLink RJ7 13 yJ7_rangeCheck_23922, Cond.static yJ7_rangeCheck_23922, Cond.code yJ7_rangeCheck_23922 cJ7_rangeCheck_23922 3 none, Cond.methodLink RJ5 137 yJ2_fillNull_b72d1, Cond.static yJ2_fillNull_b72d1, Cond.code yJ2_fillNull_b72d1 cJ2_fillNull_b72d1 3 none, Cond.methodLink RJ2 380 yJ7_fill_eb02e, Cond.methodLink RL 73 yX8_script, Cond.instanceMethod yX8_script, Cond.selects RX8 yX8_script yX8_script, Cond.code yX8_script cX8_script 5 (some .int), Cond.fieldLink RX8 176 "BowlsGreenModel" "at" "I", Cond.methodLink RX8 198 yX8_isOrder, Cond.instanceMethod yX8_isOrder, Cond.selects RX8 yX8_isOrder yX8_isOrder, Cond.code yX8_isOrder cX8_isOrder 1 (some .boolean), Cond.fieldLink RX8 187 "BowlsGreenModel" "order" "C", Cond.methodLink RX8 191 yX8_digits, Cond.instanceMethod yX8_digits, Cond.selects RX8 yX8_digits yX8_digits, Cond.code yX8_digits cX8_digits 4 (some .boolean), Cond.methodLink RX8 179 yX8_isNext, Cond.instanceMethod yX8_isNext]
def wsL_law_r39 : List Cond := [Cond.selects RX8 yX8_isNext yX8_isNext, Cond.code yX8_isNext cX8_isNext 2 (some .boolean), Cond.methodLink RX8 194 yX8_side, Cond.instanceMethod yX8_side, Cond.selects RX8 yX8_side yX8_side, Cond.code yX8_side cX8_side 1 (some .boolean), Cond.fieldLink RX8 183 "BowlsGreenModel" "isRight" "Z", Cond.methodLink RX8 201 yX8_carries, Cond.instanceMethod yX8_carries, Cond.selects RX8 yX8_carries yX8_carries, Cond.code yX8_carries cX8_carries 1 (some .int), Cond.methodLink RX8 204 yX8_comesBack, Cond.instanceMethod yX8_comesBack, Cond.selects RX8 yX8_comesBack yX8_comesBack, Cond.code yX8_comesBack cX8_comesBack 2 none, Cond.methodLink RL 74 yX7_fault, Cond.instanceMethod yX7_fault, Cond.selects RX7 yX7_fault yX7_fault, Cond.code yX7_fault cX7_fault 1 (some .int), Cond.methodLink RL 77 yX8_fault, Cond.instanceMethod yX8_fault, Cond.selects RX8 yX8_fault yX8_fault, Cond.code yX8_fault cX8_fault 1 (some .int), Cond.methodLink RL 78 yX7_reason]
def wsL_law_r40 : List Cond := [Cond.instanceMethod yX7_reason, Cond.selects RX7 yX7_reason yX7_reason, Cond.code yX7_reason cX7_reason 3 (some .int), Cond.methodLink RX7 331 yX4_tell, Cond.instanceMethod yX4_tell, Cond.selects RX4 yX4_tell yX4_tell, Cond.code yX4_tell cX4_tell 4 (some .int), Cond.methodLink RL 82 yX8_reason, Cond.instanceMethod yX8_reason, Cond.selects RX8 yX8_reason yX8_reason, Cond.code yX8_reason cX8_reason 3 (some .int), Cond.methodLink RL 83 yX7_rinkOf, Cond.instanceMethod yX7_rinkOf, Cond.selects RX7 yX7_rinkOf yX7_rinkOf, Cond.code yX7_rinkOf cX7_rinkOf 4 (some .int), Cond.fieldLink RX7 335 "BowlsGreen$Rink" "first" "I", Cond.fieldLink RX7 338 "BowlsGreen$Rink" "last" "I", Cond.fieldLink RX7 344 "BowlsGreen$Rink" "closed" "I", Cond.methodLink RX7 341 yX1_woodsOn, Cond.instanceMethod yX1_woodsOn, Cond.selects RX1 yX1_woodsOn yX1_woodsOn, Cond.code yX1_woodsOn cX1_woodsOn 5 (some .int), Cond.methodLink RL 86 yX8_rinkOf, Cond.instanceMethod yX8_rinkOf]
def wsL_law_r41 : List Cond := [Cond.selects RX8 yX8_rinkOf yX8_rinkOf, Cond.code yX8_rinkOf cX8_rinkOf 3 (some .int), Cond.methodLink RX8 207 yX8_countOn, Cond.instanceMethod yX8_countOn, Cond.selects RX8 yX8_countOn yX8_countOn, Cond.code yX8_countOn cX8_countOn 5 (some .int), Cond.methodLink RL 87 yX7_woodOf, Cond.instanceMethod yX7_woodOf, Cond.selects RX7 yX7_woodOf yX7_woodOf, Cond.code yX7_woodOf cX7_woodOf 5 (some .int), Cond.fieldLink RX7 347 "BowlsGreen$Wood" "bias" "I", Cond.methodLink RL 90 yX8_woodOf, Cond.instanceMethod yX8_woodOf, Cond.selects RX8 yX8_woodOf yX8_woodOf, Cond.code yX8_woodOf cX8_woodOf 4 (some .int), Cond.methodLink RL 91 yX7_clubOf, Cond.instanceMethod yX7_clubOf, Cond.selects RX7 yX7_clubOf yX7_clubOf, Cond.code yX7_clubOf cX7_clubOf 4 (some .int), Cond.methodLink RX7 350 yX1_woodsOfClub, Cond.instanceMethod yX1_woodsOfClub, Cond.selects RX1 yX1_woodsOfClub yX1_woodsOfClub, Cond.code yX1_woodsOfClub cX1_woodsOfClub 4 (some .int), Cond.methodLink RX7 353 yX1_woodsOfClubInShed]
def wsL_law_r42 : List Cond := [Cond.instanceMethod yX1_woodsOfClubInShed, Cond.selects RX1 yX1_woodsOfClubInShed yX1_woodsOfClubInShed, Cond.code yX1_woodsOfClubInShed cX1_woodsOfClubInShed 4 (some .int), Cond.methodLink RL 94 yX8_clubOf, Cond.instanceMethod yX8_clubOf, Cond.selects RX8 yX8_clubOf yX8_clubOf, Cond.code yX8_clubOf cX8_clubOf 3 (some .int), Cond.methodLink RX8 210 yX8_woodsOf, Cond.instanceMethod yX8_woodsOf, Cond.selects RX8 yX8_woodsOf yX8_woodsOf, Cond.code yX8_woodsOf cX8_woodsOf 5 (some .int), Cond.methodLink RL 95 yX7_rinkAt, Cond.instanceMethod yX7_rinkAt, Cond.selects RX7 yX7_rinkAt yX7_rinkAt, Cond.code yX7_rinkAt cX7_rinkAt 2 (some .int), Cond.methodLink RX7 356 yX1_rinkInOrder, Cond.instanceMethod yX1_rinkInOrder, Cond.selects RX1 yX1_rinkInOrder yX1_rinkInOrder, Cond.code yX1_rinkInOrder cX1_rinkInOrder 5 (some .int), Cond.methodLink RL 98 yX8_rinkAt, Cond.instanceMethod yX8_rinkAt, Cond.selects RX8 yX8_rinkAt yX8_rinkAt, Cond.code yX8_rinkAt cX8_rinkAt 5 (some .int), Cond.methodLink RL 99 yX7_nearest]
def wsL_law_r43 : List Cond := [Cond.instanceMethod yX7_nearest, Cond.selects RX7 yX7_nearest yX7_nearest, Cond.code yX7_nearest cX7_nearest 3 (some .int), Cond.methodLink RX7 359 yX1_woodInOrder, Cond.instanceMethod yX1_woodInOrder, Cond.selects RX1 yX1_woodInOrder yX1_woodInOrder, Cond.code yX1_woodInOrder cX1_woodInOrder 4 (some .int), Cond.methodLink RX1 109 yX1_woodsBefore, Cond.instanceMethod yX1_woodsBefore, Cond.selects RX1 yX1_woodsBefore yX1_woodsBefore, Cond.code yX1_woodsBefore cX1_woodsBefore 8 (some .int), Cond.methodLink RL 102 yX8_nearest, Cond.instanceMethod yX8_nearest, Cond.selects RX8 yX8_nearest yX8_nearest, Cond.code yX8_nearest cX8_nearest 3 (some .int), Cond.methodLink RX8 214 yX8_atPlace, Cond.instanceMethod yX8_atPlace, Cond.selects RX8 yX8_atPlace yX8_atPlace, Cond.code yX8_atPlace cX8_atPlace 6 (some .int), Cond.methodLink RL 103 yX7_shots, Cond.instanceMethod yX7_shots, Cond.selects RX7 yX7_shots yX7_shots, Cond.code yX7_shots cX7_shots 3 (some .int), Cond.methodLink RX7 362 yX1_countShotsInOrder]
def wsL_law_r44 : List Cond := [Cond.instanceMethod yX1_countShotsInOrder, Cond.selects RX1 yX1_countShotsInOrder yX1_countShotsInOrder, Cond.code yX1_countShotsInOrder cX1_countShotsInOrder 7 (some .int), Cond.methodLink RX1 129 yX1_woodInOrder, Cond.methodLink RX1 132 yX1_isWood, Cond.methodLink RX1 135 yX1_isMatched, Cond.instanceMethod yX1_isMatched, Cond.selects RX1 yX1_isMatched yX1_isMatched, Cond.code yX1_isMatched cX1_isMatched 5 (some .boolean), Cond.methodLink RL 106 yX8_shots, Cond.instanceMethod yX8_shots, Cond.selects RX8 yX8_shots yX8_shots, Cond.code yX8_shots cX8_shots 3 (some .int), Cond.methodLink RL 107 yX7_would, Cond.instanceMethod yX7_would, Cond.selects RX7 yX7_would yX7_would, Cond.code yX7_would cX7_would 6 (some .int), Cond.methodLink RL 110 yX8_would, Cond.instanceMethod yX8_would, Cond.selects RX8 yX8_would yX8_would, Cond.code yX8_would cX8_would 8 (some .int), Cond.methodLink RL 111 yX7_bestStrength, Cond.instanceMethod yX7_bestStrength, Cond.selects RX7 yX7_bestStrength yX7_bestStrength]
def wsL_law_r45 : List Cond := [Cond.code yX7_bestStrength cX7_bestStrength 11 (some .int), Cond.constant RX7 365 (1000000), Cond.methodLink RL 115 yX8_bestStrength, Cond.instanceMethod yX8_bestStrength, Cond.selects RX8 yX8_bestStrength yX8_bestStrength, Cond.code yX8_bestStrength cX8_bestStrength 10 (some .int), Cond.methodLink RL 116 yX7_wetIn, Cond.instanceMethod yX7_wetIn, Cond.selects RX7 yX7_wetIn yX7_wetIn, Cond.code yX7_wetIn cX7_wetIn 3 (some .int), Cond.methodLink RX7 366 yX1_wetAhead, Cond.instanceMethod yX1_wetAhead, Cond.selects RX1 yX1_wetAhead yX1_wetAhead, Cond.code yX1_wetAhead cX1_wetAhead 5 (some .int), Cond.methodLink RL 119 yX8_wetIn, Cond.instanceMethod yX8_wetIn, Cond.selects RX8 yX8_wetIn yX8_wetIn, Cond.code yX8_wetIn cX8_wetIn 3 (some .int), Cond.methodLink RX8 217 yX8_ahead, Cond.instanceMethod yX8_ahead, Cond.selects RX8 yX8_ahead yX8_ahead, Cond.code yX8_ahead cX8_ahead 7 (some .int), Cond.methodLink RL 120 yX7_castsIn, Cond.instanceMethod yX7_castsIn]
def wsL_law_r46 : List Cond := [Cond.selects RX7 yX7_castsIn yX7_castsIn, Cond.code yX7_castsIn cX7_castsIn 3 (some .int), Cond.methodLink RX7 369 yX1_castsAhead, Cond.instanceMethod yX1_castsAhead, Cond.selects RX1 yX1_castsAhead yX1_castsAhead, Cond.code yX1_castsAhead cX1_castsAhead 6 (some .int), Cond.methodLink RL 123 yX8_castsIn, Cond.instanceMethod yX8_castsIn, Cond.selects RX8 yX8_castsIn yX8_castsIn, Cond.code yX8_castsIn cX8_castsIn 3 (some .int), Cond.methodLink RL 124 yX7_dryIn, Cond.instanceMethod yX7_dryIn, Cond.selects RX7 yX7_dryIn yX7_dryIn, Cond.code yX7_dryIn cX7_dryIn 3 (some .int), Cond.methodLink RL 127 yX8_dryIn, Cond.instanceMethod yX8_dryIn, Cond.selects RX8 yX8_dryIn yX8_dryIn, Cond.code yX8_dryIn cX8_dryIn 3 (some .int), Cond.methodLink RL 128 yX7_leader, Cond.instanceMethod yX7_leader, Cond.selects RX7 yX7_leader yX7_leader, Cond.code yX7_leader cX7_leader 3 (some .int), Cond.methodLink RL 131 yX8_leader, Cond.instanceMethod yX8_leader]
def wsL_law_r47 : List Cond := [Cond.selects RX8 yX8_leader yX8_leader, Cond.code yX8_leader cX8_leader 2 (some .int), Cond.methodLink RL 132 yX7_describe, Cond.instanceMethod yX7_describe, Cond.selects RX7 yX7_describe yX7_describe, Cond.code yX7_describe cX7_describe 5 (some .int), Cond.methodLink RX7 372 yJ4_append_bf812, Cond.instanceMethod yJ4_append_bf812, Cond.selects RJ4 yJ4_append_bf812 yJ4_append_bf812, Cond.code yJ4_append_bf812 cJ4_append_bf812 2 (some (.object "java/lang/StringBuilder")), Cond.methodLink RJ4 53 yJ5_append_c97b9, Cond.sameMethod "java/lang/AbstractStringBuilder" "java/lang/AbstractStringBuilder" "append" "(I)Ljava/lang/AbstractStringBuilder;", Cond.instanceMethod yJ5_append_c97b9, Cond.code yJ5_append_c97b9 cJ5_append_c97b9 4 (some (.object "java/lang/AbstractStringBuilder")), Cond.methodLink RJ5 245 yJ6_stringSize_0f7a4, Cond.static yJ6_stringSize_0f7a4, Cond.initialized RJ6, Cond.code yJ6_stringSize_0f7a4 cJ6_stringSize_0f7a4 4 (some .int), Cond.methodLink RJ5 248 yJ6_getChars_ba4f3, Cond.static yJ6_getChars_ba4f3, Cond.code yJ6_getChars_ba4f3 cJ6_getChars_ba4f3 7 (some .int), Cond.fieldLink RJ6 83 "java/lang/Integer" "DigitOnes" "[B", Cond.fieldLink RJ6 87 "java/lang/Integer" "DigitTens" "[B", Cond.methodLink RJ5 251 yJ2_getChars_46870]
def wsL_law_r48 : List Cond := [Cond.static yJ2_getChars_46870, Cond.code yJ2_getChars_46870 cJ2_getChars_46870 5 (some .int), Cond.methodLink RJ2 96 yJ2_checkBoundsBeginEnd_d044e, Cond.static yJ2_checkBoundsBeginEnd_d044e, Cond.code yJ2_checkBoundsBeginEnd_d044e cJ2_checkBoundsBeginEnd_d044e 3 none, Cond.methodLink RJ2 241 yJ0_checkBoundsBeginEnd_23922, Cond.static yJ0_checkBoundsBeginEnd_23922, Cond.code yJ0_checkBoundsBeginEnd_23922 cJ0_checkBoundsBeginEnd_23922 3 none, Cond.methodLink RJ0 1062 yJ3_checkFromToIndex_8c36e, Cond.static yJ3_checkFromToIndex_8c36e, Cond.code yJ3_checkFromToIndex_8c36e cJ3_checkFromToIndex_8c36e 4 (some .int), Cond.methodLink RJ2 393 yJ2_getChars_ba4f3, Cond.static yJ2_getChars_ba4f3, Cond.code yJ2_getChars_ba4f3 cJ2_getChars_ba4f3 7 (some .int), Cond.fieldLink RJ2 403 "java/lang/Integer" "DigitOnes" "[B", Cond.fieldLink RJ2 407 "java/lang/Integer" "DigitTens" "[B", Cond.methodLink RX7 377 yJ4_append_15ec4, Cond.instanceMethod yJ4_append_15ec4, Cond.selects RJ4 yJ4_append_15ec4 yJ4_append_15ec4, Cond.code yJ4_append_15ec4 cJ4_append_15ec4 2 (some (.object "java/lang/StringBuilder")), Cond.methodLink RJ4 29 yJ5_append_cf1ce, Cond.sameMethod "java/lang/AbstractStringBuilder" "java/lang/AbstractStringBuilder" "append" "(Ljava/lang/String;)Ljava/lang/AbstractStringBuilder;", Cond.instanceMethod yJ5_append_cf1ce, Cond.code yJ5_append_cf1ce cJ5_append_cf1ce 3 (some (.object "java/lang/AbstractStringBuilder"))]
def wsL_law_r49 : List Cond := [Cond.methodLink RJ5 204 ⟨"java/lang/AbstractStringBuilder", "appendNull", "()Ljava/lang/AbstractStringBuilder;"⟩, Cond.sameMethod "java/lang/AbstractStringBuilder" "java/lang/AbstractStringBuilder" "appendNull" "()Ljava/lang/AbstractStringBuilder;", Cond.selects RJ4 ⟨"java/lang/AbstractStringBuilder", "appendNull", "()Ljava/lang/AbstractStringBuilder;"⟩ yJ5_appendNull_278bc, Cond.instanceMethod yJ5_appendNull_278bc, Cond.code yJ5_appendNull_278bc cJ5_appendNull_278bc 3 (some (.object "java/lang/AbstractStringBuilder")), Cond.methodLink RJ5 226 yJ2_putCharsAt_cd4e5, Cond.static yJ2_putCharsAt_cd4e5, Cond.code yJ2_putCharsAt_cd4e5 cJ2_putCharsAt_cd4e5 7 (some .int), Cond.methodLink RJ5 32 yJ0_length_8abf5, Cond.methodLink RJ5 208 ⟨"java/lang/AbstractStringBuilder", "putStringAt", "(ILjava/lang/String;)V"⟩, Cond.sameMethod "java/lang/AbstractStringBuilder" "java/lang/AbstractStringBuilder" "putStringAt" "(ILjava/lang/String;)V", Cond.selects RJ4 ⟨"java/lang/AbstractStringBuilder", "putStringAt", "(ILjava/lang/String;)V"⟩ yJ5_putStringAt_47b60, Cond.instanceMethod yJ5_putStringAt_47b60, Cond.code yJ5_putStringAt_47b60 cJ5_putStringAt_47b60 3 none, Cond.methodLink RJ5 397 ⟨"java/lang/AbstractStringBuilder", "inflateIfNeededFor", "(Ljava/lang/String;)V"⟩, Cond.sameMethod "java/lang/AbstractStringBuilder" "java/lang/AbstractStringBuilder" "inflateIfNeededFor" "(Ljava/lang/String;)V", Cond.selects RJ4 ⟨"java/lang/AbstractStringBuilder", "inflateIfNeededFor", "(Ljava/lang/String;)V"⟩ yJ5_inflateIfNeededFor_a7421, Cond.instanceMethod yJ5_inflateIfNeededFor_a7421, Cond.code yJ5_inflateIfNeededFor_a7421 cJ5_inflateIfNeededFor_a7421 2 none, Cond.methodLink RJ5 40 yJ0_coder_7d493, Cond.methodLink RJ5 399 yJ0_getBytes_840e7, Cond.instanceMethod yJ0_getBytes_840e7, Cond.selects RJ0 yJ0_getBytes_840e7 yJ0_getBytes_840e7, Cond.code yJ0_getBytes_840e7 cJ0_getBytes_840e7 4 none]
def wsL_law_r50 : List Cond := [Cond.methodLink RJ0 212 arraycopyName, Cond.methodLink RJ0 106 yJ1_inflate_0e8fd, Cond.methodLink RX7 386 yX7_writeWood, Cond.instanceMethod yX7_writeWood, Cond.selects RX7 yX7_writeWood yX7_writeWood, Cond.code yX7_writeWood cX7_writeWood 2 none, Cond.methodLink RL 135 yX8_describe, Cond.instanceMethod yX8_describe, Cond.selects RX8 yX8_describe yX8_describe, Cond.code yX8_describe cX8_describe 4 (some .int), Cond.fieldLink RX8 225 "BowlsGreenModel" "lined" "I", Cond.methodLink RX8 232 yX8_writesNumber, Cond.instanceMethod yX8_writesNumber, Cond.selects RX8 yX8_writesNumber yX8_writesNumber, Cond.code yX8_writesNumber cX8_writesNumber 2 none, Cond.methodLink RX8 238 yX8_writes, Cond.instanceMethod yX8_writes, Cond.selects RX8 yX8_writes yX8_writes, Cond.code yX8_writes cX8_writes 3 none, Cond.methodLink RX8 221 yJ0_length_8abf5, Cond.methodLink RX8 228 yJ0_charAt_5068e, Cond.methodLink RL 136 yX7_written, Cond.instanceMethod yX7_written, Cond.selects RX7 yX7_written yX7_written]
def wsL_law_r51 : List Cond := [Cond.code yX7_written cX7_written 2 (some .int), Cond.methodLink RX7 389 yJ4_charAt_5068e, Cond.methodLink RL 139 yX8_written, Cond.instanceMethod yX8_written, Cond.selects RX8 yX8_written yX8_written, Cond.code yX8_written cX8_written 2 (some .int), Cond.methodLink RL 140 yX7_meanWet, Cond.instanceMethod yX7_meanWet, Cond.selects RX7 yX7_meanWet yX7_meanWet, Cond.code yX7_meanWet cX7_meanWet 1 (some .float), Cond.methodLink RX7 393 yX1_allWet, Cond.instanceMethod yX1_allWet, Cond.selects RX1 yX1_allWet yX1_allWet, Cond.code yX1_allWet cX1_allWet 3 (some .int), Cond.methodLink RL 144 yX8_meanWet, Cond.instanceMethod yX8_meanWet, Cond.selects RX8 yX8_meanWet yX8_meanWet, Cond.code yX8_meanWet cX8_meanWet 4 (some .float), Cond.methodLink RL 145 yX7_winShare, Cond.instanceMethod yX7_winShare, Cond.selects RX7 yX7_winShare yX7_winShare, Cond.code yX7_winShare cX7_winShare 2 (some .double), Cond.methodLink RX7 396 yX1_endsClosed, Cond.instanceMethod yX1_endsClosed]
def wsL_law_r52 : List Cond := [Cond.selects RX1 yX1_endsClosed yX1_endsClosed, Cond.code yX1_endsClosed cX1_endsClosed 3 (some .int), Cond.fieldLink RX1 156 "BowlsGreen$Rink" "closed" "I", Cond.methodLink RL 149 yX8_winShare, Cond.instanceMethod yX8_winShare, Cond.selects RX8 yX8_winShare yX8_winShare, Cond.code yX8_winShare cX8_winShare 2 (some .double), Cond.methodLink RX8 252 yX8_closed, Cond.instanceMethod yX8_closed, Cond.selects RX8 yX8_closed yX8_closed, Cond.code yX8_closed cX8_closed 3 (some .int), Cond.methodLink RL 150 yX7_account, Cond.instanceMethod yX7_account, Cond.selects RX7 yX7_account yX7_account, Cond.code yX7_account cX7_account 2 (some .int), Cond.fieldLink RX7 405 "BowlsGreen$Green" "drunk" "I", Cond.fieldLink RX7 411 "BowlsGreen$Past" "count" "I", Cond.methodLink RX7 399 yX1_endsPlayed, Cond.instanceMethod yX1_endsPlayed, Cond.selects RX1 yX1_endsPlayed yX1_endsPlayed, Cond.code yX1_endsPlayed cX1_endsPlayed 3 (some .int), Cond.methodLink RX1 152 yX5_isPlayed, Cond.methodLink RX7 402 yX1_woodsBowled, Cond.instanceMethod yX1_woodsBowled]
def wsL_law_r53 : List Cond := [Cond.selects RX1 yX1_woodsBowled yX1_woodsBowled, Cond.code yX1_woodsBowled cX1_woodsBowled 3 (some .int), Cond.fieldLink RX1 149 "BowlsGreen$Wood" "bowled" "I", Cond.methodLink RX7 408 yX1_woodsInShed, Cond.instanceMethod yX1_woodsInShed, Cond.selects RX1 yX1_woodsInShed yX1_woodsInShed, Cond.code yX1_woodsInShed cX1_woodsInShed 1 (some .int), Cond.methodLink RX1 145 yX1_woodsOfClubInShed, Cond.methodLink RL 153 yX8_account, Cond.instanceMethod yX8_account, Cond.selects RX8 yX8_account yX8_account, Cond.code yX8_account cX8_account 4 (some .int), Cond.methodLink RL 154 yX7_undo, Cond.instanceMethod yX7_undo, Cond.selects RX7 yX7_undo yX7_undo, Cond.code yX7_undo cX7_undo 1 (some .int), Cond.methodLink RX7 412 yX3_takeBack, Cond.instanceMethod yX3_takeBack, Cond.selects RX3 yX3_takeBack yX3_takeBack, Cond.code yX3_takeBack cX3_takeBack 2 none, Cond.methodLink RL 157 yX8_undo, Cond.instanceMethod yX8_undo, Cond.selects RX8 yX8_undo yX8_undo, Cond.code yX8_undo cX8_undo 2 (some .int)]
def wsL_law_r54 : List Cond := [Cond.methodLink RL 158 yX7_save, Cond.instanceMethod yX7_save, Cond.selects RX7 yX7_save yX7_save, Cond.code yX7_save cX7_save 1 (some .int), Cond.methodLink RX7 415 yX1_become, Cond.methodLink RL 161 yX8_save, Cond.instanceMethod yX8_save, Cond.selects RX8 yX8_save yX8_save, Cond.code yX8_save cX8_save 2 (some .int), Cond.fieldLink RX8 255 "BowlsGreenModel" "isSaved" "Z", Cond.methodLink RL 162 yX7_restore, Cond.instanceMethod yX7_restore, Cond.selects RX7 yX7_restore yX7_restore, Cond.code yX7_restore cX7_restore 1 (some .int), Cond.methodLink RL 165 yX8_restore, Cond.instanceMethod yX8_restore, Cond.selects RX8 yX8_restore yX8_restore, Cond.code yX8_restore cX8_restore 2 (some .int)]
def wsL_law : List Cond := (wsL_law_r1 ++ (wsL_law_r2 ++ (wsL_law_r3 ++ (wsL_law_r4 ++ (wsL_law_r5 ++ (wsL_law_r6 ++ (wsL_law_r7 ++ (wsL_law_r8 ++ (wsL_law_r9 ++ (wsL_law_r10 ++ (wsL_law_r11 ++ (wsL_law_r12 ++ (wsL_law_r13 ++ (wsL_law_r14 ++ (wsL_law_r15 ++ (wsL_law_r16 ++ (wsL_law_r17 ++ (wsL_law_r18 ++ (wsL_law_r19 ++ (wsL_law_r20 ++ (wsL_law_r21 ++ (wsL_law_r22 ++ (wsL_law_r23 ++ (wsL_law_r24 ++ (wsL_law_r25 ++ (wsL_law_r26 ++ (wsL_law_r27 ++ (wsL_law_r28 ++ (wsL_law_r29 ++ (wsL_law_r30 ++ (wsL_law_r31 ++ (wsL_law_r32 ++ (wsL_law_r33 ++ (wsL_law_r34 ++ (wsL_law_r35 ++ (wsL_law_r36 ++ (wsL_law_r37 ++ (wsL_law_r38 ++ (wsL_law_r39 ++ (wsL_law_r40 ++ (wsL_law_r41 ++ (wsL_law_r42 ++ (wsL_law_r43 ++ (wsL_law_r44 ++ (wsL_law_r45 ++ (wsL_law_r46 ++ (wsL_law_r47 ++ (wsL_law_r48 ++ (wsL_law_r49 ++ (wsL_law_r50 ++ (wsL_law_r51 ++ (wsL_law_r52 ++ (wsL_law_r53 ++ wsL_law_r54))))))))))))))))))))))))))))))))))))))))))))))))))))) ++ wsX70 ++ wsX80 ++ wsX10 ++ wsX30 ++ wsJ40 ++ wsX20 ++ wsX40 ++ wsX50 ++ wsX60 ++ wsX00 ++ ([] : List Cond)
set_option maxRecDepth 20000 in
theorem wsL_law_in : ∀ w ∈ wsL_law, w ∈ lw_tbl := fun w h => (goodIn_p wsL_law [108, 111, 116, 123, 173, 221, 243, 247, 297, 317, 320, 326, 329, 349, 371, 1144, 1149, 414, 419, 1209, 423, 427, 430, 434, 437, 441, 445, 448, 451, 455, 459, 469, 477, 480, 484, 487, 490, 493, 496, 499, 504, 507, 516, 519, 522, 525, 1213, 1216, 529, 533, 537, 541, 545, 549, 553, 557, 561, 565, 569, 573, 577, 580, 584, 1220, 1224, 1228, 1232, 1236, 1240, 589, 593, 596, 600, 1244, 1248, 604, 608, 612, 616, 620, 624, 630, 634, 1252, 1256, 1260, 1264, 1268, 1274, 1278, 1282, 638, 642, 646, 650, 653, 657, 661, 666, 670, 673, 677, 1286, 1290, 1294, 1298, 1302, 1306, 1310, 1314, 1318, 1322, 681, 685, 689, 693, 698, 702, 706, 1326, 1330, 1334, 1338, 1343, 710, 714, 718, 1347, 1351, 722, 726, 729, 1355, 1359, 733, 737, 1363, 741, 745, 1367, 750, 754, 1371, 1375, 758, 762, 766, 770, 776, 1379, 1383, 1387, 1391, 780, 784, 788, 793, 796, 801, 804, 813, 817, 821, 826, 830, 833, 837, 842, 846, 849, 853, 857, 860, 864, 868, 872, 876, 880, 884, 888, 891, 894, 897, 900, 903, 1395, 1399, 1403, 1407, 1411, 1415, 1419, 908, 1423, 912, 916, 1427, 920, 924, 1431, 1435, 928, 1439, 932, 936, 940, 1443, 1447, 944, 948, 1451, 952, 956, 960, 1455, 1459, 964, 968, 974, 1463, 978, 1467, 982, 1471, 987, 991, 1475, 1479, 995, 999, 1483, 1003, 1487, 1007, 1491, 1011, 1015, 1018, 1021, 1024, 1031, 1034, 1037, 1040, 1043, 1050, 1053, 1057, 1060, 1065, 1069, 1074, 1083, 1495, 1499, 1504, 1087, 1515, 1092, 1096, 1519, 1100, 1104, 1523, 1527, 1108, 1112, 1117, 1121, 1531, 1126, 1130, 1535, 1134, 1539, 1139, 1543] (by decide +kernel) (by decide +kernel) w h).1
theorem inlX0 : ∀ w ∈ wsX00, w ∈ wsL_law := fun _ h => List.mem_append_left _ (List.mem_append_right _ h)
theorem inX0 : ∀ w ∈ wsX00, w ∈ lw_tbl := fun w h => wsL_law_in w (inlX0 w h)
theorem inlX1 : ∀ w ∈ wsX10, w ∈ wsL_law := fun _ h => List.mem_append_left _ (List.mem_append_left _ (List.mem_append_left _ (List.mem_append_left _ (List.mem_append_left _ (List.mem_append_left _ (List.mem_append_left _ (List.mem_append_left _ (List.mem_append_right _ h))))))))
theorem inX1 : ∀ w ∈ wsX10, w ∈ lw_tbl := fun w h => wsL_law_in w (inlX1 w h)
theorem inlX2 : ∀ w ∈ wsX20, w ∈ wsL_law := fun _ h => List.mem_append_left _ (List.mem_append_left _ (List.mem_append_left _ (List.mem_append_left _ (List.mem_append_left _ (List.mem_append_right _ h)))))
theorem inX2 : ∀ w ∈ wsX20, w ∈ lw_tbl := fun w h => wsL_law_in w (inlX2 w h)
theorem inlX3 : ∀ w ∈ wsX30, w ∈ wsL_law := fun _ h => List.mem_append_left _ (List.mem_append_left _ (List.mem_append_left _ (List.mem_append_left _ (List.mem_append_left _ (List.mem_append_left _ (List.mem_append_left _ (List.mem_append_right _ h)))))))
theorem inX3 : ∀ w ∈ wsX30, w ∈ lw_tbl := fun w h => wsL_law_in w (inlX3 w h)
theorem inlX4 : ∀ w ∈ wsX40, w ∈ wsL_law := fun _ h => List.mem_append_left _ (List.mem_append_left _ (List.mem_append_left _ (List.mem_append_left _ (List.mem_append_right _ h))))
theorem inX4 : ∀ w ∈ wsX40, w ∈ lw_tbl := fun w h => wsL_law_in w (inlX4 w h)
theorem inlX5 : ∀ w ∈ wsX50, w ∈ wsL_law := fun _ h => List.mem_append_left _ (List.mem_append_left _ (List.mem_append_left _ (List.mem_append_right _ h)))
theorem inX5 : ∀ w ∈ wsX50, w ∈ lw_tbl := fun w h => wsL_law_in w (inlX5 w h)
theorem inlX6 : ∀ w ∈ wsX60, w ∈ wsL_law := fun _ h => List.mem_append_left _ (List.mem_append_left _ (List.mem_append_right _ h))
theorem inX6 : ∀ w ∈ wsX60, w ∈ lw_tbl := fun w h => wsL_law_in w (inlX6 w h)
theorem inlX7 : ∀ w ∈ wsX70, w ∈ wsL_law := fun _ h => List.mem_append_left _ (List.mem_append_left _ (List.mem_append_left _ (List.mem_append_left _ (List.mem_append_left _ (List.mem_append_left _ (List.mem_append_left _ (List.mem_append_left _ (List.mem_append_left _ (List.mem_append_left _ (List.mem_append_right _ h))))))))))
theorem inX7 : ∀ w ∈ wsX70, w ∈ lw_tbl := fun w h => wsL_law_in w (inlX7 w h)
theorem inlX8 : ∀ w ∈ wsX80, w ∈ wsL_law := fun _ h => List.mem_append_left _ (List.mem_append_left _ (List.mem_append_left _ (List.mem_append_left _ (List.mem_append_left _ (List.mem_append_left _ (List.mem_append_left _ (List.mem_append_left _ (List.mem_append_left _ (List.mem_append_right _ h)))))))))
theorem inX8 : ∀ w ∈ wsX80, w ∈ lw_tbl := fun w h => wsL_law_in w (inlX8 w h)
theorem inJ5 : ∀ w ∈ wsJ50, w ∈ lw_tbl := by decide +kernel
theorem inJx8e188 : ∀ w ∈ wsJx8e1880, w ∈ lw_tbl := by decide +kernel
theorem inJ6 : ∀ w ∈ wsJ60, w ∈ lw_tbl := by decide +kernel
theorem inJ9 : ∀ w ∈ wsJ90, w ∈ lw_tbl := by decide +kernel
theorem inJ0 : ∀ w ∈ wsJ00, w ∈ lw_tbl := by decide +kernel
theorem inlJ4 : ∀ w ∈ wsJ40, w ∈ wsL_law := fun _ h => List.mem_append_left _ (List.mem_append_left _ (List.mem_append_left _ (List.mem_append_left _ (List.mem_append_left _ (List.mem_append_left _ (List.mem_append_right _ h))))))
theorem inJ4 : ∀ w ∈ wsJ40, w ∈ lw_tbl := fun w h => wsL_law_in w (inlJ4 w h)
theorem inJ1 : ∀ w ∈ wsJ10, w ∈ lw_tbl := by decide +kernel
theorem inJ2 : ∀ w ∈ wsJ20, w ∈ lw_tbl := by decide +kernel
theorem inJ10 : ∀ w ∈ wsJ100, w ∈ lw_tbl := by decide +kernel
theorem inJ7 : ∀ w ∈ wsJ70, w ∈ lw_tbl := by decide +kernel
theorem inJ8 : ∀ w ∈ wsJ80, w ∈ lw_tbl := by decide +kernel
theorem inJ3 : ∀ w ∈ wsJ30, w ∈ lw_tbl := by decide +kernel
abbrev vwCl : List vw_C := [(RJ4, TJ4, 4), (RX0, TX0, 4), (RX1, TX1, 11), (RX2, TX2, 4), (RX3, TX3, 3), (RX4, TX4, 3), (RX5, TX5, 9), (RX6, TX6, 8), (RX7, TX7, 9), (RX8, TX8, 18)]
end
section
theorem dX0_init_0 : decode cX0_init 0 = .ok (.aload_n 0, 1) := by decide +kernel
theorem dX0_init_1 : decode cX0_init 1 = .ok (.invokespecial 3, 3) := by decide +kernel
theorem dX0_init_4 : decode cX0_init 4 = .ok (.return_, 1) := by decide +kernel
theorem dX0_reset_0 : decode cX0_reset 0 = .ok (.aload_n 0, 1) := by decide +kernel
theorem dX0_reset_1 : decode cX0_reset 1 = .ok (.iconst 0, 1) := by decide +kernel
theorem dX0_reset_2 : decode cX0_reset 2 = .ok (.putfield 9, 3) := by decide +kernel
theorem dX0_reset_5 : decode cX0_reset 5 = .ok (.aload_n 0, 1) := by decide +kernel
theorem dX0_reset_6 : decode cX0_reset 6 = .ok (.iconst 0, 1) := by decide +kernel
theorem dX0_reset_7 : decode cX0_reset 7 = .ok (.putfield 15, 3) := by decide +kernel
theorem dX0_reset_10 : decode cX0_reset 10 = .ok (.aload_n 0, 1) := by decide +kernel
theorem dX0_reset_11 : decode cX0_reset 11 = .ok (.bipush 10, 2) := by decide +kernel
theorem dX0_reset_13 : decode cX0_reset 13 = .ok (.putfield 18, 3) := by decide +kernel
theorem dX0_reset_16 : decode cX0_reset 16 = .ok (.aload_n 0, 1) := by decide +kernel
theorem dX0_reset_17 : decode cX0_reset 17 = .ok (.iconst 0, 1) := by decide +kernel
theorem dX0_reset_18 : decode cX0_reset 18 = .ok (.putfield 21, 3) := by decide +kernel
theorem dX0_reset_21 : decode cX0_reset 21 = .ok (.return_, 1) := by decide +kernel
theorem dX0_become_0 : decode cX0_become 0 = .ok (.aload_n 0, 1) := by decide +kernel
theorem dX0_become_1 : decode cX0_become 1 = .ok (.aload_n 1, 1) := by decide +kernel
theorem dX0_become_2 : decode cX0_become 2 = .ok (.getfield 9, 3) := by decide +kernel
theorem dX0_become_5 : decode cX0_become 5 = .ok (.putfield 9, 3) := by decide +kernel
theorem dX0_become_8 : decode cX0_become 8 = .ok (.aload_n 0, 1) := by decide +kernel
theorem dX0_become_9 : decode cX0_become 9 = .ok (.aload_n 1, 1) := by decide +kernel
theorem dX0_become_10 : decode cX0_become 10 = .ok (.getfield 15, 3) := by decide +kernel
theorem dX0_become_13 : decode cX0_become 13 = .ok (.putfield 15, 3) := by decide +kernel
theorem dX0_become_16 : decode cX0_become 16 = .ok (.aload_n 0, 1) := by decide +kernel
theorem dX0_become_17 : decode cX0_become 17 = .ok (.aload_n 1, 1) := by decide +kernel
theorem dX0_become_18 : decode cX0_become 18 = .ok (.getfield 18, 3) := by decide +kernel
theorem dX0_become_21 : decode cX0_become 21 = .ok (.putfield 18, 3) := by decide +kernel
theorem dX0_become_24 : decode cX0_become 24 = .ok (.aload_n 0, 1) := by decide +kernel
theorem dX0_become_25 : decode cX0_become 25 = .ok (.aload_n 1, 1) := by decide +kernel
theorem dX0_become_26 : decode cX0_become 26 = .ok (.getfield 21, 3) := by decide +kernel
theorem dX0_become_29 : decode cX0_become 29 = .ok (.putfield 21, 3) := by decide +kernel
theorem dX0_become_32 : decode cX0_become 32 = .ok (.return_, 1) := by decide +kernel
theorem dX1_init_0 : decode cX1_init 0 = .ok (.aload_n 0, 1) := by decide +kernel
theorem dX1_init_1 : decode cX1_init 1 = .ok (.invokespecial 3, 3) := by decide +kernel
theorem dX1_init_4 : decode cX1_init 4 = .ok (.aload_n 0, 1) := by decide +kernel
theorem dX1_init_5 : decode cX1_init 5 = .ok (.iconst 4, 1) := by decide +kernel
theorem dX1_init_6 : decode cX1_init 6 = .ok (.anewarray 9, 3) := by decide +kernel
theorem dX1_init_9 : decode cX1_init 9 = .ok (.putfield 11, 3) := by decide +kernel
theorem dX1_init_12 : decode cX1_init 12 = .ok (.iconst 0, 1) := by decide +kernel
theorem dX1_init_13 : decode cX1_init 13 = .ok (.istore_n 1, 1) := by decide +kernel
theorem dX1_init_14 : decode cX1_init 14 = .ok (.iload_n 1, 1) := by decide +kernel
theorem dX1_init_15 : decode cX1_init 15 = .ok (.iconst 4, 1) := by decide +kernel
theorem dX1_init_16 : decode cX1_init 16 = .ok (.if_icmp .ge 22, 3) := by decide +kernel
theorem dX1_init_19 : decode cX1_init 19 = .ok (.aload_n 0, 1) := by decide +kernel
theorem dX1_init_20 : decode cX1_init 20 = .ok (.getfield 11, 3) := by decide +kernel
theorem dX1_init_23 : decode cX1_init 23 = .ok (.iload_n 1, 1) := by decide +kernel
theorem dX1_init_24 : decode cX1_init 24 = .ok (.new 9, 3) := by decide +kernel
theorem dX1_init_27 : decode cX1_init 27 = .ok (.dup, 1) := by decide +kernel
theorem dX1_init_28 : decode cX1_init 28 = .ok (.invokespecial 17, 3) := by decide +kernel
theorem dX1_init_31 : decode cX1_init 31 = .ok (.aastore, 1) := by decide +kernel
theorem dX1_init_32 : decode cX1_init 32 = .ok (.iinc 1 1, 3) := by decide +kernel
theorem dX1_init_35 : decode cX1_init 35 = .ok (.goto (-21), 3) := by decide +kernel
theorem dX1_init_38 : decode cX1_init 38 = .ok (.aload_n 0, 1) := by decide +kernel
theorem dX1_init_39 : decode cX1_init 39 = .ok (.bipush 16, 2) := by decide +kernel
theorem dX1_init_41 : decode cX1_init 41 = .ok (.anewarray 18, 3) := by decide +kernel
theorem dX1_init_44 : decode cX1_init 44 = .ok (.putfield 20, 3) := by decide +kernel
theorem dX1_init_47 : decode cX1_init 47 = .ok (.iconst 0, 1) := by decide +kernel
theorem dX1_init_48 : decode cX1_init 48 = .ok (.istore_n 1, 1) := by decide +kernel
theorem dX1_init_49 : decode cX1_init 49 = .ok (.iload_n 1, 1) := by decide +kernel
theorem dX1_init_50 : decode cX1_init 50 = .ok (.bipush 16, 2) := by decide +kernel
theorem dX1_init_52 : decode cX1_init 52 = .ok (.if_icmp .ge 22, 3) := by decide +kernel
theorem dX1_init_55 : decode cX1_init 55 = .ok (.aload_n 0, 1) := by decide +kernel
theorem dX1_init_56 : decode cX1_init 56 = .ok (.getfield 20, 3) := by decide +kernel
theorem dX1_init_59 : decode cX1_init 59 = .ok (.iload_n 1, 1) := by decide +kernel
theorem dX1_init_60 : decode cX1_init 60 = .ok (.new 18, 3) := by decide +kernel
theorem dX1_init_63 : decode cX1_init 63 = .ok (.dup, 1) := by decide +kernel
theorem dX1_init_64 : decode cX1_init 64 = .ok (.invokespecial 24, 3) := by decide +kernel
theorem dX1_init_67 : decode cX1_init 67 = .ok (.aastore, 1) := by decide +kernel
theorem dX1_init_68 : decode cX1_init 68 = .ok (.iinc 1 1, 3) := by decide +kernel
theorem dX1_init_71 : decode cX1_init 71 = .ok (.goto (-22), 3) := by decide +kernel
theorem dX1_init_74 : decode cX1_init 74 = .ok (.aload_n 0, 1) := by decide +kernel
theorem dX1_init_75 : decode cX1_init 75 = .ok (.iconst 2, 1) := by decide +kernel
theorem dX1_init_76 : decode cX1_init 76 = .ok (.anewarray 25, 3) := by decide +kernel
theorem dX1_init_79 : decode cX1_init 79 = .ok (.putfield 27, 3) := by decide +kernel
theorem dX1_init_82 : decode cX1_init 82 = .ok (.iconst 0, 1) := by decide +kernel
theorem dX1_init_83 : decode cX1_init 83 = .ok (.istore_n 1, 1) := by decide +kernel
theorem dX1_init_84 : decode cX1_init 84 = .ok (.iload_n 1, 1) := by decide +kernel
theorem dX1_init_85 : decode cX1_init 85 = .ok (.iconst 2, 1) := by decide +kernel
theorem dX1_init_86 : decode cX1_init 86 = .ok (.if_icmp .ge 22, 3) := by decide +kernel
theorem dX1_init_89 : decode cX1_init 89 = .ok (.aload_n 0, 1) := by decide +kernel
theorem dX1_init_90 : decode cX1_init 90 = .ok (.getfield 27, 3) := by decide +kernel
theorem dX1_init_93 : decode cX1_init 93 = .ok (.iload_n 1, 1) := by decide +kernel
theorem dX1_init_94 : decode cX1_init 94 = .ok (.new 25, 3) := by decide +kernel
theorem dX1_init_97 : decode cX1_init 97 = .ok (.dup, 1) := by decide +kernel
theorem dX1_init_98 : decode cX1_init 98 = .ok (.invokespecial 31, 3) := by decide +kernel
theorem dX1_init_101 : decode cX1_init 101 = .ok (.aastore, 1) := by decide +kernel
theorem dX1_init_102 : decode cX1_init 102 = .ok (.iinc 1 1, 3) := by decide +kernel
theorem dX1_init_105 : decode cX1_init 105 = .ok (.goto (-21), 3) := by decide +kernel
theorem dX1_init_108 : decode cX1_init 108 = .ok (.aload_n 0, 1) := by decide +kernel
theorem dX1_init_109 : decode cX1_init 109 = .ok (.invokevirtual 32, 3) := by decide +kernel
theorem dX1_init_112 : decode cX1_init 112 = .ok (.return_, 1) := by decide +kernel
theorem dX1_reset_0 : decode cX1_reset 0 = .ok (.aload_n 0, 1) := by decide +kernel
theorem dX1_reset_1 : decode cX1_reset 1 = .ok (.iconst 0, 1) := by decide +kernel
theorem dX1_reset_2 : decode cX1_reset 2 = .ok (.putfield 35, 3) := by decide +kernel
theorem dX1_reset_5 : decode cX1_reset 5 = .ok (.aload_n 0, 1) := by decide +kernel
theorem dX1_reset_6 : decode cX1_reset 6 = .ok (.iconst 0, 1) := by decide +kernel
theorem dX1_reset_7 : decode cX1_reset 7 = .ok (.putfield 39, 3) := by decide +kernel
theorem dX1_reset_10 : decode cX1_reset 10 = .ok (.aload_n 0, 1) := by decide +kernel
theorem dX1_reset_11 : decode cX1_reset 11 = .ok (.getfield 27, 3) := by decide +kernel
theorem dX1_reset_14 : decode cX1_reset 14 = .ok (.iconst 0, 1) := by decide +kernel
theorem dX1_reset_15 : decode cX1_reset 15 = .ok (.aaload, 1) := by decide +kernel
theorem dX1_reset_16 : decode cX1_reset 16 = .ok (.invokevirtual 42, 3) := by decide +kernel
theorem dX1_reset_19 : decode cX1_reset 19 = .ok (.aload_n 0, 1) := by decide +kernel
theorem dX1_reset_20 : decode cX1_reset 20 = .ok (.getfield 27, 3) := by decide +kernel
theorem dX1_reset_23 : decode cX1_reset 23 = .ok (.iconst 1, 1) := by decide +kernel
theorem dX1_reset_24 : decode cX1_reset 24 = .ok (.aaload, 1) := by decide +kernel
theorem dX1_reset_25 : decode cX1_reset 25 = .ok (.invokevirtual 42, 3) := by decide +kernel
theorem dX1_reset_28 : decode cX1_reset 28 = .ok (.aload_n 0, 1) := by decide +kernel
theorem dX1_reset_29 : decode cX1_reset 29 = .ok (.iconst 0, 1) := by decide +kernel
theorem dX1_reset_30 : decode cX1_reset 30 = .ok (.putfield 43, 3) := by decide +kernel
theorem dX1_reset_33 : decode cX1_reset 33 = .ok (.aload_n 0, 1) := by decide +kernel
theorem dX1_reset_34 : decode cX1_reset 34 = .ok (.iconst 1, 1) := by decide +kernel
theorem dX1_reset_35 : decode cX1_reset 35 = .ok (.putfield 46, 3) := by decide +kernel
theorem dX1_reset_38 : decode cX1_reset 38 = .ok (.aload_n 0, 1) := by decide +kernel
theorem dX1_reset_39 : decode cX1_reset 39 = .ok (.iconst 2, 1) := by decide +kernel
theorem dX1_reset_40 : decode cX1_reset 40 = .ok (.putfield 49, 3) := by decide +kernel
theorem dX1_reset_43 : decode cX1_reset 43 = .ok (.aload_n 0, 1) := by decide +kernel
theorem dX1_reset_44 : decode cX1_reset 44 = .ok (.bipush 12, 2) := by decide +kernel
theorem dX1_reset_46 : decode cX1_reset 46 = .ok (.putfield 52, 3) := by decide +kernel
theorem dX1_reset_49 : decode cX1_reset 49 = .ok (.aload_n 0, 1) := by decide +kernel
theorem dX1_reset_50 : decode cX1_reset 50 = .ok (.iconst 0, 1) := by decide +kernel
theorem dX1_reset_51 : decode cX1_reset 51 = .ok (.putfield 55, 3) := by decide +kernel
theorem dX1_reset_54 : decode cX1_reset 54 = .ok (.aload_n 0, 1) := by decide +kernel
theorem dX1_reset_55 : decode cX1_reset 55 = .ok (.iconst 0, 1) := by decide +kernel
theorem dX1_reset_56 : decode cX1_reset 56 = .ok (.putfield 58, 3) := by decide +kernel
theorem dX1_reset_59 : decode cX1_reset 59 = .ok (.return_, 1) := by decide +kernel
theorem dX1_become_0 : decode cX1_become 0 = .ok (.aload_n 0, 1) := by decide +kernel
theorem dX1_become_1 : decode cX1_become 1 = .ok (.aload_n 1, 1) := by decide +kernel
theorem dX1_become_2 : decode cX1_become 2 = .ok (.getfield 35, 3) := by decide +kernel
theorem dX1_become_5 : decode cX1_become 5 = .ok (.putfield 35, 3) := by decide +kernel
theorem dX1_become_8 : decode cX1_become 8 = .ok (.iconst 0, 1) := by decide +kernel
theorem dX1_become_9 : decode cX1_become 9 = .ok (.istore_n 2, 1) := by decide +kernel
theorem dX1_become_10 : decode cX1_become 10 = .ok (.iload_n 2, 1) := by decide +kernel
theorem dX1_become_11 : decode cX1_become 11 = .ok (.aload_n 0, 1) := by decide +kernel
theorem dX1_become_12 : decode cX1_become 12 = .ok (.getfield 35, 3) := by decide +kernel
theorem dX1_become_15 : decode cX1_become 15 = .ok (.if_icmp .ge 24, 3) := by decide +kernel
theorem dX1_become_18 : decode cX1_become 18 = .ok (.aload_n 0, 1) := by decide +kernel
theorem dX1_become_19 : decode cX1_become 19 = .ok (.getfield 11, 3) := by decide +kernel
theorem dX1_become_22 : decode cX1_become 22 = .ok (.iload_n 2, 1) := by decide +kernel
theorem dX1_become_23 : decode cX1_become 23 = .ok (.aaload, 1) := by decide +kernel
theorem dX1_become_24 : decode cX1_become 24 = .ok (.aload_n 1, 1) := by decide +kernel
theorem dX1_become_25 : decode cX1_become 25 = .ok (.getfield 11, 3) := by decide +kernel
theorem dX1_become_28 : decode cX1_become 28 = .ok (.iload_n 2, 1) := by decide +kernel
theorem dX1_become_29 : decode cX1_become 29 = .ok (.aaload, 1) := by decide +kernel
theorem dX1_become_30 : decode cX1_become 30 = .ok (.invokevirtual 61, 3) := by decide +kernel
theorem dX1_become_33 : decode cX1_become 33 = .ok (.iinc 2 1, 3) := by decide +kernel
theorem dX1_become_36 : decode cX1_become 36 = .ok (.goto (-26), 3) := by decide +kernel
theorem dX1_become_39 : decode cX1_become 39 = .ok (.aload_n 0, 1) := by decide +kernel
theorem dX1_become_40 : decode cX1_become 40 = .ok (.aload_n 1, 1) := by decide +kernel
theorem dX1_become_41 : decode cX1_become 41 = .ok (.getfield 39, 3) := by decide +kernel
theorem dX1_become_44 : decode cX1_become 44 = .ok (.putfield 39, 3) := by decide +kernel
theorem dX1_become_47 : decode cX1_become 47 = .ok (.iconst 0, 1) := by decide +kernel
theorem dX1_become_48 : decode cX1_become 48 = .ok (.istore_n 2, 1) := by decide +kernel
theorem dX1_become_49 : decode cX1_become 49 = .ok (.iload_n 2, 1) := by decide +kernel
theorem dX1_become_50 : decode cX1_become 50 = .ok (.aload_n 0, 1) := by decide +kernel
theorem dX1_become_51 : decode cX1_become 51 = .ok (.getfield 39, 3) := by decide +kernel
theorem dX1_become_54 : decode cX1_become 54 = .ok (.if_icmp .ge 24, 3) := by decide +kernel
theorem dX1_become_57 : decode cX1_become 57 = .ok (.aload_n 0, 1) := by decide +kernel
theorem dX1_become_58 : decode cX1_become 58 = .ok (.getfield 20, 3) := by decide +kernel
theorem dX1_become_61 : decode cX1_become 61 = .ok (.iload_n 2, 1) := by decide +kernel
theorem dX1_become_62 : decode cX1_become 62 = .ok (.aaload, 1) := by decide +kernel
theorem dX1_become_63 : decode cX1_become 63 = .ok (.aload_n 1, 1) := by decide +kernel
theorem dX1_become_64 : decode cX1_become 64 = .ok (.getfield 20, 3) := by decide +kernel
theorem dX1_become_67 : decode cX1_become 67 = .ok (.iload_n 2, 1) := by decide +kernel
theorem dX1_become_68 : decode cX1_become 68 = .ok (.aaload, 1) := by decide +kernel
theorem dX1_become_69 : decode cX1_become 69 = .ok (.invokevirtual 65, 3) := by decide +kernel
theorem dX1_become_72 : decode cX1_become 72 = .ok (.iinc 2 1, 3) := by decide +kernel
theorem dX1_become_75 : decode cX1_become 75 = .ok (.goto (-26), 3) := by decide +kernel
theorem dX1_become_78 : decode cX1_become 78 = .ok (.aload_n 0, 1) := by decide +kernel
theorem dX1_become_79 : decode cX1_become 79 = .ok (.getfield 27, 3) := by decide +kernel
theorem dX1_become_82 : decode cX1_become 82 = .ok (.iconst 0, 1) := by decide +kernel
theorem dX1_become_83 : decode cX1_become 83 = .ok (.aaload, 1) := by decide +kernel
theorem dX1_become_84 : decode cX1_become 84 = .ok (.aload_n 1, 1) := by decide +kernel
theorem dX1_become_85 : decode cX1_become 85 = .ok (.getfield 27, 3) := by decide +kernel
theorem dX1_become_88 : decode cX1_become 88 = .ok (.iconst 0, 1) := by decide +kernel
theorem dX1_become_89 : decode cX1_become 89 = .ok (.aaload, 1) := by decide +kernel
theorem dX1_become_90 : decode cX1_become 90 = .ok (.invokevirtual 68, 3) := by decide +kernel
theorem dX1_become_93 : decode cX1_become 93 = .ok (.aload_n 0, 1) := by decide +kernel
theorem dX1_become_94 : decode cX1_become 94 = .ok (.getfield 27, 3) := by decide +kernel
theorem dX1_become_97 : decode cX1_become 97 = .ok (.iconst 1, 1) := by decide +kernel
theorem dX1_become_98 : decode cX1_become 98 = .ok (.aaload, 1) := by decide +kernel
theorem dX1_become_99 : decode cX1_become 99 = .ok (.aload_n 1, 1) := by decide +kernel
theorem dX1_become_100 : decode cX1_become 100 = .ok (.getfield 27, 3) := by decide +kernel
theorem dX1_become_103 : decode cX1_become 103 = .ok (.iconst 1, 1) := by decide +kernel
theorem dX1_become_104 : decode cX1_become 104 = .ok (.aaload, 1) := by decide +kernel
theorem dX1_become_105 : decode cX1_become 105 = .ok (.invokevirtual 68, 3) := by decide +kernel
theorem dX1_become_108 : decode cX1_become 108 = .ok (.aload_n 0, 1) := by decide +kernel
theorem dX1_become_109 : decode cX1_become 109 = .ok (.aload_n 1, 1) := by decide +kernel
theorem dX1_become_110 : decode cX1_become 110 = .ok (.getfield 43, 3) := by decide +kernel
theorem dX1_become_113 : decode cX1_become 113 = .ok (.putfield 43, 3) := by decide +kernel
theorem dX1_become_116 : decode cX1_become 116 = .ok (.aload_n 0, 1) := by decide +kernel
theorem dX1_become_117 : decode cX1_become 117 = .ok (.aload_n 1, 1) := by decide +kernel
theorem dX1_become_118 : decode cX1_become 118 = .ok (.getfield 46, 3) := by decide +kernel
theorem dX1_become_121 : decode cX1_become 121 = .ok (.putfield 46, 3) := by decide +kernel
theorem dX1_become_124 : decode cX1_become 124 = .ok (.aload_n 0, 1) := by decide +kernel
theorem dX1_become_125 : decode cX1_become 125 = .ok (.aload_n 1, 1) := by decide +kernel
theorem dX1_become_126 : decode cX1_become 126 = .ok (.getfield 49, 3) := by decide +kernel
theorem dX1_become_129 : decode cX1_become 129 = .ok (.putfield 49, 3) := by decide +kernel
theorem dX1_become_132 : decode cX1_become 132 = .ok (.aload_n 0, 1) := by decide +kernel
theorem dX1_become_133 : decode cX1_become 133 = .ok (.aload_n 1, 1) := by decide +kernel
theorem dX1_become_134 : decode cX1_become 134 = .ok (.getfield 52, 3) := by decide +kernel
theorem dX1_become_137 : decode cX1_become 137 = .ok (.putfield 52, 3) := by decide +kernel
theorem dX1_become_140 : decode cX1_become 140 = .ok (.aload_n 0, 1) := by decide +kernel
theorem dX1_become_141 : decode cX1_become 141 = .ok (.aload_n 1, 1) := by decide +kernel
theorem dX1_become_142 : decode cX1_become 142 = .ok (.getfield 55, 3) := by decide +kernel
theorem dX1_become_145 : decode cX1_become 145 = .ok (.putfield 55, 3) := by decide +kernel
theorem dX1_become_148 : decode cX1_become 148 = .ok (.aload_n 0, 1) := by decide +kernel
theorem dX1_become_149 : decode cX1_become 149 = .ok (.aload_n 1, 1) := by decide +kernel
theorem dX1_become_150 : decode cX1_become 150 = .ok (.getfield 58, 3) := by decide +kernel
theorem dX1_become_153 : decode cX1_become 153 = .ok (.putfield 58, 3) := by decide +kernel
theorem dX1_become_156 : decode cX1_become 156 = .ok (.return_, 1) := by decide +kernel
theorem dX1_isRink_0 : decode cX1_isRink 0 = .ok (.iload_n 1, 1) := by decide +kernel
theorem dX1_isRink_1 : decode cX1_isRink 1 = .ok (.ifCond .lt 15, 3) := by decide +kernel
theorem dX1_isRink_4 : decode cX1_isRink 4 = .ok (.iload_n 1, 1) := by decide +kernel
theorem dX1_isRink_5 : decode cX1_isRink 5 = .ok (.aload_n 0, 1) := by decide +kernel
theorem dX1_isRink_6 : decode cX1_isRink 6 = .ok (.getfield 35, 3) := by decide +kernel
theorem dX1_isRink_9 : decode cX1_isRink 9 = .ok (.if_icmp .ge 7, 3) := by decide +kernel
theorem dX1_isRink_12 : decode cX1_isRink 12 = .ok (.iconst 1, 1) := by decide +kernel
theorem dX1_isRink_13 : decode cX1_isRink 13 = .ok (.goto 4, 3) := by decide +kernel
theorem dX1_isRink_16 : decode cX1_isRink 16 = .ok (.iconst 0, 1) := by decide +kernel
theorem dX1_isRink_17 : decode cX1_isRink 17 = .ok (.ireturn, 1) := by decide +kernel
theorem dX1_isWood_0 : decode cX1_isWood 0 = .ok (.iload_n 1, 1) := by decide +kernel
theorem dX1_isWood_1 : decode cX1_isWood 1 = .ok (.ifCond .lt 15, 3) := by decide +kernel
theorem dX1_isWood_4 : decode cX1_isWood 4 = .ok (.iload_n 1, 1) := by decide +kernel
theorem dX1_isWood_5 : decode cX1_isWood 5 = .ok (.aload_n 0, 1) := by decide +kernel
theorem dX1_isWood_6 : decode cX1_isWood 6 = .ok (.getfield 39, 3) := by decide +kernel
theorem dX1_isWood_9 : decode cX1_isWood 9 = .ok (.if_icmp .ge 7, 3) := by decide +kernel
theorem dX1_isWood_12 : decode cX1_isWood 12 = .ok (.iconst 1, 1) := by decide +kernel
theorem dX1_isWood_13 : decode cX1_isWood 13 = .ok (.goto 4, 3) := by decide +kernel
theorem dX1_isWood_16 : decode cX1_isWood 16 = .ok (.iconst 0, 1) := by decide +kernel
theorem dX1_isWood_17 : decode cX1_isWood 17 = .ok (.ireturn, 1) := by decide +kernel
theorem dX1_lowestRinkWithin_0 : decode cX1_lowestRinkWithin 0 = .ok (.iconst 0, 1) := by decide +kernel
theorem dX1_lowestRinkWithin_1 : decode cX1_lowestRinkWithin 1 = .ok (.istore_n 3, 1) := by decide +kernel
theorem dX1_lowestRinkWithin_2 : decode cX1_lowestRinkWithin 2 = .ok (.iload_n 3, 1) := by decide +kernel
theorem dX1_lowestRinkWithin_3 : decode cX1_lowestRinkWithin 3 = .ok (.aload_n 0, 1) := by decide +kernel
theorem dX1_lowestRinkWithin_4 : decode cX1_lowestRinkWithin 4 = .ok (.getfield 35, 3) := by decide +kernel
theorem dX1_lowestRinkWithin_7 : decode cX1_lowestRinkWithin 7 = .ok (.if_icmp .ge 37, 3) := by decide +kernel
theorem dX1_lowestRinkWithin_10 : decode cX1_lowestRinkWithin 10 = .ok (.aload_n 0, 1) := by decide +kernel
theorem dX1_lowestRinkWithin_11 : decode cX1_lowestRinkWithin 11 = .ok (.getfield 11, 3) := by decide +kernel
theorem dX1_lowestRinkWithin_14 : decode cX1_lowestRinkWithin 14 = .ok (.iload_n 3, 1) := by decide +kernel
theorem dX1_lowestRinkWithin_15 : decode cX1_lowestRinkWithin 15 = .ok (.aaload, 1) := by decide +kernel
theorem dX1_lowestRinkWithin_16 : decode cX1_lowestRinkWithin 16 = .ok (.getfield 71, 3) := by decide +kernel
theorem dX1_lowestRinkWithin_19 : decode cX1_lowestRinkWithin 19 = .ok (.iload_n 2, 1) := by decide +kernel
theorem dX1_lowestRinkWithin_20 : decode cX1_lowestRinkWithin 20 = .ok (.if_icmp .gt 18, 3) := by decide +kernel
theorem dX1_lowestRinkWithin_23 : decode cX1_lowestRinkWithin 23 = .ok (.aload_n 0, 1) := by decide +kernel
theorem dX1_lowestRinkWithin_24 : decode cX1_lowestRinkWithin 24 = .ok (.getfield 11, 3) := by decide +kernel
theorem dX1_lowestRinkWithin_27 : decode cX1_lowestRinkWithin 27 = .ok (.iload_n 3, 1) := by decide +kernel
theorem dX1_lowestRinkWithin_28 : decode cX1_lowestRinkWithin 28 = .ok (.aaload, 1) := by decide +kernel
theorem dX1_lowestRinkWithin_29 : decode cX1_lowestRinkWithin 29 = .ok (.getfield 74, 3) := by decide +kernel
theorem dX1_lowestRinkWithin_32 : decode cX1_lowestRinkWithin 32 = .ok (.iload_n 1, 1) := by decide +kernel
theorem dX1_lowestRinkWithin_33 : decode cX1_lowestRinkWithin 33 = .ok (.if_icmp .lt 5, 3) := by decide +kernel
theorem dX1_lowestRinkWithin_36 : decode cX1_lowestRinkWithin 36 = .ok (.iload_n 3, 1) := by decide +kernel
theorem dX1_lowestRinkWithin_37 : decode cX1_lowestRinkWithin 37 = .ok (.ireturn, 1) := by decide +kernel
theorem dX1_lowestRinkWithin_38 : decode cX1_lowestRinkWithin 38 = .ok (.iinc 3 1, 3) := by decide +kernel
theorem dX1_lowestRinkWithin_41 : decode cX1_lowestRinkWithin 41 = .ok (.goto (-39), 3) := by decide +kernel
theorem dX1_lowestRinkWithin_44 : decode cX1_lowestRinkWithin 44 = .ok (.iconst (-1), 1) := by decide +kernel
theorem dX1_lowestRinkWithin_45 : decode cX1_lowestRinkWithin 45 = .ok (.ireturn, 1) := by decide +kernel
theorem dX1_rinkInOrder_0 : decode cX1_rinkInOrder 0 = .ok (.iconst 0, 1) := by decide +kernel
theorem dX1_rinkInOrder_1 : decode cX1_rinkInOrder 1 = .ok (.istore_n 2, 1) := by decide +kernel
theorem dX1_rinkInOrder_2 : decode cX1_rinkInOrder 2 = .ok (.iload_n 2, 1) := by decide +kernel
theorem dX1_rinkInOrder_3 : decode cX1_rinkInOrder 3 = .ok (.aload_n 0, 1) := by decide +kernel
theorem dX1_rinkInOrder_4 : decode cX1_rinkInOrder 4 = .ok (.getfield 35, 3) := by decide +kernel
theorem dX1_rinkInOrder_7 : decode cX1_rinkInOrder 7 = .ok (.if_icmp .ge 61, 3) := by decide +kernel
theorem dX1_rinkInOrder_10 : decode cX1_rinkInOrder 10 = .ok (.iconst 0, 1) := by decide +kernel
theorem dX1_rinkInOrder_11 : decode cX1_rinkInOrder 11 = .ok (.istore_n 3, 1) := by decide +kernel
theorem dX1_rinkInOrder_12 : decode cX1_rinkInOrder 12 = .ok (.iconst 0, 1) := by decide +kernel
theorem dX1_rinkInOrder_13 : decode cX1_rinkInOrder 13 = .ok (.istore 4, 2) := by decide +kernel
theorem dX1_rinkInOrder_15 : decode cX1_rinkInOrder 15 = .ok (.iload 4, 2) := by decide +kernel
theorem dX1_rinkInOrder_17 : decode cX1_rinkInOrder 17 = .ok (.aload_n 0, 1) := by decide +kernel
theorem dX1_rinkInOrder_18 : decode cX1_rinkInOrder 18 = .ok (.getfield 35, 3) := by decide +kernel
theorem dX1_rinkInOrder_21 : decode cX1_rinkInOrder 21 = .ok (.if_icmp .ge 34, 3) := by decide +kernel
theorem dX1_rinkInOrder_24 : decode cX1_rinkInOrder 24 = .ok (.aload_n 0, 1) := by decide +kernel
theorem dX1_rinkInOrder_25 : decode cX1_rinkInOrder 25 = .ok (.getfield 11, 3) := by decide +kernel
theorem dX1_rinkInOrder_28 : decode cX1_rinkInOrder 28 = .ok (.iload 4, 2) := by decide +kernel
theorem dX1_rinkInOrder_30 : decode cX1_rinkInOrder 30 = .ok (.aaload, 1) := by decide +kernel
theorem dX1_rinkInOrder_31 : decode cX1_rinkInOrder 31 = .ok (.getfield 71, 3) := by decide +kernel
theorem dX1_rinkInOrder_34 : decode cX1_rinkInOrder 34 = .ok (.aload_n 0, 1) := by decide +kernel
theorem dX1_rinkInOrder_35 : decode cX1_rinkInOrder 35 = .ok (.getfield 11, 3) := by decide +kernel
theorem dX1_rinkInOrder_38 : decode cX1_rinkInOrder 38 = .ok (.iload_n 2, 1) := by decide +kernel
theorem dX1_rinkInOrder_39 : decode cX1_rinkInOrder 39 = .ok (.aaload, 1) := by decide +kernel
theorem dX1_rinkInOrder_40 : decode cX1_rinkInOrder 40 = .ok (.getfield 71, 3) := by decide +kernel
theorem dX1_rinkInOrder_43 : decode cX1_rinkInOrder 43 = .ok (.if_icmp .ge 6, 3) := by decide +kernel
theorem dX1_rinkInOrder_46 : decode cX1_rinkInOrder 46 = .ok (.iinc 3 1, 3) := by decide +kernel
theorem dX1_rinkInOrder_49 : decode cX1_rinkInOrder 49 = .ok (.iinc 4 1, 3) := by decide +kernel
theorem dX1_rinkInOrder_52 : decode cX1_rinkInOrder 52 = .ok (.goto (-37), 3) := by decide +kernel
theorem dX1_rinkInOrder_55 : decode cX1_rinkInOrder 55 = .ok (.iload_n 3, 1) := by decide +kernel
theorem dX1_rinkInOrder_56 : decode cX1_rinkInOrder 56 = .ok (.iload_n 1, 1) := by decide +kernel
theorem dX1_rinkInOrder_57 : decode cX1_rinkInOrder 57 = .ok (.if_icmp .ne 5, 3) := by decide +kernel
theorem dX1_rinkInOrder_60 : decode cX1_rinkInOrder 60 = .ok (.iload_n 2, 1) := by decide +kernel
theorem dX1_rinkInOrder_61 : decode cX1_rinkInOrder 61 = .ok (.ireturn, 1) := by decide +kernel
theorem dX1_rinkInOrder_62 : decode cX1_rinkInOrder 62 = .ok (.iinc 2 1, 3) := by decide +kernel
theorem dX1_rinkInOrder_65 : decode cX1_rinkInOrder 65 = .ok (.goto (-63), 3) := by decide +kernel
theorem dX1_rinkInOrder_68 : decode cX1_rinkInOrder 68 = .ok (.iconst (-1), 1) := by decide +kernel
theorem dX1_rinkInOrder_69 : decode cX1_rinkInOrder 69 = .ok (.ireturn, 1) := by decide +kernel
theorem dX1_landing_0 : decode cX1_landing 0 = .ok (.aload_n 0, 1) := by decide +kernel
theorem dX1_landing_1 : decode cX1_landing 1 = .ok (.getfield 11, 3) := by decide +kernel
theorem dX1_landing_4 : decode cX1_landing 4 = .ok (.iload_n 1, 1) := by decide +kernel
theorem dX1_landing_5 : decode cX1_landing 5 = .ok (.aaload, 1) := by decide +kernel
theorem dX1_landing_6 : decode cX1_landing 6 = .ok (.astore 6, 2) := by decide +kernel
theorem dX1_landing_8 : decode cX1_landing 8 = .ok (.aload_n 0, 1) := by decide +kernel
theorem dX1_landing_9 : decode cX1_landing 9 = .ok (.getfield 20, 3) := by decide +kernel
theorem dX1_landing_12 : decode cX1_landing 12 = .ok (.iload_n 2, 1) := by decide +kernel
theorem dX1_landing_13 : decode cX1_landing 13 = .ok (.aaload, 1) := by decide +kernel
theorem dX1_landing_14 : decode cX1_landing 14 = .ok (.getfield 77, 3) := by decide +kernel
theorem dX1_landing_17 : decode cX1_landing 17 = .ok (.iload 4, 2) := by decide +kernel
theorem dX1_landing_19 : decode cX1_landing 19 = .ok (.imul, 1) := by decide +kernel
theorem dX1_landing_20 : decode cX1_landing 20 = .ok (.bipush 10, 2) := by decide +kernel
theorem dX1_landing_22 : decode cX1_landing 22 = .ok (.idiv, 1) := by decide +kernel
theorem dX1_landing_23 : decode cX1_landing 23 = .ok (.istore 7, 2) := by decide +kernel
theorem dX1_landing_25 : decode cX1_landing 25 = .ok (.iload 5, 2) := by decide +kernel
theorem dX1_landing_27 : decode cX1_landing 27 = .ok (.ifCond .eq 10, 3) := by decide +kernel
theorem dX1_landing_30 : decode cX1_landing 30 = .ok (.iload_n 3, 1) := by decide +kernel
theorem dX1_landing_31 : decode cX1_landing 31 = .ok (.iload 7, 2) := by decide +kernel
theorem dX1_landing_33 : decode cX1_landing 33 = .ok (.iadd, 1) := by decide +kernel
theorem dX1_landing_34 : decode cX1_landing 34 = .ok (.goto 7, 3) := by decide +kernel
theorem dX1_landing_37 : decode cX1_landing 37 = .ok (.iload_n 3, 1) := by decide +kernel
theorem dX1_landing_38 : decode cX1_landing 38 = .ok (.iload 7, 2) := by decide +kernel
theorem dX1_landing_40 : decode cX1_landing 40 = .ok (.isub, 1) := by decide +kernel
theorem dX1_landing_41 : decode cX1_landing 41 = .ok (.istore 8, 2) := by decide +kernel
theorem dX1_landing_43 : decode cX1_landing 43 = .ok (.iconst 0, 1) := by decide +kernel
theorem dX1_landing_44 : decode cX1_landing 44 = .ok (.iconst 4, 1) := by decide +kernel
theorem dX1_landing_45 : decode cX1_landing 45 = .ok (.iconst 2, 1) := by decide +kernel
theorem dX1_landing_46 : decode cX1_landing 46 = .ok (.iload 4, 2) := by decide +kernel
theorem dX1_landing_48 : decode cX1_landing 48 = .ok (.imul, 1) := by decide +kernel
theorem dX1_landing_49 : decode cX1_landing 49 = .ok (.iadd, 1) := by decide +kernel
theorem dX1_landing_50 : decode cX1_landing 50 = .ok (.aload 6, 2) := by decide +kernel
theorem dX1_landing_52 : decode cX1_landing 52 = .ok (.getfield 80, 3) := by decide +kernel
theorem dX1_landing_55 : decode cX1_landing 55 = .ok (.iconst 2, 1) := by decide +kernel
theorem dX1_landing_56 : decode cX1_landing 56 = .ok (.idiv, 1) := by decide +kernel
theorem dX1_landing_57 : decode cX1_landing 57 = .ok (.isub, 1) := by decide +kernel
theorem dX1_landing_58 : decode cX1_landing 58 = .ok (.aload 6, 2) := by decide +kernel
theorem dX1_landing_60 : decode cX1_landing 60 = .ok (.getfield 83, 3) := by decide +kernel
theorem dX1_landing_63 : decode cX1_landing 63 = .ok (.isub, 1) := by decide +kernel
theorem dX1_landing_64 : decode cX1_landing 64 = .ok (.invokestatic 86, 3) := by decide +kernel
theorem dX1_landing_67 : decode cX1_landing 67 = .ok (.istore 9, 2) := by decide +kernel
theorem dX1_landing_69 : decode cX1_landing 69 = .ok (.aload 6, 2) := by decide +kernel
theorem dX1_landing_71 : decode cX1_landing 71 = .ok (.iload 8, 2) := by decide +kernel
theorem dX1_landing_73 : decode cX1_landing 73 = .ok (.invokevirtual 92, 3) := by decide +kernel
theorem dX1_landing_76 : decode cX1_landing 76 = .ok (.ifCond .eq 10, 3) := by decide +kernel
theorem dX1_landing_79 : decode cX1_landing 79 = .ok (.iload 9, 2) := by decide +kernel
theorem dX1_landing_81 : decode cX1_landing 81 = .ok (.bipush 40, 2) := by decide +kernel
theorem dX1_landing_83 : decode cX1_landing 83 = .ok (.if_icmp .le 6, 3) := by decide +kernel
theorem dX1_landing_86 : decode cX1_landing 86 = .ok (.bipush (-4), 2) := by decide +kernel
theorem dX1_landing_88 : decode cX1_landing 88 = .ok (.ireturn, 1) := by decide +kernel
theorem dX1_landing_89 : decode cX1_landing 89 = .ok (.iload 9, 2) := by decide +kernel
theorem dX1_landing_91 : decode cX1_landing 91 = .ok (.istore 10, 2) := by decide +kernel
theorem dX1_landing_93 : decode cX1_landing 93 = .ok (.iload 10, 2) := by decide +kernel
theorem dX1_landing_95 : decode cX1_landing 95 = .ok (.ifCond .lt 31, 3) := by decide +kernel
theorem dX1_landing_98 : decode cX1_landing 98 = .ok (.aload_n 0, 1) := by decide +kernel
theorem dX1_landing_99 : decode cX1_landing 99 = .ok (.iload_n 1, 1) := by decide +kernel
theorem dX1_landing_100 : decode cX1_landing 100 = .ok (.iload_n 2, 1) := by decide +kernel
theorem dX1_landing_101 : decode cX1_landing 101 = .ok (.iload 8, 2) := by decide +kernel
theorem dX1_landing_103 : decode cX1_landing 103 = .ok (.iload 10, 2) := by decide +kernel
theorem dX1_landing_105 : decode cX1_landing 105 = .ok (.invokevirtual 96, 3) := by decide +kernel
theorem dX1_landing_108 : decode cX1_landing 108 = .ok (.ifCond .ne 12, 3) := by decide +kernel
theorem dX1_landing_111 : decode cX1_landing 111 = .ok (.bipush 100, 2) := by decide +kernel
theorem dX1_landing_113 : decode cX1_landing 113 = .ok (.iload 8, 2) := by decide +kernel
theorem dX1_landing_115 : decode cX1_landing 115 = .ok (.imul, 1) := by decide +kernel
theorem dX1_landing_116 : decode cX1_landing 116 = .ok (.iload 10, 2) := by decide +kernel
theorem dX1_landing_118 : decode cX1_landing 118 = .ok (.iadd, 1) := by decide +kernel
theorem dX1_landing_119 : decode cX1_landing 119 = .ok (.ireturn, 1) := by decide +kernel
theorem dX1_landing_120 : decode cX1_landing 120 = .ok (.iinc 10 (-1), 3) := by decide +kernel
theorem dX1_landing_123 : decode cX1_landing 123 = .ok (.goto (-30), 3) := by decide +kernel
theorem dX1_landing_126 : decode cX1_landing 126 = .ok (.bipush (-4), 2) := by decide +kernel
theorem dX1_landing_128 : decode cX1_landing 128 = .ok (.ireturn, 1) := by decide +kernel
theorem dX1_isTaken_0 : decode cX1_isTaken 0 = .ok (.iconst 0, 1) := by decide +kernel
theorem dX1_isTaken_1 : decode cX1_isTaken 1 = .ok (.istore 5, 2) := by decide +kernel
theorem dX1_isTaken_3 : decode cX1_isTaken 3 = .ok (.iload 5, 2) := by decide +kernel
theorem dX1_isTaken_5 : decode cX1_isTaken 5 = .ok (.aload_n 0, 1) := by decide +kernel
theorem dX1_isTaken_6 : decode cX1_isTaken 6 = .ok (.getfield 39, 3) := by decide +kernel
theorem dX1_isTaken_9 : decode cX1_isTaken 9 = .ok (.if_icmp .ge 54, 3) := by decide +kernel
theorem dX1_isTaken_12 : decode cX1_isTaken 12 = .ok (.aload_n 0, 1) := by decide +kernel
theorem dX1_isTaken_13 : decode cX1_isTaken 13 = .ok (.getfield 20, 3) := by decide +kernel
theorem dX1_isTaken_16 : decode cX1_isTaken 16 = .ok (.iload 5, 2) := by decide +kernel
theorem dX1_isTaken_18 : decode cX1_isTaken 18 = .ok (.aaload, 1) := by decide +kernel
theorem dX1_isTaken_19 : decode cX1_isTaken 19 = .ok (.astore 6, 2) := by decide +kernel
theorem dX1_isTaken_21 : decode cX1_isTaken 21 = .ok (.iload 5, 2) := by decide +kernel
theorem dX1_isTaken_23 : decode cX1_isTaken 23 = .ok (.iload_n 2, 1) := by decide +kernel
theorem dX1_isTaken_24 : decode cX1_isTaken 24 = .ok (.if_icmp .eq 33, 3) := by decide +kernel
theorem dX1_isTaken_27 : decode cX1_isTaken 27 = .ok (.aload 6, 2) := by decide +kernel
theorem dX1_isTaken_29 : decode cX1_isTaken 29 = .ok (.iload_n 1, 1) := by decide +kernel
theorem dX1_isTaken_30 : decode cX1_isTaken 30 = .ok (.invokevirtual 100, 3) := by decide +kernel
theorem dX1_isTaken_33 : decode cX1_isTaken 33 = .ok (.ifCond .eq 24, 3) := by decide +kernel
theorem dX1_isTaken_36 : decode cX1_isTaken 36 = .ok (.aload 6, 2) := by decide +kernel
theorem dX1_isTaken_38 : decode cX1_isTaken 38 = .ok (.getfield 103, 3) := by decide +kernel
theorem dX1_isTaken_41 : decode cX1_isTaken 41 = .ok (.iload_n 3, 1) := by decide +kernel
theorem dX1_isTaken_42 : decode cX1_isTaken 42 = .ok (.if_icmp .ne 15, 3) := by decide +kernel
theorem dX1_isTaken_45 : decode cX1_isTaken 45 = .ok (.aload 6, 2) := by decide +kernel
theorem dX1_isTaken_47 : decode cX1_isTaken 47 = .ok (.getfield 106, 3) := by decide +kernel
theorem dX1_isTaken_50 : decode cX1_isTaken 50 = .ok (.iload 4, 2) := by decide +kernel
theorem dX1_isTaken_52 : decode cX1_isTaken 52 = .ok (.if_icmp .ne 5, 3) := by decide +kernel
theorem dX1_isTaken_55 : decode cX1_isTaken 55 = .ok (.iconst 1, 1) := by decide +kernel
theorem dX1_isTaken_56 : decode cX1_isTaken 56 = .ok (.ireturn, 1) := by decide +kernel
theorem dX1_isTaken_57 : decode cX1_isTaken 57 = .ok (.iinc 5 1, 3) := by decide +kernel
theorem dX1_isTaken_60 : decode cX1_isTaken 60 = .ok (.goto (-57), 3) := by decide +kernel
theorem dX1_isTaken_63 : decode cX1_isTaken 63 = .ok (.iconst 0, 1) := by decide +kernel
theorem dX1_isTaken_64 : decode cX1_isTaken 64 = .ok (.ireturn, 1) := by decide +kernel
theorem dX1_woodInOrder_0 : decode cX1_woodInOrder 0 = .ok (.iconst 0, 1) := by decide +kernel
theorem dX1_woodInOrder_1 : decode cX1_woodInOrder 1 = .ok (.istore_n 3, 1) := by decide +kernel
theorem dX1_woodInOrder_2 : decode cX1_woodInOrder 2 = .ok (.iload_n 3, 1) := by decide +kernel
theorem dX1_woodInOrder_3 : decode cX1_woodInOrder 3 = .ok (.aload_n 0, 1) := by decide +kernel
theorem dX1_woodInOrder_4 : decode cX1_woodInOrder 4 = .ok (.getfield 39, 3) := by decide +kernel
theorem dX1_woodInOrder_7 : decode cX1_woodInOrder 7 = .ok (.if_icmp .ge 34, 3) := by decide +kernel
theorem dX1_woodInOrder_10 : decode cX1_woodInOrder 10 = .ok (.aload_n 0, 1) := by decide +kernel
theorem dX1_woodInOrder_11 : decode cX1_woodInOrder 11 = .ok (.getfield 20, 3) := by decide +kernel
theorem dX1_woodInOrder_14 : decode cX1_woodInOrder 14 = .ok (.iload_n 3, 1) := by decide +kernel
theorem dX1_woodInOrder_15 : decode cX1_woodInOrder 15 = .ok (.aaload, 1) := by decide +kernel
theorem dX1_woodInOrder_16 : decode cX1_woodInOrder 16 = .ok (.iload_n 1, 1) := by decide +kernel
theorem dX1_woodInOrder_17 : decode cX1_woodInOrder 17 = .ok (.invokevirtual 100, 3) := by decide +kernel
theorem dX1_woodInOrder_20 : decode cX1_woodInOrder 20 = .ok (.ifCond .eq 15, 3) := by decide +kernel
theorem dX1_woodInOrder_23 : decode cX1_woodInOrder 23 = .ok (.aload_n 0, 1) := by decide +kernel
theorem dX1_woodInOrder_24 : decode cX1_woodInOrder 24 = .ok (.iload_n 1, 1) := by decide +kernel
theorem dX1_woodInOrder_25 : decode cX1_woodInOrder 25 = .ok (.iload_n 3, 1) := by decide +kernel
theorem dX1_woodInOrder_26 : decode cX1_woodInOrder 26 = .ok (.invokevirtual 109, 3) := by decide +kernel
theorem dX1_woodInOrder_29 : decode cX1_woodInOrder 29 = .ok (.iload_n 2, 1) := by decide +kernel
theorem dX1_woodInOrder_30 : decode cX1_woodInOrder 30 = .ok (.if_icmp .ne 5, 3) := by decide +kernel
theorem dX1_woodInOrder_33 : decode cX1_woodInOrder 33 = .ok (.iload_n 3, 1) := by decide +kernel
theorem dX1_woodInOrder_34 : decode cX1_woodInOrder 34 = .ok (.ireturn, 1) := by decide +kernel
theorem dX1_woodInOrder_35 : decode cX1_woodInOrder 35 = .ok (.iinc 3 1, 3) := by decide +kernel
theorem dX1_woodInOrder_38 : decode cX1_woodInOrder 38 = .ok (.goto (-36), 3) := by decide +kernel
theorem dX1_woodInOrder_41 : decode cX1_woodInOrder 41 = .ok (.bipush (-4), 2) := by decide +kernel
theorem dX1_woodInOrder_43 : decode cX1_woodInOrder 43 = .ok (.ireturn, 1) := by decide +kernel
theorem dX1_woodsBefore_0 : decode cX1_woodsBefore 0 = .ok (.aload_n 0, 1) := by decide +kernel
theorem dX1_woodsBefore_1 : decode cX1_woodsBefore 1 = .ok (.getfield 20, 3) := by decide +kernel
theorem dX1_woodsBefore_4 : decode cX1_woodsBefore 4 = .ok (.iload_n 2, 1) := by decide +kernel
theorem dX1_woodsBefore_5 : decode cX1_woodsBefore 5 = .ok (.aaload, 1) := by decide +kernel
theorem dX1_woodsBefore_6 : decode cX1_woodsBefore 6 = .ok (.getfield 112, 3) := by decide +kernel
theorem dX1_woodsBefore_9 : decode cX1_woodsBefore 9 = .ok (.istore_n 3, 1) := by decide +kernel
theorem dX1_woodsBefore_10 : decode cX1_woodsBefore 10 = .ok (.iconst 0, 1) := by decide +kernel
theorem dX1_woodsBefore_11 : decode cX1_woodsBefore 11 = .ok (.istore 4, 2) := by decide +kernel
theorem dX1_woodsBefore_13 : decode cX1_woodsBefore 13 = .ok (.iconst 0, 1) := by decide +kernel
theorem dX1_woodsBefore_14 : decode cX1_woodsBefore 14 = .ok (.istore 5, 2) := by decide +kernel
theorem dX1_woodsBefore_16 : decode cX1_woodsBefore 16 = .ok (.iload 5, 2) := by decide +kernel
theorem dX1_woodsBefore_18 : decode cX1_woodsBefore 18 = .ok (.aload_n 0, 1) := by decide +kernel
theorem dX1_woodsBefore_19 : decode cX1_woodsBefore 19 = .ok (.getfield 39, 3) := by decide +kernel
theorem dX1_woodsBefore_22 : decode cX1_woodsBefore 22 = .ok (.if_icmp .ge 66, 3) := by decide +kernel
theorem dX1_woodsBefore_25 : decode cX1_woodsBefore 25 = .ok (.aload_n 0, 1) := by decide +kernel
theorem dX1_woodsBefore_26 : decode cX1_woodsBefore 26 = .ok (.getfield 20, 3) := by decide +kernel
theorem dX1_woodsBefore_29 : decode cX1_woodsBefore 29 = .ok (.iload 5, 2) := by decide +kernel
theorem dX1_woodsBefore_31 : decode cX1_woodsBefore 31 = .ok (.aaload, 1) := by decide +kernel
theorem dX1_woodsBefore_32 : decode cX1_woodsBefore 32 = .ok (.astore 6, 2) := by decide +kernel
theorem dX1_woodsBefore_34 : decode cX1_woodsBefore 34 = .ok (.aload 6, 2) := by decide +kernel
theorem dX1_woodsBefore_36 : decode cX1_woodsBefore 36 = .ok (.getfield 112, 3) := by decide +kernel
theorem dX1_woodsBefore_39 : decode cX1_woodsBefore 39 = .ok (.iload_n 3, 1) := by decide +kernel
theorem dX1_woodsBefore_40 : decode cX1_woodsBefore 40 = .ok (.if_icmp .lt 18, 3) := by decide +kernel
theorem dX1_woodsBefore_43 : decode cX1_woodsBefore 43 = .ok (.aload 6, 2) := by decide +kernel
theorem dX1_woodsBefore_45 : decode cX1_woodsBefore 45 = .ok (.getfield 112, 3) := by decide +kernel
theorem dX1_woodsBefore_48 : decode cX1_woodsBefore 48 = .ok (.iload_n 3, 1) := by decide +kernel
theorem dX1_woodsBefore_49 : decode cX1_woodsBefore 49 = .ok (.if_icmp .ne 13, 3) := by decide +kernel
theorem dX1_woodsBefore_52 : decode cX1_woodsBefore 52 = .ok (.iload 5, 2) := by decide +kernel
theorem dX1_woodsBefore_54 : decode cX1_woodsBefore 54 = .ok (.iload_n 2, 1) := by decide +kernel
theorem dX1_woodsBefore_55 : decode cX1_woodsBefore 55 = .ok (.if_icmp .ge 7, 3) := by decide +kernel
theorem dX1_woodsBefore_58 : decode cX1_woodsBefore 58 = .ok (.iconst 1, 1) := by decide +kernel
theorem dX1_woodsBefore_59 : decode cX1_woodsBefore 59 = .ok (.goto 4, 3) := by decide +kernel
theorem dX1_woodsBefore_62 : decode cX1_woodsBefore 62 = .ok (.iconst 0, 1) := by decide +kernel
theorem dX1_woodsBefore_63 : decode cX1_woodsBefore 63 = .ok (.istore 7, 2) := by decide +kernel
theorem dX1_woodsBefore_65 : decode cX1_woodsBefore 65 = .ok (.iload 7, 2) := by decide +kernel
theorem dX1_woodsBefore_67 : decode cX1_woodsBefore 67 = .ok (.ifCond .eq 15, 3) := by decide +kernel
theorem dX1_woodsBefore_70 : decode cX1_woodsBefore 70 = .ok (.aload 6, 2) := by decide +kernel
theorem dX1_woodsBefore_72 : decode cX1_woodsBefore 72 = .ok (.iload_n 1, 1) := by decide +kernel
theorem dX1_woodsBefore_73 : decode cX1_woodsBefore 73 = .ok (.invokevirtual 100, 3) := by decide +kernel
theorem dX1_woodsBefore_76 : decode cX1_woodsBefore 76 = .ok (.ifCond .eq 6, 3) := by decide +kernel
theorem dX1_woodsBefore_79 : decode cX1_woodsBefore 79 = .ok (.iinc 4 1, 3) := by decide +kernel
theorem dX1_woodsBefore_82 : decode cX1_woodsBefore 82 = .ok (.iinc 5 1, 3) := by decide +kernel
theorem dX1_woodsBefore_85 : decode cX1_woodsBefore 85 = .ok (.goto (-69), 3) := by decide +kernel
theorem dX1_woodsBefore_88 : decode cX1_woodsBefore 88 = .ok (.iload 4, 2) := by decide +kernel
theorem dX1_woodsBefore_90 : decode cX1_woodsBefore 90 = .ok (.ireturn, 1) := by decide +kernel
theorem dX1_countShots_0 : decode cX1_countShots 0 = .ok (.aload_n 0, 1) := by decide +kernel
theorem dX1_countShots_1 : decode cX1_countShots 1 = .ok (.iload_n 1, 1) := by decide +kernel
theorem dX1_countShots_2 : decode cX1_countShots 2 = .ok (.iconst 0, 1) := by decide +kernel
theorem dX1_countShots_3 : decode cX1_countShots 3 = .ok (.invokevirtual 115, 3) := by decide +kernel
theorem dX1_countShots_6 : decode cX1_countShots 6 = .ok (.istore_n 2, 1) := by decide +kernel
theorem dX1_countShots_7 : decode cX1_countShots 7 = .ok (.aload_n 0, 1) := by decide +kernel
theorem dX1_countShots_8 : decode cX1_countShots 8 = .ok (.iload_n 1, 1) := by decide +kernel
theorem dX1_countShots_9 : decode cX1_countShots 9 = .ok (.iconst 1, 1) := by decide +kernel
theorem dX1_countShots_10 : decode cX1_countShots 10 = .ok (.invokevirtual 115, 3) := by decide +kernel
theorem dX1_countShots_13 : decode cX1_countShots 13 = .ok (.istore_n 3, 1) := by decide +kernel
theorem dX1_countShots_14 : decode cX1_countShots 14 = .ok (.iload_n 2, 1) := by decide +kernel
theorem dX1_countShots_15 : decode cX1_countShots 15 = .ok (.iload_n 3, 1) := by decide +kernel
theorem dX1_countShots_16 : decode cX1_countShots 16 = .ok (.if_icmp .ne 5, 3) := by decide +kernel
theorem dX1_countShots_19 : decode cX1_countShots 19 = .ok (.iconst 0, 1) := by decide +kernel
theorem dX1_countShots_20 : decode cX1_countShots 20 = .ok (.ireturn, 1) := by decide +kernel
theorem dX1_countShots_21 : decode cX1_countShots 21 = .ok (.iload_n 2, 1) := by decide +kernel
theorem dX1_countShots_22 : decode cX1_countShots 22 = .ok (.iload_n 3, 1) := by decide +kernel
theorem dX1_countShots_23 : decode cX1_countShots 23 = .ok (.if_icmp .ge 11, 3) := by decide +kernel
theorem dX1_countShots_26 : decode cX1_countShots 26 = .ok (.aload_n 0, 1) := by decide +kernel
theorem dX1_countShots_27 : decode cX1_countShots 27 = .ok (.iload_n 1, 1) := by decide +kernel
theorem dX1_countShots_28 : decode cX1_countShots 28 = .ok (.iconst 0, 1) := by decide +kernel
theorem dX1_countShots_29 : decode cX1_countShots 29 = .ok (.iload_n 3, 1) := by decide +kernel
theorem dX1_countShots_30 : decode cX1_countShots 30 = .ok (.invokevirtual 118, 3) := by decide +kernel
theorem dX1_countShots_33 : decode cX1_countShots 33 = .ok (.ireturn, 1) := by decide +kernel
theorem dX1_countShots_34 : decode cX1_countShots 34 = .ok (.bipush 10, 2) := by decide +kernel
theorem dX1_countShots_36 : decode cX1_countShots 36 = .ok (.aload_n 0, 1) := by decide +kernel
theorem dX1_countShots_37 : decode cX1_countShots 37 = .ok (.iload_n 1, 1) := by decide +kernel
theorem dX1_countShots_38 : decode cX1_countShots 38 = .ok (.iconst 1, 1) := by decide +kernel
theorem dX1_countShots_39 : decode cX1_countShots 39 = .ok (.iload_n 2, 1) := by decide +kernel
theorem dX1_countShots_40 : decode cX1_countShots 40 = .ok (.invokevirtual 118, 3) := by decide +kernel
theorem dX1_countShots_43 : decode cX1_countShots 43 = .ok (.iadd, 1) := by decide +kernel
theorem dX1_countShots_44 : decode cX1_countShots 44 = .ok (.ireturn, 1) := by decide +kernel
theorem dX1_leastDistance_0 : decode cX1_leastDistance 0 = .ok (.ldc 122, 2) := by decide +kernel
theorem dX1_leastDistance_2 : decode cX1_leastDistance 2 = .ok (.istore_n 3, 1) := by decide +kernel
theorem dX1_leastDistance_3 : decode cX1_leastDistance 3 = .ok (.iconst 0, 1) := by decide +kernel
theorem dX1_leastDistance_4 : decode cX1_leastDistance 4 = .ok (.istore 4, 2) := by decide +kernel
theorem dX1_leastDistance_6 : decode cX1_leastDistance 6 = .ok (.iload 4, 2) := by decide +kernel
theorem dX1_leastDistance_8 : decode cX1_leastDistance 8 = .ok (.aload_n 0, 1) := by decide +kernel
theorem dX1_leastDistance_9 : decode cX1_leastDistance 9 = .ok (.getfield 39, 3) := by decide +kernel
theorem dX1_leastDistance_12 : decode cX1_leastDistance 12 = .ok (.if_icmp .ge 52, 3) := by decide +kernel
theorem dX1_leastDistance_15 : decode cX1_leastDistance 15 = .ok (.aload_n 0, 1) := by decide +kernel
theorem dX1_leastDistance_16 : decode cX1_leastDistance 16 = .ok (.getfield 20, 3) := by decide +kernel
theorem dX1_leastDistance_19 : decode cX1_leastDistance 19 = .ok (.iload 4, 2) := by decide +kernel
theorem dX1_leastDistance_21 : decode cX1_leastDistance 21 = .ok (.aaload, 1) := by decide +kernel
theorem dX1_leastDistance_22 : decode cX1_leastDistance 22 = .ok (.getfield 123, 3) := by decide +kernel
theorem dX1_leastDistance_25 : decode cX1_leastDistance 25 = .ok (.iload_n 2, 1) := by decide +kernel
theorem dX1_leastDistance_26 : decode cX1_leastDistance 26 = .ok (.if_icmp .ne 32, 3) := by decide +kernel
theorem dX1_leastDistance_29 : decode cX1_leastDistance 29 = .ok (.aload_n 0, 1) := by decide +kernel
theorem dX1_leastDistance_30 : decode cX1_leastDistance 30 = .ok (.getfield 20, 3) := by decide +kernel
theorem dX1_leastDistance_33 : decode cX1_leastDistance 33 = .ok (.iload 4, 2) := by decide +kernel
theorem dX1_leastDistance_35 : decode cX1_leastDistance 35 = .ok (.aaload, 1) := by decide +kernel
theorem dX1_leastDistance_36 : decode cX1_leastDistance 36 = .ok (.iload_n 1, 1) := by decide +kernel
theorem dX1_leastDistance_37 : decode cX1_leastDistance 37 = .ok (.invokevirtual 100, 3) := by decide +kernel
theorem dX1_leastDistance_40 : decode cX1_leastDistance 40 = .ok (.ifCond .eq 18, 3) := by decide +kernel
theorem dX1_leastDistance_43 : decode cX1_leastDistance 43 = .ok (.iload_n 3, 1) := by decide +kernel
theorem dX1_leastDistance_44 : decode cX1_leastDistance 44 = .ok (.aload_n 0, 1) := by decide +kernel
theorem dX1_leastDistance_45 : decode cX1_leastDistance 45 = .ok (.getfield 20, 3) := by decide +kernel
theorem dX1_leastDistance_48 : decode cX1_leastDistance 48 = .ok (.iload 4, 2) := by decide +kernel
theorem dX1_leastDistance_50 : decode cX1_leastDistance 50 = .ok (.aaload, 1) := by decide +kernel
theorem dX1_leastDistance_51 : decode cX1_leastDistance 51 = .ok (.getfield 112, 3) := by decide +kernel
theorem dX1_leastDistance_54 : decode cX1_leastDistance 54 = .ok (.invokestatic 126, 3) := by decide +kernel
theorem dX1_leastDistance_57 : decode cX1_leastDistance 57 = .ok (.istore_n 3, 1) := by decide +kernel
theorem dX1_leastDistance_58 : decode cX1_leastDistance 58 = .ok (.iinc 4 1, 3) := by decide +kernel
theorem dX1_leastDistance_61 : decode cX1_leastDistance 61 = .ok (.goto (-55), 3) := by decide +kernel
theorem dX1_leastDistance_64 : decode cX1_leastDistance 64 = .ok (.iload_n 3, 1) := by decide +kernel
theorem dX1_leastDistance_65 : decode cX1_leastDistance 65 = .ok (.ireturn, 1) := by decide +kernel
theorem dX1_woodsNearerThan_0 : decode cX1_woodsNearerThan 0 = .ok (.iconst 0, 1) := by decide +kernel
theorem dX1_woodsNearerThan_1 : decode cX1_woodsNearerThan 1 = .ok (.istore 4, 2) := by decide +kernel
theorem dX1_woodsNearerThan_3 : decode cX1_woodsNearerThan 3 = .ok (.iconst 0, 1) := by decide +kernel
theorem dX1_woodsNearerThan_4 : decode cX1_woodsNearerThan 4 = .ok (.istore 5, 2) := by decide +kernel
theorem dX1_woodsNearerThan_6 : decode cX1_woodsNearerThan 6 = .ok (.iload 5, 2) := by decide +kernel
theorem dX1_woodsNearerThan_8 : decode cX1_woodsNearerThan 8 = .ok (.aload_n 0, 1) := by decide +kernel
theorem dX1_woodsNearerThan_9 : decode cX1_woodsNearerThan 9 = .ok (.getfield 39, 3) := by decide +kernel
theorem dX1_woodsNearerThan_12 : decode cX1_woodsNearerThan 12 = .ok (.if_icmp .ge 54, 3) := by decide +kernel
theorem dX1_woodsNearerThan_15 : decode cX1_woodsNearerThan 15 = .ok (.aload_n 0, 1) := by decide +kernel
theorem dX1_woodsNearerThan_16 : decode cX1_woodsNearerThan 16 = .ok (.getfield 20, 3) := by decide +kernel
theorem dX1_woodsNearerThan_19 : decode cX1_woodsNearerThan 19 = .ok (.iload 5, 2) := by decide +kernel
theorem dX1_woodsNearerThan_21 : decode cX1_woodsNearerThan 21 = .ok (.aaload, 1) := by decide +kernel
theorem dX1_woodsNearerThan_22 : decode cX1_woodsNearerThan 22 = .ok (.getfield 123, 3) := by decide +kernel
theorem dX1_woodsNearerThan_25 : decode cX1_woodsNearerThan 25 = .ok (.iload_n 2, 1) := by decide +kernel
theorem dX1_woodsNearerThan_26 : decode cX1_woodsNearerThan 26 = .ok (.if_icmp .ne 34, 3) := by decide +kernel
theorem dX1_woodsNearerThan_29 : decode cX1_woodsNearerThan 29 = .ok (.aload_n 0, 1) := by decide +kernel
theorem dX1_woodsNearerThan_30 : decode cX1_woodsNearerThan 30 = .ok (.getfield 20, 3) := by decide +kernel
theorem dX1_woodsNearerThan_33 : decode cX1_woodsNearerThan 33 = .ok (.iload 5, 2) := by decide +kernel
theorem dX1_woodsNearerThan_35 : decode cX1_woodsNearerThan 35 = .ok (.aaload, 1) := by decide +kernel
theorem dX1_woodsNearerThan_36 : decode cX1_woodsNearerThan 36 = .ok (.iload_n 1, 1) := by decide +kernel
theorem dX1_woodsNearerThan_37 : decode cX1_woodsNearerThan 37 = .ok (.invokevirtual 100, 3) := by decide +kernel
theorem dX1_woodsNearerThan_40 : decode cX1_woodsNearerThan 40 = .ok (.ifCond .eq 20, 3) := by decide +kernel
theorem dX1_woodsNearerThan_43 : decode cX1_woodsNearerThan 43 = .ok (.aload_n 0, 1) := by decide +kernel
theorem dX1_woodsNearerThan_44 : decode cX1_woodsNearerThan 44 = .ok (.getfield 20, 3) := by decide +kernel
theorem dX1_woodsNearerThan_47 : decode cX1_woodsNearerThan 47 = .ok (.iload 5, 2) := by decide +kernel
theorem dX1_woodsNearerThan_49 : decode cX1_woodsNearerThan 49 = .ok (.aaload, 1) := by decide +kernel
theorem dX1_woodsNearerThan_50 : decode cX1_woodsNearerThan 50 = .ok (.getfield 112, 3) := by decide +kernel
theorem dX1_woodsNearerThan_53 : decode cX1_woodsNearerThan 53 = .ok (.iload_n 3, 1) := by decide +kernel
theorem dX1_woodsNearerThan_54 : decode cX1_woodsNearerThan 54 = .ok (.if_icmp .ge 6, 3) := by decide +kernel
theorem dX1_woodsNearerThan_57 : decode cX1_woodsNearerThan 57 = .ok (.iinc 4 1, 3) := by decide +kernel
theorem dX1_woodsNearerThan_60 : decode cX1_woodsNearerThan 60 = .ok (.iinc 5 1, 3) := by decide +kernel
theorem dX1_woodsNearerThan_63 : decode cX1_woodsNearerThan 63 = .ok (.goto (-57), 3) := by decide +kernel
theorem dX1_woodsNearerThan_66 : decode cX1_woodsNearerThan 66 = .ok (.iload 4, 2) := by decide +kernel
theorem dX1_woodsNearerThan_68 : decode cX1_woodsNearerThan 68 = .ok (.ireturn, 1) := by decide +kernel
theorem dX1_countShotsInOrder_0 : decode cX1_countShotsInOrder 0 = .ok (.iconst (-1), 1) := by decide +kernel
theorem dX1_countShotsInOrder_1 : decode cX1_countShotsInOrder 1 = .ok (.istore_n 2, 1) := by decide +kernel
theorem dX1_countShotsInOrder_2 : decode cX1_countShotsInOrder 2 = .ok (.iconst 0, 1) := by decide +kernel
theorem dX1_countShotsInOrder_3 : decode cX1_countShotsInOrder 3 = .ok (.istore_n 3, 1) := by decide +kernel
theorem dX1_countShotsInOrder_4 : decode cX1_countShotsInOrder 4 = .ok (.iconst 0, 1) := by decide +kernel
theorem dX1_countShotsInOrder_5 : decode cX1_countShotsInOrder 5 = .ok (.istore 4, 2) := by decide +kernel
theorem dX1_countShotsInOrder_7 : decode cX1_countShotsInOrder 7 = .ok (.iload 4, 2) := by decide +kernel
theorem dX1_countShotsInOrder_9 : decode cX1_countShotsInOrder 9 = .ok (.aload_n 0, 1) := by decide +kernel
theorem dX1_countShotsInOrder_10 : decode cX1_countShotsInOrder 10 = .ok (.getfield 39, 3) := by decide +kernel
theorem dX1_countShotsInOrder_13 : decode cX1_countShotsInOrder 13 = .ok (.if_icmp .ge 75, 3) := by decide +kernel
theorem dX1_countShotsInOrder_16 : decode cX1_countShotsInOrder 16 = .ok (.aload_n 0, 1) := by decide +kernel
theorem dX1_countShotsInOrder_17 : decode cX1_countShotsInOrder 17 = .ok (.iload_n 1, 1) := by decide +kernel
theorem dX1_countShotsInOrder_18 : decode cX1_countShotsInOrder 18 = .ok (.iload 4, 2) := by decide +kernel
theorem dX1_countShotsInOrder_20 : decode cX1_countShotsInOrder 20 = .ok (.invokevirtual 129, 3) := by decide +kernel
theorem dX1_countShotsInOrder_23 : decode cX1_countShotsInOrder 23 = .ok (.istore 5, 2) := by decide +kernel
theorem dX1_countShotsInOrder_25 : decode cX1_countShotsInOrder 25 = .ok (.aload_n 0, 1) := by decide +kernel
theorem dX1_countShotsInOrder_26 : decode cX1_countShotsInOrder 26 = .ok (.iload 5, 2) := by decide +kernel
theorem dX1_countShotsInOrder_28 : decode cX1_countShotsInOrder 28 = .ok (.invokevirtual 132, 3) := by decide +kernel
theorem dX1_countShotsInOrder_31 : decode cX1_countShotsInOrder 31 = .ok (.ifCond .ne 6, 3) := by decide +kernel
theorem dX1_countShotsInOrder_34 : decode cX1_countShotsInOrder 34 = .ok (.goto 54, 3) := by decide +kernel
theorem dX1_countShotsInOrder_37 : decode cX1_countShotsInOrder 37 = .ok (.aload_n 0, 1) := by decide +kernel
theorem dX1_countShotsInOrder_38 : decode cX1_countShotsInOrder 38 = .ok (.getfield 20, 3) := by decide +kernel
theorem dX1_countShotsInOrder_41 : decode cX1_countShotsInOrder 41 = .ok (.iload 5, 2) := by decide +kernel
theorem dX1_countShotsInOrder_43 : decode cX1_countShotsInOrder 43 = .ok (.aaload, 1) := by decide +kernel
theorem dX1_countShotsInOrder_44 : decode cX1_countShotsInOrder 44 = .ok (.astore 6, 2) := by decide +kernel
theorem dX1_countShotsInOrder_46 : decode cX1_countShotsInOrder 46 = .ok (.iload 4, 2) := by decide +kernel
theorem dX1_countShotsInOrder_48 : decode cX1_countShotsInOrder 48 = .ok (.ifCond .ne 9, 3) := by decide +kernel
theorem dX1_countShotsInOrder_51 : decode cX1_countShotsInOrder 51 = .ok (.aload 6, 2) := by decide +kernel
theorem dX1_countShotsInOrder_53 : decode cX1_countShotsInOrder 53 = .ok (.getfield 123, 3) := by decide +kernel
theorem dX1_countShotsInOrder_56 : decode cX1_countShotsInOrder 56 = .ok (.istore_n 2, 1) := by decide +kernel
theorem dX1_countShotsInOrder_57 : decode cX1_countShotsInOrder 57 = .ok (.aload 6, 2) := by decide +kernel
theorem dX1_countShotsInOrder_59 : decode cX1_countShotsInOrder 59 = .ok (.getfield 123, 3) := by decide +kernel
theorem dX1_countShotsInOrder_62 : decode cX1_countShotsInOrder 62 = .ok (.iload_n 2, 1) := by decide +kernel
theorem dX1_countShotsInOrder_63 : decode cX1_countShotsInOrder 63 = .ok (.if_icmp .ne 25, 3) := by decide +kernel
theorem dX1_countShotsInOrder_66 : decode cX1_countShotsInOrder 66 = .ok (.aload_n 0, 1) := by decide +kernel
theorem dX1_countShotsInOrder_67 : decode cX1_countShotsInOrder 67 = .ok (.iload_n 1, 1) := by decide +kernel
theorem dX1_countShotsInOrder_68 : decode cX1_countShotsInOrder 68 = .ok (.aload 6, 2) := by decide +kernel
theorem dX1_countShotsInOrder_70 : decode cX1_countShotsInOrder 70 = .ok (.invokevirtual 135, 3) := by decide +kernel
theorem dX1_countShotsInOrder_73 : decode cX1_countShotsInOrder 73 = .ok (.ifCond .eq 6, 3) := by decide +kernel
theorem dX1_countShotsInOrder_76 : decode cX1_countShotsInOrder 76 = .ok (.goto 12, 3) := by decide +kernel
theorem dX1_countShotsInOrder_79 : decode cX1_countShotsInOrder 79 = .ok (.iinc 3 1, 3) := by decide +kernel
theorem dX1_countShotsInOrder_82 : decode cX1_countShotsInOrder 82 = .ok (.iinc 4 1, 3) := by decide +kernel
theorem dX1_countShotsInOrder_85 : decode cX1_countShotsInOrder 85 = .ok (.goto (-78), 3) := by decide +kernel
theorem dX1_countShotsInOrder_88 : decode cX1_countShotsInOrder 88 = .ok (.iload_n 3, 1) := by decide +kernel
theorem dX1_countShotsInOrder_89 : decode cX1_countShotsInOrder 89 = .ok (.ifCond .le 15, 3) := by decide +kernel
theorem dX1_countShotsInOrder_92 : decode cX1_countShotsInOrder 92 = .ok (.iload_n 2, 1) := by decide +kernel
theorem dX1_countShotsInOrder_93 : decode cX1_countShotsInOrder 93 = .ok (.iconst 1, 1) := by decide +kernel
theorem dX1_countShotsInOrder_94 : decode cX1_countShotsInOrder 94 = .ok (.if_icmp .ne 10, 3) := by decide +kernel
theorem dX1_countShotsInOrder_97 : decode cX1_countShotsInOrder 97 = .ok (.bipush 10, 2) := by decide +kernel
theorem dX1_countShotsInOrder_99 : decode cX1_countShotsInOrder 99 = .ok (.iload_n 3, 1) := by decide +kernel
theorem dX1_countShotsInOrder_100 : decode cX1_countShotsInOrder 100 = .ok (.iadd, 1) := by decide +kernel
theorem dX1_countShotsInOrder_101 : decode cX1_countShotsInOrder 101 = .ok (.goto 4, 3) := by decide +kernel
theorem dX1_countShotsInOrder_104 : decode cX1_countShotsInOrder 104 = .ok (.iload_n 3, 1) := by decide +kernel
theorem dX1_countShotsInOrder_105 : decode cX1_countShotsInOrder 105 = .ok (.ireturn, 1) := by decide +kernel
theorem dX1_isMatched_0 : decode cX1_isMatched 0 = .ok (.iconst 0, 1) := by decide +kernel
theorem dX1_isMatched_1 : decode cX1_isMatched 1 = .ok (.istore_n 3, 1) := by decide +kernel
theorem dX1_isMatched_2 : decode cX1_isMatched 2 = .ok (.iload_n 3, 1) := by decide +kernel
theorem dX1_isMatched_3 : decode cX1_isMatched 3 = .ok (.aload_n 0, 1) := by decide +kernel
theorem dX1_isMatched_4 : decode cX1_isMatched 4 = .ok (.getfield 39, 3) := by decide +kernel
theorem dX1_isMatched_7 : decode cX1_isMatched 7 = .ok (.if_icmp .ge 52, 3) := by decide +kernel
theorem dX1_isMatched_10 : decode cX1_isMatched 10 = .ok (.aload_n 0, 1) := by decide +kernel
theorem dX1_isMatched_11 : decode cX1_isMatched 11 = .ok (.getfield 20, 3) := by decide +kernel
theorem dX1_isMatched_14 : decode cX1_isMatched 14 = .ok (.iload_n 3, 1) := by decide +kernel
theorem dX1_isMatched_15 : decode cX1_isMatched 15 = .ok (.aaload, 1) := by decide +kernel
theorem dX1_isMatched_16 : decode cX1_isMatched 16 = .ok (.astore 4, 2) := by decide +kernel
theorem dX1_isMatched_18 : decode cX1_isMatched 18 = .ok (.aload 4, 2) := by decide +kernel
theorem dX1_isMatched_20 : decode cX1_isMatched 20 = .ok (.getfield 123, 3) := by decide +kernel
theorem dX1_isMatched_23 : decode cX1_isMatched 23 = .ok (.aload_n 2, 1) := by decide +kernel
theorem dX1_isMatched_24 : decode cX1_isMatched 24 = .ok (.getfield 123, 3) := by decide +kernel
theorem dX1_isMatched_27 : decode cX1_isMatched 27 = .ok (.if_icmp .eq 26, 3) := by decide +kernel
theorem dX1_isMatched_30 : decode cX1_isMatched 30 = .ok (.aload 4, 2) := by decide +kernel
theorem dX1_isMatched_32 : decode cX1_isMatched 32 = .ok (.iload_n 1, 1) := by decide +kernel
theorem dX1_isMatched_33 : decode cX1_isMatched 33 = .ok (.invokevirtual 100, 3) := by decide +kernel
theorem dX1_isMatched_36 : decode cX1_isMatched 36 = .ok (.ifCond .eq 17, 3) := by decide +kernel
theorem dX1_isMatched_39 : decode cX1_isMatched 39 = .ok (.aload 4, 2) := by decide +kernel
theorem dX1_isMatched_41 : decode cX1_isMatched 41 = .ok (.getfield 112, 3) := by decide +kernel
theorem dX1_isMatched_44 : decode cX1_isMatched 44 = .ok (.aload_n 2, 1) := by decide +kernel
theorem dX1_isMatched_45 : decode cX1_isMatched 45 = .ok (.getfield 112, 3) := by decide +kernel
theorem dX1_isMatched_48 : decode cX1_isMatched 48 = .ok (.if_icmp .ne 5, 3) := by decide +kernel
theorem dX1_isMatched_51 : decode cX1_isMatched 51 = .ok (.iconst 1, 1) := by decide +kernel
theorem dX1_isMatched_52 : decode cX1_isMatched 52 = .ok (.ireturn, 1) := by decide +kernel
theorem dX1_isMatched_53 : decode cX1_isMatched 53 = .ok (.iinc 3 1, 3) := by decide +kernel
theorem dX1_isMatched_56 : decode cX1_isMatched 56 = .ok (.goto (-54), 3) := by decide +kernel
theorem dX1_isMatched_59 : decode cX1_isMatched 59 = .ok (.iconst 0, 1) := by decide +kernel
theorem dX1_isMatched_60 : decode cX1_isMatched 60 = .ok (.ireturn, 1) := by decide +kernel
theorem dX1_bringWoodsToShed_0 : decode cX1_bringWoodsToShed 0 = .ok (.iconst 0, 1) := by decide +kernel
theorem dX1_bringWoodsToShed_1 : decode cX1_bringWoodsToShed 1 = .ok (.istore_n 2, 1) := by decide +kernel
theorem dX1_bringWoodsToShed_2 : decode cX1_bringWoodsToShed 2 = .ok (.iload_n 2, 1) := by decide +kernel
theorem dX1_bringWoodsToShed_3 : decode cX1_bringWoodsToShed 3 = .ok (.aload_n 0, 1) := by decide +kernel
theorem dX1_bringWoodsToShed_4 : decode cX1_bringWoodsToShed 4 = .ok (.getfield 39, 3) := by decide +kernel
theorem dX1_bringWoodsToShed_7 : decode cX1_bringWoodsToShed 7 = .ok (.if_icmp .ge 32, 3) := by decide +kernel
theorem dX1_bringWoodsToShed_10 : decode cX1_bringWoodsToShed 10 = .ok (.aload_n 0, 1) := by decide +kernel
theorem dX1_bringWoodsToShed_11 : decode cX1_bringWoodsToShed 11 = .ok (.getfield 20, 3) := by decide +kernel
theorem dX1_bringWoodsToShed_14 : decode cX1_bringWoodsToShed 14 = .ok (.iload_n 2, 1) := by decide +kernel
theorem dX1_bringWoodsToShed_15 : decode cX1_bringWoodsToShed 15 = .ok (.aaload, 1) := by decide +kernel
theorem dX1_bringWoodsToShed_16 : decode cX1_bringWoodsToShed 16 = .ok (.getfield 139, 3) := by decide +kernel
theorem dX1_bringWoodsToShed_19 : decode cX1_bringWoodsToShed 19 = .ok (.iload_n 1, 1) := by decide +kernel
theorem dX1_bringWoodsToShed_20 : decode cX1_bringWoodsToShed 20 = .ok (.if_icmp .ne 13, 3) := by decide +kernel
theorem dX1_bringWoodsToShed_23 : decode cX1_bringWoodsToShed 23 = .ok (.aload_n 0, 1) := by decide +kernel
theorem dX1_bringWoodsToShed_24 : decode cX1_bringWoodsToShed 24 = .ok (.getfield 20, 3) := by decide +kernel
theorem dX1_bringWoodsToShed_27 : decode cX1_bringWoodsToShed 27 = .ok (.iload_n 2, 1) := by decide +kernel
theorem dX1_bringWoodsToShed_28 : decode cX1_bringWoodsToShed 28 = .ok (.aaload, 1) := by decide +kernel
theorem dX1_bringWoodsToShed_29 : decode cX1_bringWoodsToShed 29 = .ok (.iconst 0, 1) := by decide +kernel
theorem dX1_bringWoodsToShed_30 : decode cX1_bringWoodsToShed 30 = .ok (.putfield 142, 3) := by decide +kernel
theorem dX1_bringWoodsToShed_33 : decode cX1_bringWoodsToShed 33 = .ok (.iinc 2 1, 3) := by decide +kernel
theorem dX1_bringWoodsToShed_36 : decode cX1_bringWoodsToShed 36 = .ok (.goto (-34), 3) := by decide +kernel
theorem dX1_bringWoodsToShed_39 : decode cX1_bringWoodsToShed 39 = .ok (.return_, 1) := by decide +kernel
theorem dX1_woodsOn_0 : decode cX1_woodsOn 0 = .ok (.iconst 0, 1) := by decide +kernel
theorem dX1_woodsOn_1 : decode cX1_woodsOn 1 = .ok (.istore_n 3, 1) := by decide +kernel
theorem dX1_woodsOn_2 : decode cX1_woodsOn 2 = .ok (.iconst 0, 1) := by decide +kernel
theorem dX1_woodsOn_3 : decode cX1_woodsOn 3 = .ok (.istore 4, 2) := by decide +kernel
theorem dX1_woodsOn_5 : decode cX1_woodsOn 5 = .ok (.iload 4, 2) := by decide +kernel
theorem dX1_woodsOn_7 : decode cX1_woodsOn 7 = .ok (.aload_n 0, 1) := by decide +kernel
theorem dX1_woodsOn_8 : decode cX1_woodsOn 8 = .ok (.getfield 39, 3) := by decide +kernel
theorem dX1_woodsOn_11 : decode cX1_woodsOn 11 = .ok (.if_icmp .ge 40, 3) := by decide +kernel
theorem dX1_woodsOn_14 : decode cX1_woodsOn 14 = .ok (.aload_n 0, 1) := by decide +kernel
theorem dX1_woodsOn_15 : decode cX1_woodsOn 15 = .ok (.getfield 20, 3) := by decide +kernel
theorem dX1_woodsOn_18 : decode cX1_woodsOn 18 = .ok (.iload 4, 2) := by decide +kernel
theorem dX1_woodsOn_20 : decode cX1_woodsOn 20 = .ok (.aaload, 1) := by decide +kernel
theorem dX1_woodsOn_21 : decode cX1_woodsOn 21 = .ok (.getfield 142, 3) := by decide +kernel
theorem dX1_woodsOn_24 : decode cX1_woodsOn 24 = .ok (.iload_n 2, 1) := by decide +kernel
theorem dX1_woodsOn_25 : decode cX1_woodsOn 25 = .ok (.if_icmp .ne 20, 3) := by decide +kernel
theorem dX1_woodsOn_28 : decode cX1_woodsOn 28 = .ok (.aload_n 0, 1) := by decide +kernel
theorem dX1_woodsOn_29 : decode cX1_woodsOn 29 = .ok (.getfield 20, 3) := by decide +kernel
theorem dX1_woodsOn_32 : decode cX1_woodsOn 32 = .ok (.iload 4, 2) := by decide +kernel
theorem dX1_woodsOn_34 : decode cX1_woodsOn 34 = .ok (.aaload, 1) := by decide +kernel
theorem dX1_woodsOn_35 : decode cX1_woodsOn 35 = .ok (.getfield 139, 3) := by decide +kernel
theorem dX1_woodsOn_38 : decode cX1_woodsOn 38 = .ok (.iload_n 1, 1) := by decide +kernel
theorem dX1_woodsOn_39 : decode cX1_woodsOn 39 = .ok (.if_icmp .ne 6, 3) := by decide +kernel
theorem dX1_woodsOn_42 : decode cX1_woodsOn 42 = .ok (.iinc 3 1, 3) := by decide +kernel
theorem dX1_woodsOn_45 : decode cX1_woodsOn 45 = .ok (.iinc 4 1, 3) := by decide +kernel
theorem dX1_woodsOn_48 : decode cX1_woodsOn 48 = .ok (.goto (-43), 3) := by decide +kernel
theorem dX1_woodsOn_51 : decode cX1_woodsOn 51 = .ok (.iload_n 3, 1) := by decide +kernel
theorem dX1_woodsOn_52 : decode cX1_woodsOn 52 = .ok (.ireturn, 1) := by decide +kernel
theorem dX1_woodsOfClub_0 : decode cX1_woodsOfClub 0 = .ok (.iconst 0, 1) := by decide +kernel
theorem dX1_woodsOfClub_1 : decode cX1_woodsOfClub 1 = .ok (.istore_n 2, 1) := by decide +kernel
theorem dX1_woodsOfClub_2 : decode cX1_woodsOfClub 2 = .ok (.iconst 0, 1) := by decide +kernel
theorem dX1_woodsOfClub_3 : decode cX1_woodsOfClub 3 = .ok (.istore_n 3, 1) := by decide +kernel
theorem dX1_woodsOfClub_4 : decode cX1_woodsOfClub 4 = .ok (.iload_n 3, 1) := by decide +kernel
theorem dX1_woodsOfClub_5 : decode cX1_woodsOfClub 5 = .ok (.aload_n 0, 1) := by decide +kernel
theorem dX1_woodsOfClub_6 : decode cX1_woodsOfClub 6 = .ok (.getfield 39, 3) := by decide +kernel
theorem dX1_woodsOfClub_9 : decode cX1_woodsOfClub 9 = .ok (.if_icmp .ge 25, 3) := by decide +kernel
theorem dX1_woodsOfClub_12 : decode cX1_woodsOfClub 12 = .ok (.aload_n 0, 1) := by decide +kernel
theorem dX1_woodsOfClub_13 : decode cX1_woodsOfClub 13 = .ok (.getfield 20, 3) := by decide +kernel
theorem dX1_woodsOfClub_16 : decode cX1_woodsOfClub 16 = .ok (.iload_n 3, 1) := by decide +kernel
theorem dX1_woodsOfClub_17 : decode cX1_woodsOfClub 17 = .ok (.aaload, 1) := by decide +kernel
theorem dX1_woodsOfClub_18 : decode cX1_woodsOfClub 18 = .ok (.getfield 123, 3) := by decide +kernel
theorem dX1_woodsOfClub_21 : decode cX1_woodsOfClub 21 = .ok (.iload_n 1, 1) := by decide +kernel
theorem dX1_woodsOfClub_22 : decode cX1_woodsOfClub 22 = .ok (.if_icmp .ne 6, 3) := by decide +kernel
theorem dX1_woodsOfClub_25 : decode cX1_woodsOfClub 25 = .ok (.iinc 2 1, 3) := by decide +kernel
theorem dX1_woodsOfClub_28 : decode cX1_woodsOfClub 28 = .ok (.iinc 3 1, 3) := by decide +kernel
theorem dX1_woodsOfClub_31 : decode cX1_woodsOfClub 31 = .ok (.goto (-27), 3) := by decide +kernel
theorem dX1_woodsOfClub_34 : decode cX1_woodsOfClub 34 = .ok (.iload_n 2, 1) := by decide +kernel
theorem dX1_woodsOfClub_35 : decode cX1_woodsOfClub 35 = .ok (.ireturn, 1) := by decide +kernel
theorem dX1_woodsOfClubInShed_0 : decode cX1_woodsOfClubInShed 0 = .ok (.iconst 0, 1) := by decide +kernel
theorem dX1_woodsOfClubInShed_1 : decode cX1_woodsOfClubInShed 1 = .ok (.istore_n 2, 1) := by decide +kernel
theorem dX1_woodsOfClubInShed_2 : decode cX1_woodsOfClubInShed 2 = .ok (.iconst 0, 1) := by decide +kernel
theorem dX1_woodsOfClubInShed_3 : decode cX1_woodsOfClubInShed 3 = .ok (.istore_n 3, 1) := by decide +kernel
theorem dX1_woodsOfClubInShed_4 : decode cX1_woodsOfClubInShed 4 = .ok (.iload_n 3, 1) := by decide +kernel
theorem dX1_woodsOfClubInShed_5 : decode cX1_woodsOfClubInShed 5 = .ok (.aload_n 0, 1) := by decide +kernel
theorem dX1_woodsOfClubInShed_6 : decode cX1_woodsOfClubInShed 6 = .ok (.getfield 39, 3) := by decide +kernel
theorem dX1_woodsOfClubInShed_9 : decode cX1_woodsOfClubInShed 9 = .ok (.if_icmp .ge 37, 3) := by decide +kernel
theorem dX1_woodsOfClubInShed_12 : decode cX1_woodsOfClubInShed 12 = .ok (.aload_n 0, 1) := by decide +kernel
theorem dX1_woodsOfClubInShed_13 : decode cX1_woodsOfClubInShed 13 = .ok (.getfield 20, 3) := by decide +kernel
theorem dX1_woodsOfClubInShed_16 : decode cX1_woodsOfClubInShed 16 = .ok (.iload_n 3, 1) := by decide +kernel
theorem dX1_woodsOfClubInShed_17 : decode cX1_woodsOfClubInShed 17 = .ok (.aaload, 1) := by decide +kernel
theorem dX1_woodsOfClubInShed_18 : decode cX1_woodsOfClubInShed 18 = .ok (.getfield 123, 3) := by decide +kernel
theorem dX1_woodsOfClubInShed_21 : decode cX1_woodsOfClubInShed 21 = .ok (.iload_n 1, 1) := by decide +kernel
theorem dX1_woodsOfClubInShed_22 : decode cX1_woodsOfClubInShed 22 = .ok (.if_icmp .ne 18, 3) := by decide +kernel
theorem dX1_woodsOfClubInShed_25 : decode cX1_woodsOfClubInShed 25 = .ok (.aload_n 0, 1) := by decide +kernel
theorem dX1_woodsOfClubInShed_26 : decode cX1_woodsOfClubInShed 26 = .ok (.getfield 20, 3) := by decide +kernel
theorem dX1_woodsOfClubInShed_29 : decode cX1_woodsOfClubInShed 29 = .ok (.iload_n 3, 1) := by decide +kernel
theorem dX1_woodsOfClubInShed_30 : decode cX1_woodsOfClubInShed 30 = .ok (.aaload, 1) := by decide +kernel
theorem dX1_woodsOfClubInShed_31 : decode cX1_woodsOfClubInShed 31 = .ok (.getfield 142, 3) := by decide +kernel
theorem dX1_woodsOfClubInShed_34 : decode cX1_woodsOfClubInShed 34 = .ok (.ifCond .ne 6, 3) := by decide +kernel
theorem dX1_woodsOfClubInShed_37 : decode cX1_woodsOfClubInShed 37 = .ok (.iinc 2 1, 3) := by decide +kernel
theorem dX1_woodsOfClubInShed_40 : decode cX1_woodsOfClubInShed 40 = .ok (.iinc 3 1, 3) := by decide +kernel
theorem dX1_woodsOfClubInShed_43 : decode cX1_woodsOfClubInShed 43 = .ok (.goto (-39), 3) := by decide +kernel
theorem dX1_woodsOfClubInShed_46 : decode cX1_woodsOfClubInShed 46 = .ok (.iload_n 2, 1) := by decide +kernel
theorem dX1_woodsOfClubInShed_47 : decode cX1_woodsOfClubInShed 47 = .ok (.ireturn, 1) := by decide +kernel
theorem dX1_woodsInShed_0 : decode cX1_woodsInShed 0 = .ok (.aload_n 0, 1) := by decide +kernel
theorem dX1_woodsInShed_1 : decode cX1_woodsInShed 1 = .ok (.iconst 0, 1) := by decide +kernel
theorem dX1_woodsInShed_2 : decode cX1_woodsInShed 2 = .ok (.invokevirtual 145, 3) := by decide +kernel
theorem dX1_woodsInShed_5 : decode cX1_woodsInShed 5 = .ok (.aload_n 0, 1) := by decide +kernel
theorem dX1_woodsInShed_6 : decode cX1_woodsInShed 6 = .ok (.iconst 1, 1) := by decide +kernel
theorem dX1_woodsInShed_7 : decode cX1_woodsInShed 7 = .ok (.invokevirtual 145, 3) := by decide +kernel
theorem dX1_woodsInShed_10 : decode cX1_woodsInShed 10 = .ok (.iadd, 1) := by decide +kernel
theorem dX1_woodsInShed_11 : decode cX1_woodsInShed 11 = .ok (.ireturn, 1) := by decide +kernel
theorem dX1_woodsBowled_0 : decode cX1_woodsBowled 0 = .ok (.iconst 0, 1) := by decide +kernel
theorem dX1_woodsBowled_1 : decode cX1_woodsBowled 1 = .ok (.istore_n 1, 1) := by decide +kernel
theorem dX1_woodsBowled_2 : decode cX1_woodsBowled 2 = .ok (.iconst 0, 1) := by decide +kernel
theorem dX1_woodsBowled_3 : decode cX1_woodsBowled 3 = .ok (.istore_n 2, 1) := by decide +kernel
theorem dX1_woodsBowled_4 : decode cX1_woodsBowled 4 = .ok (.iload_n 2, 1) := by decide +kernel
theorem dX1_woodsBowled_5 : decode cX1_woodsBowled 5 = .ok (.aload_n 0, 1) := by decide +kernel
theorem dX1_woodsBowled_6 : decode cX1_woodsBowled 6 = .ok (.getfield 39, 3) := by decide +kernel
theorem dX1_woodsBowled_9 : decode cX1_woodsBowled 9 = .ok (.if_icmp .ge 21, 3) := by decide +kernel
theorem dX1_woodsBowled_12 : decode cX1_woodsBowled 12 = .ok (.iload_n 1, 1) := by decide +kernel
theorem dX1_woodsBowled_13 : decode cX1_woodsBowled 13 = .ok (.aload_n 0, 1) := by decide +kernel
theorem dX1_woodsBowled_14 : decode cX1_woodsBowled 14 = .ok (.getfield 20, 3) := by decide +kernel
theorem dX1_woodsBowled_17 : decode cX1_woodsBowled 17 = .ok (.iload_n 2, 1) := by decide +kernel
theorem dX1_woodsBowled_18 : decode cX1_woodsBowled 18 = .ok (.aaload, 1) := by decide +kernel
theorem dX1_woodsBowled_19 : decode cX1_woodsBowled 19 = .ok (.getfield 149, 3) := by decide +kernel
theorem dX1_woodsBowled_22 : decode cX1_woodsBowled 22 = .ok (.iadd, 1) := by decide +kernel
theorem dX1_woodsBowled_23 : decode cX1_woodsBowled 23 = .ok (.istore_n 1, 1) := by decide +kernel
theorem dX1_woodsBowled_24 : decode cX1_woodsBowled 24 = .ok (.iinc 2 1, 3) := by decide +kernel
theorem dX1_woodsBowled_27 : decode cX1_woodsBowled 27 = .ok (.goto (-23), 3) := by decide +kernel
theorem dX1_woodsBowled_30 : decode cX1_woodsBowled 30 = .ok (.iload_n 1, 1) := by decide +kernel
theorem dX1_woodsBowled_31 : decode cX1_woodsBowled 31 = .ok (.ireturn, 1) := by decide +kernel
theorem dX1_endsPlayed_0 : decode cX1_endsPlayed 0 = .ok (.iconst 0, 1) := by decide +kernel
theorem dX1_endsPlayed_1 : decode cX1_endsPlayed 1 = .ok (.istore_n 1, 1) := by decide +kernel
theorem dX1_endsPlayed_2 : decode cX1_endsPlayed 2 = .ok (.iconst 0, 1) := by decide +kernel
theorem dX1_endsPlayed_3 : decode cX1_endsPlayed 3 = .ok (.istore_n 2, 1) := by decide +kernel
theorem dX1_endsPlayed_4 : decode cX1_endsPlayed 4 = .ok (.iload_n 2, 1) := by decide +kernel
theorem dX1_endsPlayed_5 : decode cX1_endsPlayed 5 = .ok (.aload_n 0, 1) := by decide +kernel
theorem dX1_endsPlayed_6 : decode cX1_endsPlayed 6 = .ok (.getfield 35, 3) := by decide +kernel
theorem dX1_endsPlayed_9 : decode cX1_endsPlayed 9 = .ok (.if_icmp .ge 24, 3) := by decide +kernel
theorem dX1_endsPlayed_12 : decode cX1_endsPlayed 12 = .ok (.aload_n 0, 1) := by decide +kernel
theorem dX1_endsPlayed_13 : decode cX1_endsPlayed 13 = .ok (.getfield 11, 3) := by decide +kernel
theorem dX1_endsPlayed_16 : decode cX1_endsPlayed 16 = .ok (.iload_n 2, 1) := by decide +kernel
theorem dX1_endsPlayed_17 : decode cX1_endsPlayed 17 = .ok (.aaload, 1) := by decide +kernel
theorem dX1_endsPlayed_18 : decode cX1_endsPlayed 18 = .ok (.invokevirtual 152, 3) := by decide +kernel
theorem dX1_endsPlayed_21 : decode cX1_endsPlayed 21 = .ok (.ifCond .eq 6, 3) := by decide +kernel
theorem dX1_endsPlayed_24 : decode cX1_endsPlayed 24 = .ok (.iinc 1 1, 3) := by decide +kernel
theorem dX1_endsPlayed_27 : decode cX1_endsPlayed 27 = .ok (.iinc 2 1, 3) := by decide +kernel
theorem dX1_endsPlayed_30 : decode cX1_endsPlayed 30 = .ok (.goto (-26), 3) := by decide +kernel
theorem dX1_endsPlayed_33 : decode cX1_endsPlayed 33 = .ok (.iload_n 1, 1) := by decide +kernel
theorem dX1_endsPlayed_34 : decode cX1_endsPlayed 34 = .ok (.ireturn, 1) := by decide +kernel
theorem dX1_endsClosed_0 : decode cX1_endsClosed 0 = .ok (.iconst 0, 1) := by decide +kernel
theorem dX1_endsClosed_1 : decode cX1_endsClosed 1 = .ok (.istore_n 1, 1) := by decide +kernel
theorem dX1_endsClosed_2 : decode cX1_endsClosed 2 = .ok (.iconst 0, 1) := by decide +kernel
theorem dX1_endsClosed_3 : decode cX1_endsClosed 3 = .ok (.istore_n 2, 1) := by decide +kernel
theorem dX1_endsClosed_4 : decode cX1_endsClosed 4 = .ok (.iload_n 2, 1) := by decide +kernel
theorem dX1_endsClosed_5 : decode cX1_endsClosed 5 = .ok (.aload_n 0, 1) := by decide +kernel
theorem dX1_endsClosed_6 : decode cX1_endsClosed 6 = .ok (.getfield 35, 3) := by decide +kernel
theorem dX1_endsClosed_9 : decode cX1_endsClosed 9 = .ok (.if_icmp .ge 21, 3) := by decide +kernel
theorem dX1_endsClosed_12 : decode cX1_endsClosed 12 = .ok (.iload_n 1, 1) := by decide +kernel
theorem dX1_endsClosed_13 : decode cX1_endsClosed 13 = .ok (.aload_n 0, 1) := by decide +kernel
theorem dX1_endsClosed_14 : decode cX1_endsClosed 14 = .ok (.getfield 11, 3) := by decide +kernel
theorem dX1_endsClosed_17 : decode cX1_endsClosed 17 = .ok (.iload_n 2, 1) := by decide +kernel
theorem dX1_endsClosed_18 : decode cX1_endsClosed 18 = .ok (.aaload, 1) := by decide +kernel
theorem dX1_endsClosed_19 : decode cX1_endsClosed 19 = .ok (.getfield 156, 3) := by decide +kernel
theorem dX1_endsClosed_22 : decode cX1_endsClosed 22 = .ok (.iadd, 1) := by decide +kernel
theorem dX1_endsClosed_23 : decode cX1_endsClosed 23 = .ok (.istore_n 1, 1) := by decide +kernel
theorem dX1_endsClosed_24 : decode cX1_endsClosed 24 = .ok (.iinc 2 1, 3) := by decide +kernel
theorem dX1_endsClosed_27 : decode cX1_endsClosed 27 = .ok (.goto (-23), 3) := by decide +kernel
theorem dX1_endsClosed_30 : decode cX1_endsClosed 30 = .ok (.iload_n 1, 1) := by decide +kernel
theorem dX1_endsClosed_31 : decode cX1_endsClosed 31 = .ok (.ireturn, 1) := by decide +kernel
theorem dX1_allWet_0 : decode cX1_allWet 0 = .ok (.iconst 0, 1) := by decide +kernel
theorem dX1_allWet_1 : decode cX1_allWet 1 = .ok (.istore_n 1, 1) := by decide +kernel
theorem dX1_allWet_2 : decode cX1_allWet 2 = .ok (.iconst 0, 1) := by decide +kernel
theorem dX1_allWet_3 : decode cX1_allWet 3 = .ok (.istore_n 2, 1) := by decide +kernel
theorem dX1_allWet_4 : decode cX1_allWet 4 = .ok (.iload_n 2, 1) := by decide +kernel
theorem dX1_allWet_5 : decode cX1_allWet 5 = .ok (.aload_n 0, 1) := by decide +kernel
theorem dX1_allWet_6 : decode cX1_allWet 6 = .ok (.getfield 35, 3) := by decide +kernel
theorem dX1_allWet_9 : decode cX1_allWet 9 = .ok (.if_icmp .ge 21, 3) := by decide +kernel
theorem dX1_allWet_12 : decode cX1_allWet 12 = .ok (.iload_n 1, 1) := by decide +kernel
theorem dX1_allWet_13 : decode cX1_allWet 13 = .ok (.aload_n 0, 1) := by decide +kernel
theorem dX1_allWet_14 : decode cX1_allWet 14 = .ok (.getfield 11, 3) := by decide +kernel
theorem dX1_allWet_17 : decode cX1_allWet 17 = .ok (.iload_n 2, 1) := by decide +kernel
theorem dX1_allWet_18 : decode cX1_allWet 18 = .ok (.aaload, 1) := by decide +kernel
theorem dX1_allWet_19 : decode cX1_allWet 19 = .ok (.getfield 80, 3) := by decide +kernel
theorem dX1_allWet_22 : decode cX1_allWet 22 = .ok (.iadd, 1) := by decide +kernel
theorem dX1_allWet_23 : decode cX1_allWet 23 = .ok (.istore_n 1, 1) := by decide +kernel
theorem dX1_allWet_24 : decode cX1_allWet 24 = .ok (.iinc 2 1, 3) := by decide +kernel
theorem dX1_allWet_27 : decode cX1_allWet 27 = .ok (.goto (-23), 3) := by decide +kernel
theorem dX1_allWet_30 : decode cX1_allWet 30 = .ok (.iload_n 1, 1) := by decide +kernel
theorem dX1_allWet_31 : decode cX1_allWet 31 = .ok (.ireturn, 1) := by decide +kernel
theorem dX1_allCasts_0 : decode cX1_allCasts 0 = .ok (.iconst 0, 1) := by decide +kernel
theorem dX1_allCasts_1 : decode cX1_allCasts 1 = .ok (.istore_n 1, 1) := by decide +kernel
theorem dX1_allCasts_2 : decode cX1_allCasts 2 = .ok (.iconst 0, 1) := by decide +kernel
theorem dX1_allCasts_3 : decode cX1_allCasts 3 = .ok (.istore_n 2, 1) := by decide +kernel
theorem dX1_allCasts_4 : decode cX1_allCasts 4 = .ok (.iload_n 2, 1) := by decide +kernel
theorem dX1_allCasts_5 : decode cX1_allCasts 5 = .ok (.aload_n 0, 1) := by decide +kernel
theorem dX1_allCasts_6 : decode cX1_allCasts 6 = .ok (.getfield 35, 3) := by decide +kernel
theorem dX1_allCasts_9 : decode cX1_allCasts 9 = .ok (.if_icmp .ge 21, 3) := by decide +kernel
theorem dX1_allCasts_12 : decode cX1_allCasts 12 = .ok (.iload_n 1, 1) := by decide +kernel
theorem dX1_allCasts_13 : decode cX1_allCasts 13 = .ok (.aload_n 0, 1) := by decide +kernel
theorem dX1_allCasts_14 : decode cX1_allCasts 14 = .ok (.getfield 11, 3) := by decide +kernel
theorem dX1_allCasts_17 : decode cX1_allCasts 17 = .ok (.iload_n 2, 1) := by decide +kernel
theorem dX1_allCasts_18 : decode cX1_allCasts 18 = .ok (.aaload, 1) := by decide +kernel
theorem dX1_allCasts_19 : decode cX1_allCasts 19 = .ok (.getfield 83, 3) := by decide +kernel
theorem dX1_allCasts_22 : decode cX1_allCasts 22 = .ok (.iadd, 1) := by decide +kernel
theorem dX1_allCasts_23 : decode cX1_allCasts 23 = .ok (.istore_n 1, 1) := by decide +kernel
theorem dX1_allCasts_24 : decode cX1_allCasts 24 = .ok (.iinc 2 1, 3) := by decide +kernel
theorem dX1_allCasts_27 : decode cX1_allCasts 27 = .ok (.goto (-23), 3) := by decide +kernel
theorem dX1_allCasts_30 : decode cX1_allCasts 30 = .ok (.iload_n 1, 1) := by decide +kernel
theorem dX1_allCasts_31 : decode cX1_allCasts 31 = .ok (.ireturn, 1) := by decide +kernel
theorem dX1_drink_0 : decode cX1_drink 0 = .ok (.aload_n 0, 1) := by decide +kernel
theorem dX1_drink_1 : decode cX1_drink 1 = .ok (.dup, 1) := by decide +kernel
theorem dX1_drink_2 : decode cX1_drink 2 = .ok (.getfield 52, 3) := by decide +kernel
theorem dX1_drink_5 : decode cX1_drink 5 = .ok (.iload_n 1, 1) := by decide +kernel
theorem dX1_drink_6 : decode cX1_drink 6 = .ok (.isub, 1) := by decide +kernel
theorem dX1_drink_7 : decode cX1_drink 7 = .ok (.putfield 52, 3) := by decide +kernel
theorem dX1_drink_10 : decode cX1_drink 10 = .ok (.aload_n 0, 1) := by decide +kernel
theorem dX1_drink_11 : decode cX1_drink 11 = .ok (.dup, 1) := by decide +kernel
theorem dX1_drink_12 : decode cX1_drink 12 = .ok (.getfield 55, 3) := by decide +kernel
theorem dX1_drink_15 : decode cX1_drink 15 = .ok (.iload_n 1, 1) := by decide +kernel
theorem dX1_drink_16 : decode cX1_drink 16 = .ok (.iadd, 1) := by decide +kernel
theorem dX1_drink_17 : decode cX1_drink 17 = .ok (.putfield 55, 3) := by decide +kernel
theorem dX1_drink_20 : decode cX1_drink 20 = .ok (.return_, 1) := by decide +kernel
theorem dX1_passHour_0 : decode cX1_passHour 0 = .ok (.iconst 0, 1) := by decide +kernel
theorem dX1_passHour_1 : decode cX1_passHour 1 = .ok (.istore_n 1, 1) := by decide +kernel
theorem dX1_passHour_2 : decode cX1_passHour 2 = .ok (.iload_n 1, 1) := by decide +kernel
theorem dX1_passHour_3 : decode cX1_passHour 3 = .ok (.aload_n 0, 1) := by decide +kernel
theorem dX1_passHour_4 : decode cX1_passHour 4 = .ok (.getfield 35, 3) := by decide +kernel
theorem dX1_passHour_7 : decode cX1_passHour 7 = .ok (.if_icmp .ge 44, 3) := by decide +kernel
theorem dX1_passHour_10 : decode cX1_passHour 10 = .ok (.aload_n 0, 1) := by decide +kernel
theorem dX1_passHour_11 : decode cX1_passHour 11 = .ok (.getfield 11, 3) := by decide +kernel
theorem dX1_passHour_14 : decode cX1_passHour 14 = .ok (.iload_n 1, 1) := by decide +kernel
theorem dX1_passHour_15 : decode cX1_passHour 15 = .ok (.aaload, 1) := by decide +kernel
theorem dX1_passHour_16 : decode cX1_passHour 16 = .ok (.astore_n 2, 1) := by decide +kernel
theorem dX1_passHour_17 : decode cX1_passHour 17 = .ok (.aload_n 2, 1) := by decide +kernel
theorem dX1_passHour_18 : decode cX1_passHour 18 = .ok (.aload_n 0, 1) := by decide +kernel
theorem dX1_passHour_19 : decode cX1_passHour 19 = .ok (.aload_n 2, 1) := by decide +kernel
theorem dX1_passHour_20 : decode cX1_passHour 20 = .ok (.getfield 80, 3) := by decide +kernel
theorem dX1_passHour_23 : decode cX1_passHour 23 = .ok (.invokevirtual 159, 3) := by decide +kernel
theorem dX1_passHour_26 : decode cX1_passHour 26 = .ok (.putfield 80, 3) := by decide +kernel
theorem dX1_passHour_29 : decode cX1_passHour 29 = .ok (.aload_n 2, 1) := by decide +kernel
theorem dX1_passHour_30 : decode cX1_passHour 30 = .ok (.aload_n 2, 1) := by decide +kernel
theorem dX1_passHour_31 : decode cX1_passHour 31 = .ok (.aload_n 2, 1) := by decide +kernel
theorem dX1_passHour_32 : decode cX1_passHour 32 = .ok (.getfield 83, 3) := by decide +kernel
theorem dX1_passHour_35 : decode cX1_passHour 35 = .ok (.aload_n 2, 1) := by decide +kernel
theorem dX1_passHour_36 : decode cX1_passHour 36 = .ok (.getfield 80, 3) := by decide +kernel
theorem dX1_passHour_39 : decode cX1_passHour 39 = .ok (.invokevirtual 162, 3) := by decide +kernel
theorem dX1_passHour_42 : decode cX1_passHour 42 = .ok (.putfield 83, 3) := by decide +kernel
theorem dX1_passHour_45 : decode cX1_passHour 45 = .ok (.iinc 1 1, 3) := by decide +kernel
theorem dX1_passHour_48 : decode cX1_passHour 48 = .ok (.goto (-46), 3) := by decide +kernel
theorem dX1_passHour_51 : decode cX1_passHour 51 = .ok (.aload_n 0, 1) := by decide +kernel
theorem dX1_passHour_52 : decode cX1_passHour 52 = .ok (.dup, 1) := by decide +kernel
theorem dX1_passHour_53 : decode cX1_passHour 53 = .ok (.getfield 43, 3) := by decide +kernel
theorem dX1_passHour_56 : decode cX1_passHour 56 = .ok (.iconst 1, 1) := by decide +kernel
theorem dX1_passHour_57 : decode cX1_passHour 57 = .ok (.iadd, 1) := by decide +kernel
theorem dX1_passHour_58 : decode cX1_passHour 58 = .ok (.putfield 43, 3) := by decide +kernel
theorem dX1_passHour_61 : decode cX1_passHour 61 = .ok (.return_, 1) := by decide +kernel
theorem dX1_wetAfter_0 : decode cX1_wetAfter 0 = .ok (.iconst 0, 1) := by decide +kernel
theorem dX1_wetAfter_1 : decode cX1_wetAfter 1 = .ok (.bipush 20, 2) := by decide +kernel
theorem dX1_wetAfter_3 : decode cX1_wetAfter 3 = .ok (.iload_n 1, 1) := by decide +kernel
theorem dX1_wetAfter_4 : decode cX1_wetAfter 4 = .ok (.aload_n 0, 1) := by decide +kernel
theorem dX1_wetAfter_5 : decode cX1_wetAfter 5 = .ok (.getfield 46, 3) := by decide +kernel
theorem dX1_wetAfter_8 : decode cX1_wetAfter 8 = .ok (.iadd, 1) := by decide +kernel
theorem dX1_wetAfter_9 : decode cX1_wetAfter 9 = .ok (.aload_n 0, 1) := by decide +kernel
theorem dX1_wetAfter_10 : decode cX1_wetAfter 10 = .ok (.getfield 49, 3) := by decide +kernel
theorem dX1_wetAfter_13 : decode cX1_wetAfter 13 = .ok (.isub, 1) := by decide +kernel
theorem dX1_wetAfter_14 : decode cX1_wetAfter 14 = .ok (.invokestatic 126, 3) := by decide +kernel
theorem dX1_wetAfter_17 : decode cX1_wetAfter 17 = .ok (.invokestatic 86, 3) := by decide +kernel
theorem dX1_wetAfter_20 : decode cX1_wetAfter 20 = .ok (.ireturn, 1) := by decide +kernel
theorem dX1_wetAhead_0 : decode cX1_wetAhead 0 = .ok (.aload_n 0, 1) := by decide +kernel
theorem dX1_wetAhead_1 : decode cX1_wetAhead 1 = .ok (.getfield 11, 3) := by decide +kernel
theorem dX1_wetAhead_4 : decode cX1_wetAhead 4 = .ok (.iload_n 1, 1) := by decide +kernel
theorem dX1_wetAhead_5 : decode cX1_wetAhead 5 = .ok (.aaload, 1) := by decide +kernel
theorem dX1_wetAhead_6 : decode cX1_wetAhead 6 = .ok (.getfield 80, 3) := by decide +kernel
theorem dX1_wetAhead_9 : decode cX1_wetAhead 9 = .ok (.istore_n 3, 1) := by decide +kernel
theorem dX1_wetAhead_10 : decode cX1_wetAhead 10 = .ok (.iconst 0, 1) := by decide +kernel
theorem dX1_wetAhead_11 : decode cX1_wetAhead 11 = .ok (.istore 4, 2) := by decide +kernel
theorem dX1_wetAhead_13 : decode cX1_wetAhead 13 = .ok (.iload 4, 2) := by decide +kernel
theorem dX1_wetAhead_15 : decode cX1_wetAhead 15 = .ok (.iload_n 2, 1) := by decide +kernel
theorem dX1_wetAhead_16 : decode cX1_wetAhead 16 = .ok (.if_icmp .ge 15, 3) := by decide +kernel
theorem dX1_wetAhead_19 : decode cX1_wetAhead 19 = .ok (.aload_n 0, 1) := by decide +kernel
theorem dX1_wetAhead_20 : decode cX1_wetAhead 20 = .ok (.iload_n 3, 1) := by decide +kernel
theorem dX1_wetAhead_21 : decode cX1_wetAhead 21 = .ok (.invokevirtual 159, 3) := by decide +kernel
theorem dX1_wetAhead_24 : decode cX1_wetAhead 24 = .ok (.istore_n 3, 1) := by decide +kernel
theorem dX1_wetAhead_25 : decode cX1_wetAhead 25 = .ok (.iinc 4 1, 3) := by decide +kernel
theorem dX1_wetAhead_28 : decode cX1_wetAhead 28 = .ok (.goto (-15), 3) := by decide +kernel
theorem dX1_wetAhead_31 : decode cX1_wetAhead 31 = .ok (.iload_n 3, 1) := by decide +kernel
theorem dX1_wetAhead_32 : decode cX1_wetAhead 32 = .ok (.ireturn, 1) := by decide +kernel
theorem dX1_castsAhead_0 : decode cX1_castsAhead 0 = .ok (.aload_n 0, 1) := by decide +kernel
theorem dX1_castsAhead_1 : decode cX1_castsAhead 1 = .ok (.getfield 11, 3) := by decide +kernel
theorem dX1_castsAhead_4 : decode cX1_castsAhead 4 = .ok (.iload_n 1, 1) := by decide +kernel
theorem dX1_castsAhead_5 : decode cX1_castsAhead 5 = .ok (.aaload, 1) := by decide +kernel
theorem dX1_castsAhead_6 : decode cX1_castsAhead 6 = .ok (.getfield 80, 3) := by decide +kernel
theorem dX1_castsAhead_9 : decode cX1_castsAhead 9 = .ok (.istore_n 3, 1) := by decide +kernel
theorem dX1_castsAhead_10 : decode cX1_castsAhead 10 = .ok (.aload_n 0, 1) := by decide +kernel
theorem dX1_castsAhead_11 : decode cX1_castsAhead 11 = .ok (.getfield 11, 3) := by decide +kernel
theorem dX1_castsAhead_14 : decode cX1_castsAhead 14 = .ok (.iload_n 1, 1) := by decide +kernel
theorem dX1_castsAhead_15 : decode cX1_castsAhead 15 = .ok (.aaload, 1) := by decide +kernel
theorem dX1_castsAhead_16 : decode cX1_castsAhead 16 = .ok (.getfield 83, 3) := by decide +kernel
theorem dX1_castsAhead_19 : decode cX1_castsAhead 19 = .ok (.istore 4, 2) := by decide +kernel
theorem dX1_castsAhead_21 : decode cX1_castsAhead 21 = .ok (.iconst 0, 1) := by decide +kernel
theorem dX1_castsAhead_22 : decode cX1_castsAhead 22 = .ok (.istore 5, 2) := by decide +kernel
theorem dX1_castsAhead_24 : decode cX1_castsAhead 24 = .ok (.iload 5, 2) := by decide +kernel
theorem dX1_castsAhead_26 : decode cX1_castsAhead 26 = .ok (.iload_n 2, 1) := by decide +kernel
theorem dX1_castsAhead_27 : decode cX1_castsAhead 27 = .ok (.if_icmp .ge 29, 3) := by decide +kernel
theorem dX1_castsAhead_30 : decode cX1_castsAhead 30 = .ok (.aload_n 0, 1) := by decide +kernel
theorem dX1_castsAhead_31 : decode cX1_castsAhead 31 = .ok (.iload_n 3, 1) := by decide +kernel
theorem dX1_castsAhead_32 : decode cX1_castsAhead 32 = .ok (.invokevirtual 159, 3) := by decide +kernel
theorem dX1_castsAhead_35 : decode cX1_castsAhead 35 = .ok (.istore_n 3, 1) := by decide +kernel
theorem dX1_castsAhead_36 : decode cX1_castsAhead 36 = .ok (.aload_n 0, 1) := by decide +kernel
theorem dX1_castsAhead_37 : decode cX1_castsAhead 37 = .ok (.getfield 11, 3) := by decide +kernel
theorem dX1_castsAhead_40 : decode cX1_castsAhead 40 = .ok (.iload_n 1, 1) := by decide +kernel
theorem dX1_castsAhead_41 : decode cX1_castsAhead 41 = .ok (.aaload, 1) := by decide +kernel
theorem dX1_castsAhead_42 : decode cX1_castsAhead 42 = .ok (.iload 4, 2) := by decide +kernel
theorem dX1_castsAhead_44 : decode cX1_castsAhead 44 = .ok (.iload_n 3, 1) := by decide +kernel
theorem dX1_castsAhead_45 : decode cX1_castsAhead 45 = .ok (.invokevirtual 162, 3) := by decide +kernel
theorem dX1_castsAhead_48 : decode cX1_castsAhead 48 = .ok (.istore 4, 2) := by decide +kernel
theorem dX1_castsAhead_50 : decode cX1_castsAhead 50 = .ok (.iinc 5 1, 3) := by decide +kernel
theorem dX1_castsAhead_53 : decode cX1_castsAhead 53 = .ok (.goto (-29), 3) := by decide +kernel
theorem dX1_castsAhead_56 : decode cX1_castsAhead 56 = .ok (.iload 4, 2) := by decide +kernel
theorem dX1_castsAhead_58 : decode cX1_castsAhead 58 = .ok (.ireturn, 1) := by decide +kernel
theorem dX1_hoursUntilDry_0 : decode cX1_hoursUntilDry 0 = .ok (.aload_n 0, 1) := by decide +kernel
theorem dX1_hoursUntilDry_1 : decode cX1_hoursUntilDry 1 = .ok (.getfield 11, 3) := by decide +kernel
theorem dX1_hoursUntilDry_4 : decode cX1_hoursUntilDry 4 = .ok (.iload_n 1, 1) := by decide +kernel
theorem dX1_hoursUntilDry_5 : decode cX1_hoursUntilDry 5 = .ok (.aaload, 1) := by decide +kernel
theorem dX1_hoursUntilDry_6 : decode cX1_hoursUntilDry 6 = .ok (.getfield 80, 3) := by decide +kernel
theorem dX1_hoursUntilDry_9 : decode cX1_hoursUntilDry 9 = .ok (.istore_n 2, 1) := by decide +kernel
theorem dX1_hoursUntilDry_10 : decode cX1_hoursUntilDry 10 = .ok (.iconst 0, 1) := by decide +kernel
theorem dX1_hoursUntilDry_11 : decode cX1_hoursUntilDry 11 = .ok (.istore_n 3, 1) := by decide +kernel
theorem dX1_hoursUntilDry_12 : decode cX1_hoursUntilDry 12 = .ok (.iload_n 3, 1) := by decide +kernel
theorem dX1_hoursUntilDry_13 : decode cX1_hoursUntilDry 13 = .ok (.bipush 40, 2) := by decide +kernel
theorem dX1_hoursUntilDry_15 : decode cX1_hoursUntilDry 15 = .ok (.if_icmp .gt 23, 3) := by decide +kernel
theorem dX1_hoursUntilDry_18 : decode cX1_hoursUntilDry 18 = .ok (.iload_n 2, 1) := by decide +kernel
theorem dX1_hoursUntilDry_19 : decode cX1_hoursUntilDry 19 = .ok (.bipush 8, 2) := by decide +kernel
theorem dX1_hoursUntilDry_21 : decode cX1_hoursUntilDry 21 = .ok (.if_icmp .ge 5, 3) := by decide +kernel
theorem dX1_hoursUntilDry_24 : decode cX1_hoursUntilDry 24 = .ok (.iload_n 3, 1) := by decide +kernel
theorem dX1_hoursUntilDry_25 : decode cX1_hoursUntilDry 25 = .ok (.ireturn, 1) := by decide +kernel
theorem dX1_hoursUntilDry_26 : decode cX1_hoursUntilDry 26 = .ok (.aload_n 0, 1) := by decide +kernel
theorem dX1_hoursUntilDry_27 : decode cX1_hoursUntilDry 27 = .ok (.iload_n 2, 1) := by decide +kernel
theorem dX1_hoursUntilDry_28 : decode cX1_hoursUntilDry 28 = .ok (.invokevirtual 159, 3) := by decide +kernel
theorem dX1_hoursUntilDry_31 : decode cX1_hoursUntilDry 31 = .ok (.istore_n 2, 1) := by decide +kernel
theorem dX1_hoursUntilDry_32 : decode cX1_hoursUntilDry 32 = .ok (.iinc 3 1, 3) := by decide +kernel
theorem dX1_hoursUntilDry_35 : decode cX1_hoursUntilDry 35 = .ok (.goto (-23), 3) := by decide +kernel
theorem dX1_hoursUntilDry_38 : decode cX1_hoursUntilDry 38 = .ok (.iconst (-1), 1) := by decide +kernel
theorem dX1_hoursUntilDry_39 : decode cX1_hoursUntilDry 39 = .ok (.ireturn, 1) := by decide +kernel
theorem dX2_init_0 : decode cX2_init 0 = .ok (.aload_n 0, 1) := by decide +kernel
theorem dX2_init_1 : decode cX2_init 1 = .ok (.invokespecial 3, 3) := by decide +kernel
theorem dX2_init_4 : decode cX2_init 4 = .ok (.aload_n 0, 1) := by decide +kernel
theorem dX2_init_5 : decode cX2_init 5 = .ok (.bipush 30, 2) := by decide +kernel
theorem dX2_init_7 : decode cX2_init 7 = .ok (.newarray .int, 2) := by decide +kernel
theorem dX2_init_9 : decode cX2_init 9 = .ok (.putfield 9, 3) := by decide +kernel
theorem dX2_init_12 : decode cX2_init 12 = .ok (.aload_n 0, 1) := by decide +kernel
theorem dX2_init_13 : decode cX2_init 13 = .ok (.sipush 150, 3) := by decide +kernel
theorem dX2_init_16 : decode cX2_init 16 = .ok (.newarray .int, 2) := by decide +kernel
theorem dX2_init_18 : decode cX2_init 18 = .ok (.putfield 15, 3) := by decide +kernel
theorem dX2_init_21 : decode cX2_init 21 = .ok (.return_, 1) := by decide +kernel
theorem dX2_number_0 : decode cX2_number 0 = .ok (.aload_n 0, 1) := by decide +kernel
theorem dX2_number_1 : decode cX2_number 1 = .ok (.getfield 15, 3) := by decide +kernel
theorem dX2_number_4 : decode cX2_number 4 = .ok (.iload_n 1, 1) := by decide +kernel
theorem dX2_number_5 : decode cX2_number 5 = .ok (.iconst 5, 1) := by decide +kernel
theorem dX2_number_6 : decode cX2_number 6 = .ok (.imul, 1) := by decide +kernel
theorem dX2_number_7 : decode cX2_number 7 = .ok (.iload_n 2, 1) := by decide +kernel
theorem dX2_number_8 : decode cX2_number 8 = .ok (.iadd, 1) := by decide +kernel
theorem dX2_number_9 : decode cX2_number 9 = .ok (.iaload, 1) := by decide +kernel
theorem dX2_number_10 : decode cX2_number 10 = .ok (.ireturn, 1) := by decide +kernel
theorem dX2_read_0 : decode cX2_read 0 = .ok (.aload_n 0, 1) := by decide +kernel
theorem dX2_read_1 : decode cX2_read 1 = .ok (.iconst 0, 1) := by decide +kernel
theorem dX2_read_2 : decode cX2_read 2 = .ok (.putfield 18, 3) := by decide +kernel
theorem dX2_read_5 : decode cX2_read 5 = .ok (.aload_n 0, 1) := by decide +kernel
theorem dX2_read_6 : decode cX2_read 6 = .ok (.iconst 0, 1) := by decide +kernel
theorem dX2_read_7 : decode cX2_read 7 = .ok (.putfield 22, 3) := by decide +kernel
theorem dX2_read_10 : decode cX2_read 10 = .ok (.iconst 0, 1) := by decide +kernel
theorem dX2_read_11 : decode cX2_read 11 = .ok (.istore_n 2, 1) := by decide +kernel
theorem dX2_read_12 : decode cX2_read 12 = .ok (.iload_n 2, 1) := by decide +kernel
theorem dX2_read_13 : decode cX2_read 13 = .ok (.bipush 30, 2) := by decide +kernel
theorem dX2_read_15 : decode cX2_read 15 = .ok (.if_icmp .ge 55, 3) := by decide +kernel
theorem dX2_read_18 : decode cX2_read 18 = .ok (.aload_n 0, 1) := by decide +kernel
theorem dX2_read_19 : decode cX2_read 19 = .ok (.aload_n 1, 1) := by decide +kernel
theorem dX2_read_20 : decode cX2_read 20 = .ok (.iload_n 2, 1) := by decide +kernel
theorem dX2_read_21 : decode cX2_read 21 = .ok (.invokevirtual 25, 3) := by decide +kernel
theorem dX2_read_24 : decode cX2_read 24 = .ok (.ifCond .ne 5, 3) := by decide +kernel
theorem dX2_read_27 : decode cX2_read 27 = .ok (.iconst 0, 1) := by decide +kernel
theorem dX2_read_28 : decode cX2_read 28 = .ok (.ireturn, 1) := by decide +kernel
theorem dX2_read_29 : decode cX2_read 29 = .ok (.aload_n 0, 1) := by decide +kernel
theorem dX2_read_30 : decode cX2_read 30 = .ok (.dup, 1) := by decide +kernel
theorem dX2_read_31 : decode cX2_read 31 = .ok (.getfield 18, 3) := by decide +kernel
theorem dX2_read_34 : decode cX2_read 34 = .ok (.iconst 1, 1) := by decide +kernel
theorem dX2_read_35 : decode cX2_read 35 = .ok (.iadd, 1) := by decide +kernel
theorem dX2_read_36 : decode cX2_read 36 = .ok (.putfield 18, 3) := by decide +kernel
theorem dX2_read_39 : decode cX2_read 39 = .ok (.aload_n 0, 1) := by decide +kernel
theorem dX2_read_40 : decode cX2_read 40 = .ok (.getfield 22, 3) := by decide +kernel
theorem dX2_read_43 : decode cX2_read 43 = .ok (.aload_n 1, 1) := by decide +kernel
theorem dX2_read_44 : decode cX2_read 44 = .ok (.invokevirtual 29, 3) := by decide +kernel
theorem dX2_read_47 : decode cX2_read 47 = .ok (.if_icmp .ne 5, 3) := by decide +kernel
theorem dX2_read_50 : decode cX2_read 50 = .ok (.iconst 1, 1) := by decide +kernel
theorem dX2_read_51 : decode cX2_read 51 = .ok (.ireturn, 1) := by decide +kernel
theorem dX2_read_52 : decode cX2_read 52 = .ok (.aload_n 0, 1) := by decide +kernel
theorem dX2_read_53 : decode cX2_read 53 = .ok (.aload_n 1, 1) := by decide +kernel
theorem dX2_read_54 : decode cX2_read 54 = .ok (.bipush 59, 2) := by decide +kernel
theorem dX2_read_56 : decode cX2_read 56 = .ok (.invokevirtual 35, 3) := by decide +kernel
theorem dX2_read_59 : decode cX2_read 59 = .ok (.ifCond .ne 5, 3) := by decide +kernel
theorem dX2_read_62 : decode cX2_read 62 = .ok (.iconst 0, 1) := by decide +kernel
theorem dX2_read_63 : decode cX2_read 63 = .ok (.ireturn, 1) := by decide +kernel
theorem dX2_read_64 : decode cX2_read 64 = .ok (.iinc 2 1, 3) := by decide +kernel
theorem dX2_read_67 : decode cX2_read 67 = .ok (.goto (-55), 3) := by decide +kernel
theorem dX2_read_70 : decode cX2_read 70 = .ok (.iconst 0, 1) := by decide +kernel
theorem dX2_read_71 : decode cX2_read 71 = .ok (.ireturn, 1) := by decide +kernel
theorem dX2_readOrder_0 : decode cX2_readOrder 0 = .ok (.aload_n 0, 1) := by decide +kernel
theorem dX2_readOrder_1 : decode cX2_readOrder 1 = .ok (.getfield 22, 3) := by decide +kernel
theorem dX2_readOrder_4 : decode cX2_readOrder 4 = .ok (.aload_n 1, 1) := by decide +kernel
theorem dX2_readOrder_5 : decode cX2_readOrder 5 = .ok (.invokevirtual 29, 3) := by decide +kernel
theorem dX2_readOrder_8 : decode cX2_readOrder 8 = .ok (.if_icmp .lt 5, 3) := by decide +kernel
theorem dX2_readOrder_11 : decode cX2_readOrder 11 = .ok (.iconst 0, 1) := by decide +kernel
theorem dX2_readOrder_12 : decode cX2_readOrder 12 = .ok (.ireturn, 1) := by decide +kernel
theorem dX2_readOrder_13 : decode cX2_readOrder 13 = .ok (.aload_n 0, 1) := by decide +kernel
theorem dX2_readOrder_14 : decode cX2_readOrder 14 = .ok (.getfield 9, 3) := by decide +kernel
theorem dX2_readOrder_17 : decode cX2_readOrder 17 = .ok (.iload_n 2, 1) := by decide +kernel
theorem dX2_readOrder_18 : decode cX2_readOrder 18 = .ok (.aload_n 1, 1) := by decide +kernel
theorem dX2_readOrder_19 : decode cX2_readOrder 19 = .ok (.aload_n 0, 1) := by decide +kernel
theorem dX2_readOrder_20 : decode cX2_readOrder 20 = .ok (.getfield 22, 3) := by decide +kernel
theorem dX2_readOrder_23 : decode cX2_readOrder 23 = .ok (.invokevirtual 38, 3) := by decide +kernel
theorem dX2_readOrder_26 : decode cX2_readOrder 26 = .ok (.iastore, 1) := by decide +kernel
theorem dX2_readOrder_27 : decode cX2_readOrder 27 = .ok (.aload_n 0, 1) := by decide +kernel
theorem dX2_readOrder_28 : decode cX2_readOrder 28 = .ok (.getfield 9, 3) := by decide +kernel
theorem dX2_readOrder_31 : decode cX2_readOrder 31 = .ok (.iload_n 2, 1) := by decide +kernel
theorem dX2_readOrder_32 : decode cX2_readOrder 32 = .ok (.iaload, 1) := by decide +kernel
theorem dX2_readOrder_33 : decode cX2_readOrder 33 = .ok (.invokestatic 42, 3) := by decide +kernel
theorem dX2_readOrder_36 : decode cX2_readOrder 36 = .ok (.astore_n 3, 1) := by decide +kernel
theorem dX2_readOrder_37 : decode cX2_readOrder 37 = .ok (.aload_n 3, 1) := by decide +kernel
theorem dX2_readOrder_38 : decode cX2_readOrder 38 = .ok (.invokevirtual 46, 3) := by decide +kernel
theorem dX2_readOrder_41 : decode cX2_readOrder 41 = .ok (.ifCond .eq 5, 3) := by decide +kernel
theorem dX2_readOrder_44 : decode cX2_readOrder 44 = .ok (.iconst 0, 1) := by decide +kernel
theorem dX2_readOrder_45 : decode cX2_readOrder 45 = .ok (.ireturn, 1) := by decide +kernel
theorem dX2_readOrder_46 : decode cX2_readOrder 46 = .ok (.aload_n 0, 1) := by decide +kernel
theorem dX2_readOrder_47 : decode cX2_readOrder 47 = .ok (.dup, 1) := by decide +kernel
theorem dX2_readOrder_48 : decode cX2_readOrder 48 = .ok (.getfield 22, 3) := by decide +kernel
theorem dX2_readOrder_51 : decode cX2_readOrder 51 = .ok (.iconst 1, 1) := by decide +kernel
theorem dX2_readOrder_52 : decode cX2_readOrder 52 = .ok (.iadd, 1) := by decide +kernel
theorem dX2_readOrder_53 : decode cX2_readOrder 53 = .ok (.putfield 22, 3) := by decide +kernel
theorem dX2_readOrder_56 : decode cX2_readOrder 56 = .ok (.iload_n 2, 1) := by decide +kernel
theorem dX2_readOrder_57 : decode cX2_readOrder 57 = .ok (.iconst 5, 1) := by decide +kernel
theorem dX2_readOrder_58 : decode cX2_readOrder 58 = .ok (.imul, 1) := by decide +kernel
theorem dX2_readOrder_59 : decode cX2_readOrder 59 = .ok (.istore 4, 2) := by decide +kernel
theorem dX2_readOrder_61 : decode cX2_readOrder 61 = .ok (.iconst 0, 1) := by decide +kernel
theorem dX2_readOrder_62 : decode cX2_readOrder 62 = .ok (.istore 5, 2) := by decide +kernel
theorem dX2_readOrder_64 : decode cX2_readOrder 64 = .ok (.iload 5, 2) := by decide +kernel
theorem dX2_readOrder_66 : decode cX2_readOrder 66 = .ok (.aload_n 3, 1) := by decide +kernel
theorem dX2_readOrder_67 : decode cX2_readOrder 67 = .ok (.invokevirtual 52, 3) := by decide +kernel
theorem dX2_readOrder_70 : decode cX2_readOrder 70 = .ok (.if_icmp .ge 42, 3) := by decide +kernel
theorem dX2_readOrder_73 : decode cX2_readOrder 73 = .ok (.aload_n 3, 1) := by decide +kernel
theorem dX2_readOrder_74 : decode cX2_readOrder 74 = .ok (.iload 5, 2) := by decide +kernel
theorem dX2_readOrder_76 : decode cX2_readOrder 76 = .ok (.invokevirtual 53, 3) := by decide +kernel
theorem dX2_readOrder_79 : decode cX2_readOrder 79 = .ok (.istore 6, 2) := by decide +kernel
theorem dX2_readOrder_81 : decode cX2_readOrder 81 = .ok (.aload_n 0, 1) := by decide +kernel
theorem dX2_readOrder_82 : decode cX2_readOrder 82 = .ok (.aload_n 1, 1) := by decide +kernel
theorem dX2_readOrder_83 : decode cX2_readOrder 83 = .ok (.iload 6, 2) := by decide +kernel
theorem dX2_readOrder_85 : decode cX2_readOrder 85 = .ok (.iload 4, 2) := by decide +kernel
theorem dX2_readOrder_87 : decode cX2_readOrder 87 = .ok (.invokevirtual 54, 3) := by decide +kernel
theorem dX2_readOrder_90 : decode cX2_readOrder 90 = .ok (.ifCond .ne 5, 3) := by decide +kernel
theorem dX2_readOrder_93 : decode cX2_readOrder 93 = .ok (.iconst 0, 1) := by decide +kernel
theorem dX2_readOrder_94 : decode cX2_readOrder 94 = .ok (.ireturn, 1) := by decide +kernel
theorem dX2_readOrder_95 : decode cX2_readOrder 95 = .ok (.iload 6, 2) := by decide +kernel
theorem dX2_readOrder_97 : decode cX2_readOrder 97 = .ok (.invokestatic 58, 3) := by decide +kernel
theorem dX2_readOrder_100 : decode cX2_readOrder 100 = .ok (.ifCond .eq 6, 3) := by decide +kernel
theorem dX2_readOrder_103 : decode cX2_readOrder 103 = .ok (.iinc 4 1, 3) := by decide +kernel
theorem dX2_readOrder_106 : decode cX2_readOrder 106 = .ok (.iinc 5 1, 3) := by decide +kernel
theorem dX2_readOrder_109 : decode cX2_readOrder 109 = .ok (.goto (-45), 3) := by decide +kernel
theorem dX2_readOrder_112 : decode cX2_readOrder 112 = .ok (.iconst 1, 1) := by decide +kernel
theorem dX2_readOrder_113 : decode cX2_readOrder 113 = .ok (.ireturn, 1) := by decide +kernel
theorem dX2_formOf_0 : decode cX2_formOf 0 = .ok (.iload_n 0, 1) := by decide +kernel
theorem dX2_formOf_1 : decode cX2_formOf 1 = .ok (.tableswitch 115 98 119 #[106, 109, 115, 103, 115, 115, 112, 115, 115, 115, 115, 115, 115, 115, 115, 115, 109, 109, 109, 115, 115, 109], 103) := by decide +kernel
theorem dX2_formOf_104 : decode cX2_formOf 104 = .ok (.ldc 62, 2) := by decide +kernel
theorem dX2_formOf_106 : decode cX2_formOf 106 = .ok (.areturn, 1) := by decide +kernel
theorem dX2_formOf_107 : decode cX2_formOf 107 = .ok (.ldc 64, 2) := by decide +kernel
theorem dX2_formOf_109 : decode cX2_formOf 109 = .ok (.areturn, 1) := by decide +kernel
theorem dX2_formOf_110 : decode cX2_formOf 110 = .ok (.ldc 66, 2) := by decide +kernel
theorem dX2_formOf_112 : decode cX2_formOf 112 = .ok (.areturn, 1) := by decide +kernel
theorem dX2_formOf_113 : decode cX2_formOf 113 = .ok (.ldc 68, 2) := by decide +kernel
theorem dX2_formOf_115 : decode cX2_formOf 115 = .ok (.areturn, 1) := by decide +kernel
theorem dX2_formOf_116 : decode cX2_formOf 116 = .ok (.ldc 70, 2) := by decide +kernel
theorem dX2_formOf_118 : decode cX2_formOf 118 = .ok (.areturn, 1) := by decide +kernel
theorem dX2_isKept_0 : decode cX2_isKept 0 = .ok (.iload_n 0, 1) := by decide +kernel
theorem dX2_isKept_1 : decode cX2_isKept 1 = .ok (.bipush 100, 2) := by decide +kernel
theorem dX2_isKept_3 : decode cX2_isKept 3 = .ok (.if_icmp .eq 15, 3) := by decide +kernel
theorem dX2_isKept_6 : decode cX2_isKept 6 = .ok (.iload_n 0, 1) := by decide +kernel
theorem dX2_isKept_7 : decode cX2_isKept 7 = .ok (.bipush 110, 2) := by decide +kernel
theorem dX2_isKept_9 : decode cX2_isKept 9 = .ok (.if_icmp .eq 9, 3) := by decide +kernel
theorem dX2_isKept_12 : decode cX2_isKept 12 = .ok (.iload_n 0, 1) := by decide +kernel
theorem dX2_isKept_13 : decode cX2_isKept 13 = .ok (.bipush 43, 2) := by decide +kernel
theorem dX2_isKept_15 : decode cX2_isKept 15 = .ok (.if_icmp .ne 7, 3) := by decide +kernel
theorem dX2_isKept_18 : decode cX2_isKept 18 = .ok (.iconst 1, 1) := by decide +kernel
theorem dX2_isKept_19 : decode cX2_isKept 19 = .ok (.goto 4, 3) := by decide +kernel
theorem dX2_isKept_22 : decode cX2_isKept 22 = .ok (.iconst 0, 1) := by decide +kernel
theorem dX2_isKept_23 : decode cX2_isKept 23 = .ok (.ireturn, 1) := by decide +kernel
theorem dX2_readPart_0 : decode cX2_readPart 0 = .ok (.iload_n 2, 1) := by decide +kernel
theorem dX2_readPart_1 : decode cX2_readPart 1 = .ok (.lookupswitch 58 #[(43, 51), (100, 35), (110, 43)], 35) := by decide +kernel
theorem dX2_readPart_36 : decode cX2_readPart 36 = .ok (.aload_n 0, 1) := by decide +kernel
theorem dX2_readPart_37 : decode cX2_readPart 37 = .ok (.aload_n 1, 1) := by decide +kernel
theorem dX2_readPart_38 : decode cX2_readPart 38 = .ok (.iconst 1, 1) := by decide +kernel
theorem dX2_readPart_39 : decode cX2_readPart 39 = .ok (.iload_n 3, 1) := by decide +kernel
theorem dX2_readPart_40 : decode cX2_readPart 40 = .ok (.invokevirtual 72, 3) := by decide +kernel
theorem dX2_readPart_43 : decode cX2_readPart 43 = .ok (.ireturn, 1) := by decide +kernel
theorem dX2_readPart_44 : decode cX2_readPart 44 = .ok (.aload_n 0, 1) := by decide +kernel
theorem dX2_readPart_45 : decode cX2_readPart 45 = .ok (.aload_n 1, 1) := by decide +kernel
theorem dX2_readPart_46 : decode cX2_readPart 46 = .ok (.iconst 2, 1) := by decide +kernel
theorem dX2_readPart_47 : decode cX2_readPart 47 = .ok (.iload_n 3, 1) := by decide +kernel
theorem dX2_readPart_48 : decode cX2_readPart 48 = .ok (.invokevirtual 72, 3) := by decide +kernel
theorem dX2_readPart_51 : decode cX2_readPart 51 = .ok (.ireturn, 1) := by decide +kernel
theorem dX2_readPart_52 : decode cX2_readPart 52 = .ok (.aload_n 0, 1) := by decide +kernel
theorem dX2_readPart_53 : decode cX2_readPart 53 = .ok (.aload_n 1, 1) := by decide +kernel
theorem dX2_readPart_54 : decode cX2_readPart 54 = .ok (.iload_n 3, 1) := by decide +kernel
theorem dX2_readPart_55 : decode cX2_readPart 55 = .ok (.invokevirtual 75, 3) := by decide +kernel
theorem dX2_readPart_58 : decode cX2_readPart 58 = .ok (.ireturn, 1) := by decide +kernel
theorem dX2_readPart_59 : decode cX2_readPart 59 = .ok (.aload_n 0, 1) := by decide +kernel
theorem dX2_readPart_60 : decode cX2_readPart 60 = .ok (.aload_n 1, 1) := by decide +kernel
theorem dX2_readPart_61 : decode cX2_readPart 61 = .ok (.iload_n 2, 1) := by decide +kernel
theorem dX2_readPart_62 : decode cX2_readPart 62 = .ok (.invokevirtual 35, 3) := by decide +kernel
theorem dX2_readPart_65 : decode cX2_readPart 65 = .ok (.ireturn, 1) := by decide +kernel
theorem dX2_readDigits_0 : decode cX2_readDigits 0 = .ok (.iconst 0, 1) := by decide +kernel
theorem dX2_readDigits_1 : decode cX2_readDigits 1 = .ok (.istore 4, 2) := by decide +kernel
theorem dX2_readDigits_3 : decode cX2_readDigits 3 = .ok (.iconst 0, 1) := by decide +kernel
theorem dX2_readDigits_4 : decode cX2_readDigits 4 = .ok (.istore 5, 2) := by decide +kernel
theorem dX2_readDigits_6 : decode cX2_readDigits 6 = .ok (.iload 5, 2) := by decide +kernel
theorem dX2_readDigits_8 : decode cX2_readDigits 8 = .ok (.iload_n 2, 1) := by decide +kernel
theorem dX2_readDigits_9 : decode cX2_readDigits 9 = .ok (.if_icmp .ge 63, 3) := by decide +kernel
theorem dX2_readDigits_12 : decode cX2_readDigits 12 = .ok (.aload_n 0, 1) := by decide +kernel
theorem dX2_readDigits_13 : decode cX2_readDigits 13 = .ok (.getfield 22, 3) := by decide +kernel
theorem dX2_readDigits_16 : decode cX2_readDigits 16 = .ok (.aload_n 1, 1) := by decide +kernel
theorem dX2_readDigits_17 : decode cX2_readDigits 17 = .ok (.invokevirtual 29, 3) := by decide +kernel
theorem dX2_readDigits_20 : decode cX2_readDigits 20 = .ok (.if_icmp .ge 52, 3) := by decide +kernel
theorem dX2_readDigits_23 : decode cX2_readDigits 23 = .ok (.aload_n 1, 1) := by decide +kernel
theorem dX2_readDigits_24 : decode cX2_readDigits 24 = .ok (.aload_n 0, 1) := by decide +kernel
theorem dX2_readDigits_25 : decode cX2_readDigits 25 = .ok (.getfield 22, 3) := by decide +kernel
theorem dX2_readDigits_28 : decode cX2_readDigits 28 = .ok (.invokevirtual 38, 3) := by decide +kernel
theorem dX2_readDigits_31 : decode cX2_readDigits 31 = .ok (.invokestatic 78, 3) := by decide +kernel
theorem dX2_readDigits_34 : decode cX2_readDigits 34 = .ok (.ifCond .eq 38, 3) := by decide +kernel
theorem dX2_readDigits_37 : decode cX2_readDigits 37 = .ok (.bipush 10, 2) := by decide +kernel
theorem dX2_readDigits_39 : decode cX2_readDigits 39 = .ok (.iload 4, 2) := by decide +kernel
theorem dX2_readDigits_41 : decode cX2_readDigits 41 = .ok (.imul, 1) := by decide +kernel
theorem dX2_readDigits_42 : decode cX2_readDigits 42 = .ok (.aload_n 1, 1) := by decide +kernel
theorem dX2_readDigits_43 : decode cX2_readDigits 43 = .ok (.aload_n 0, 1) := by decide +kernel
theorem dX2_readDigits_44 : decode cX2_readDigits 44 = .ok (.getfield 22, 3) := by decide +kernel
theorem dX2_readDigits_47 : decode cX2_readDigits 47 = .ok (.invokevirtual 38, 3) := by decide +kernel
theorem dX2_readDigits_50 : decode cX2_readDigits 50 = .ok (.iadd, 1) := by decide +kernel
theorem dX2_readDigits_51 : decode cX2_readDigits 51 = .ok (.bipush 48, 2) := by decide +kernel
theorem dX2_readDigits_53 : decode cX2_readDigits 53 = .ok (.isub, 1) := by decide +kernel
theorem dX2_readDigits_54 : decode cX2_readDigits 54 = .ok (.istore 4, 2) := by decide +kernel
theorem dX2_readDigits_56 : decode cX2_readDigits 56 = .ok (.aload_n 0, 1) := by decide +kernel
theorem dX2_readDigits_57 : decode cX2_readDigits 57 = .ok (.dup, 1) := by decide +kernel
theorem dX2_readDigits_58 : decode cX2_readDigits 58 = .ok (.getfield 22, 3) := by decide +kernel
theorem dX2_readDigits_61 : decode cX2_readDigits 61 = .ok (.iconst 1, 1) := by decide +kernel
theorem dX2_readDigits_62 : decode cX2_readDigits 62 = .ok (.iadd, 1) := by decide +kernel
theorem dX2_readDigits_63 : decode cX2_readDigits 63 = .ok (.putfield 22, 3) := by decide +kernel
theorem dX2_readDigits_66 : decode cX2_readDigits 66 = .ok (.iinc 5 1, 3) := by decide +kernel
theorem dX2_readDigits_69 : decode cX2_readDigits 69 = .ok (.goto (-63), 3) := by decide +kernel
theorem dX2_readDigits_72 : decode cX2_readDigits 72 = .ok (.aload_n 0, 1) := by decide +kernel
theorem dX2_readDigits_73 : decode cX2_readDigits 73 = .ok (.getfield 15, 3) := by decide +kernel
theorem dX2_readDigits_76 : decode cX2_readDigits 76 = .ok (.iload_n 3, 1) := by decide +kernel
theorem dX2_readDigits_77 : decode cX2_readDigits 77 = .ok (.iload 4, 2) := by decide +kernel
theorem dX2_readDigits_79 : decode cX2_readDigits 79 = .ok (.iastore, 1) := by decide +kernel
theorem dX2_readDigits_80 : decode cX2_readDigits 80 = .ok (.iload 5, 2) := by decide +kernel
theorem dX2_readDigits_82 : decode cX2_readDigits 82 = .ok (.ifCond .le 7, 3) := by decide +kernel
theorem dX2_readDigits_85 : decode cX2_readDigits 85 = .ok (.iconst 1, 1) := by decide +kernel
theorem dX2_readDigits_86 : decode cX2_readDigits 86 = .ok (.goto 4, 3) := by decide +kernel
theorem dX2_readDigits_89 : decode cX2_readDigits 89 = .ok (.iconst 0, 1) := by decide +kernel
theorem dX2_readDigits_90 : decode cX2_readDigits 90 = .ok (.ireturn, 1) := by decide +kernel
theorem dX2_isDigit_0 : decode cX2_isDigit 0 = .ok (.iload_n 0, 1) := by decide +kernel
theorem dX2_isDigit_1 : decode cX2_isDigit 1 = .ok (.bipush 48, 2) := by decide +kernel
theorem dX2_isDigit_3 : decode cX2_isDigit 3 = .ok (.if_icmp .lt 13, 3) := by decide +kernel
theorem dX2_isDigit_6 : decode cX2_isDigit 6 = .ok (.iload_n 0, 1) := by decide +kernel
theorem dX2_isDigit_7 : decode cX2_isDigit 7 = .ok (.bipush 57, 2) := by decide +kernel
theorem dX2_isDigit_9 : decode cX2_isDigit 9 = .ok (.if_icmp .gt 7, 3) := by decide +kernel
theorem dX2_isDigit_12 : decode cX2_isDigit 12 = .ok (.iconst 1, 1) := by decide +kernel
theorem dX2_isDigit_13 : decode cX2_isDigit 13 = .ok (.goto 4, 3) := by decide +kernel
theorem dX2_isDigit_16 : decode cX2_isDigit 16 = .ok (.iconst 0, 1) := by decide +kernel
theorem dX2_isDigit_17 : decode cX2_isDigit 17 = .ok (.ireturn, 1) := by decide +kernel
theorem dX2_readSide_0 : decode cX2_readSide 0 = .ok (.aload_n 0, 1) := by decide +kernel
theorem dX2_readSide_1 : decode cX2_readSide 1 = .ok (.aload_n 1, 1) := by decide +kernel
theorem dX2_readSide_2 : decode cX2_readSide 2 = .ok (.bipush 43, 2) := by decide +kernel
theorem dX2_readSide_4 : decode cX2_readSide 4 = .ok (.invokevirtual 35, 3) := by decide +kernel
theorem dX2_readSide_7 : decode cX2_readSide 7 = .ok (.ifCond .eq 12, 3) := by decide +kernel
theorem dX2_readSide_10 : decode cX2_readSide 10 = .ok (.aload_n 0, 1) := by decide +kernel
theorem dX2_readSide_11 : decode cX2_readSide 11 = .ok (.getfield 15, 3) := by decide +kernel
theorem dX2_readSide_14 : decode cX2_readSide 14 = .ok (.iload_n 2, 1) := by decide +kernel
theorem dX2_readSide_15 : decode cX2_readSide 15 = .ok (.iconst 1, 1) := by decide +kernel
theorem dX2_readSide_16 : decode cX2_readSide 16 = .ok (.iastore, 1) := by decide +kernel
theorem dX2_readSide_17 : decode cX2_readSide 17 = .ok (.iconst 1, 1) := by decide +kernel
theorem dX2_readSide_18 : decode cX2_readSide 18 = .ok (.ireturn, 1) := by decide +kernel
theorem dX2_readSide_19 : decode cX2_readSide 19 = .ok (.aload_n 0, 1) := by decide +kernel
theorem dX2_readSide_20 : decode cX2_readSide 20 = .ok (.getfield 15, 3) := by decide +kernel
theorem dX2_readSide_23 : decode cX2_readSide 23 = .ok (.iload_n 2, 1) := by decide +kernel
theorem dX2_readSide_24 : decode cX2_readSide 24 = .ok (.iconst 0, 1) := by decide +kernel
theorem dX2_readSide_25 : decode cX2_readSide 25 = .ok (.iastore, 1) := by decide +kernel
theorem dX2_readSide_26 : decode cX2_readSide 26 = .ok (.aload_n 0, 1) := by decide +kernel
theorem dX2_readSide_27 : decode cX2_readSide 27 = .ok (.aload_n 1, 1) := by decide +kernel
theorem dX2_readSide_28 : decode cX2_readSide 28 = .ok (.bipush 45, 2) := by decide +kernel
theorem dX2_readSide_30 : decode cX2_readSide 30 = .ok (.invokevirtual 35, 3) := by decide +kernel
theorem dX2_readSide_33 : decode cX2_readSide 33 = .ok (.ireturn, 1) := by decide +kernel
theorem dX2_readSign_0 : decode cX2_readSign 0 = .ok (.aload_n 0, 1) := by decide +kernel
theorem dX2_readSign_1 : decode cX2_readSign 1 = .ok (.getfield 22, 3) := by decide +kernel
theorem dX2_readSign_4 : decode cX2_readSign 4 = .ok (.aload_n 1, 1) := by decide +kernel
theorem dX2_readSign_5 : decode cX2_readSign 5 = .ok (.invokevirtual 29, 3) := by decide +kernel
theorem dX2_readSign_8 : decode cX2_readSign 8 = .ok (.if_icmp .ge 15, 3) := by decide +kernel
theorem dX2_readSign_11 : decode cX2_readSign 11 = .ok (.aload_n 1, 1) := by decide +kernel
theorem dX2_readSign_12 : decode cX2_readSign 12 = .ok (.aload_n 0, 1) := by decide +kernel
theorem dX2_readSign_13 : decode cX2_readSign 13 = .ok (.getfield 22, 3) := by decide +kernel
theorem dX2_readSign_16 : decode cX2_readSign 16 = .ok (.invokevirtual 38, 3) := by decide +kernel
theorem dX2_readSign_19 : decode cX2_readSign 19 = .ok (.iload_n 2, 1) := by decide +kernel
theorem dX2_readSign_20 : decode cX2_readSign 20 = .ok (.if_icmp .eq 5, 3) := by decide +kernel
theorem dX2_readSign_23 : decode cX2_readSign 23 = .ok (.iconst 0, 1) := by decide +kernel
theorem dX2_readSign_24 : decode cX2_readSign 24 = .ok (.ireturn, 1) := by decide +kernel
theorem dX2_readSign_25 : decode cX2_readSign 25 = .ok (.aload_n 0, 1) := by decide +kernel
theorem dX2_readSign_26 : decode cX2_readSign 26 = .ok (.dup, 1) := by decide +kernel
theorem dX2_readSign_27 : decode cX2_readSign 27 = .ok (.getfield 22, 3) := by decide +kernel
theorem dX2_readSign_30 : decode cX2_readSign 30 = .ok (.iconst 1, 1) := by decide +kernel
theorem dX2_readSign_31 : decode cX2_readSign 31 = .ok (.iadd, 1) := by decide +kernel
theorem dX2_readSign_32 : decode cX2_readSign 32 = .ok (.putfield 22, 3) := by decide +kernel
theorem dX2_readSign_35 : decode cX2_readSign 35 = .ok (.iconst 1, 1) := by decide +kernel
theorem dX2_readSign_36 : decode cX2_readSign 36 = .ok (.ireturn, 1) := by decide +kernel
theorem dX3_init_0 : decode cX3_init 0 = .ok (.aload_n 0, 1) := by decide +kernel
theorem dX3_init_1 : decode cX3_init 1 = .ok (.invokespecial 3, 3) := by decide +kernel
theorem dX3_init_4 : decode cX3_init 4 = .ok (.aload_n 0, 1) := by decide +kernel
theorem dX3_init_5 : decode cX3_init 5 = .ok (.bipush 9, 2) := by decide +kernel
theorem dX3_init_7 : decode cX3_init 7 = .ok (.anewarray 9, 3) := by decide +kernel
theorem dX3_init_10 : decode cX3_init 10 = .ok (.putfield 11, 3) := by decide +kernel
theorem dX3_init_13 : decode cX3_init 13 = .ok (.iconst 0, 1) := by decide +kernel
theorem dX3_init_14 : decode cX3_init 14 = .ok (.istore_n 1, 1) := by decide +kernel
theorem dX3_init_15 : decode cX3_init 15 = .ok (.iload_n 1, 1) := by decide +kernel
theorem dX3_init_16 : decode cX3_init 16 = .ok (.bipush 9, 2) := by decide +kernel
theorem dX3_init_18 : decode cX3_init 18 = .ok (.if_icmp .ge 22, 3) := by decide +kernel
theorem dX3_init_21 : decode cX3_init 21 = .ok (.aload_n 0, 1) := by decide +kernel
theorem dX3_init_22 : decode cX3_init 22 = .ok (.getfield 11, 3) := by decide +kernel
theorem dX3_init_25 : decode cX3_init 25 = .ok (.iload_n 1, 1) := by decide +kernel
theorem dX3_init_26 : decode cX3_init 26 = .ok (.new 9, 3) := by decide +kernel
theorem dX3_init_29 : decode cX3_init 29 = .ok (.dup, 1) := by decide +kernel
theorem dX3_init_30 : decode cX3_init 30 = .ok (.invokespecial 17, 3) := by decide +kernel
theorem dX3_init_33 : decode cX3_init 33 = .ok (.aastore, 1) := by decide +kernel
theorem dX3_init_34 : decode cX3_init 34 = .ok (.iinc 1 1, 3) := by decide +kernel
theorem dX3_init_37 : decode cX3_init 37 = .ok (.goto (-22), 3) := by decide +kernel
theorem dX3_init_40 : decode cX3_init 40 = .ok (.return_, 1) := by decide +kernel
theorem dX3_forget_0 : decode cX3_forget 0 = .ok (.aload_n 0, 1) := by decide +kernel
theorem dX3_forget_1 : decode cX3_forget 1 = .ok (.iconst 0, 1) := by decide +kernel
theorem dX3_forget_2 : decode cX3_forget 2 = .ok (.putfield 18, 3) := by decide +kernel
theorem dX3_forget_5 : decode cX3_forget 5 = .ok (.return_, 1) := by decide +kernel
theorem dX3_note_0 : decode cX3_note 0 = .ok (.aload_n 0, 1) := by decide +kernel
theorem dX3_note_1 : decode cX3_note 1 = .ok (.getfield 11, 3) := by decide +kernel
theorem dX3_note_4 : decode cX3_note 4 = .ok (.aload_n 0, 1) := by decide +kernel
theorem dX3_note_5 : decode cX3_note 5 = .ok (.getfield 22, 3) := by decide +kernel
theorem dX3_note_8 : decode cX3_note 8 = .ok (.aaload, 1) := by decide +kernel
theorem dX3_note_9 : decode cX3_note 9 = .ok (.aload_n 1, 1) := by decide +kernel
theorem dX3_note_10 : decode cX3_note 10 = .ok (.invokevirtual 25, 3) := by decide +kernel
theorem dX3_note_13 : decode cX3_note 13 = .ok (.return_, 1) := by decide +kernel
theorem dX3_putBack_0 : decode cX3_putBack 0 = .ok (.aload_n 1, 1) := by decide +kernel
theorem dX3_putBack_1 : decode cX3_putBack 1 = .ok (.aload_n 0, 1) := by decide +kernel
theorem dX3_putBack_2 : decode cX3_putBack 2 = .ok (.getfield 11, 3) := by decide +kernel
theorem dX3_putBack_5 : decode cX3_putBack 5 = .ok (.aload_n 0, 1) := by decide +kernel
theorem dX3_putBack_6 : decode cX3_putBack 6 = .ok (.getfield 22, 3) := by decide +kernel
theorem dX3_putBack_9 : decode cX3_putBack 9 = .ok (.aaload, 1) := by decide +kernel
theorem dX3_putBack_10 : decode cX3_putBack 10 = .ok (.invokevirtual 25, 3) := by decide +kernel
theorem dX3_putBack_13 : decode cX3_putBack 13 = .ok (.return_, 1) := by decide +kernel
theorem dX3_keep_0 : decode cX3_keep 0 = .ok (.aload_n 0, 1) := by decide +kernel
theorem dX3_keep_1 : decode cX3_keep 1 = .ok (.aload_n 0, 1) := by decide +kernel
theorem dX3_keep_2 : decode cX3_keep 2 = .ok (.getfield 22, 3) := by decide +kernel
theorem dX3_keep_5 : decode cX3_keep 5 = .ok (.iconst 1, 1) := by decide +kernel
theorem dX3_keep_6 : decode cX3_keep 6 = .ok (.iadd, 1) := by decide +kernel
theorem dX3_keep_7 : decode cX3_keep 7 = .ok (.bipush 9, 2) := by decide +kernel
theorem dX3_keep_9 : decode cX3_keep 9 = .ok (.irem, 1) := by decide +kernel
theorem dX3_keep_10 : decode cX3_keep 10 = .ok (.putfield 22, 3) := by decide +kernel
theorem dX3_keep_13 : decode cX3_keep 13 = .ok (.aload_n 0, 1) := by decide +kernel
theorem dX3_keep_14 : decode cX3_keep 14 = .ok (.bipush 8, 2) := by decide +kernel
theorem dX3_keep_16 : decode cX3_keep 16 = .ok (.aload_n 0, 1) := by decide +kernel
theorem dX3_keep_17 : decode cX3_keep 17 = .ok (.getfield 18, 3) := by decide +kernel
theorem dX3_keep_20 : decode cX3_keep 20 = .ok (.iconst 1, 1) := by decide +kernel
theorem dX3_keep_21 : decode cX3_keep 21 = .ok (.iadd, 1) := by decide +kernel
theorem dX3_keep_22 : decode cX3_keep 22 = .ok (.invokestatic 29, 3) := by decide +kernel
theorem dX3_keep_25 : decode cX3_keep 25 = .ok (.putfield 18, 3) := by decide +kernel
theorem dX3_keep_28 : decode cX3_keep 28 = .ok (.return_, 1) := by decide +kernel
theorem dX3_takeBack_0 : decode cX3_takeBack 0 = .ok (.aload_n 0, 1) := by decide +kernel
theorem dX3_takeBack_1 : decode cX3_takeBack 1 = .ok (.aload_n 0, 1) := by decide +kernel
theorem dX3_takeBack_2 : decode cX3_takeBack 2 = .ok (.getfield 22, 3) := by decide +kernel
theorem dX3_takeBack_5 : decode cX3_takeBack 5 = .ok (.bipush 9, 2) := by decide +kernel
theorem dX3_takeBack_7 : decode cX3_takeBack 7 = .ok (.iadd, 1) := by decide +kernel
theorem dX3_takeBack_8 : decode cX3_takeBack 8 = .ok (.iconst 1, 1) := by decide +kernel
theorem dX3_takeBack_9 : decode cX3_takeBack 9 = .ok (.isub, 1) := by decide +kernel
theorem dX3_takeBack_10 : decode cX3_takeBack 10 = .ok (.bipush 9, 2) := by decide +kernel
theorem dX3_takeBack_12 : decode cX3_takeBack 12 = .ok (.irem, 1) := by decide +kernel
theorem dX3_takeBack_13 : decode cX3_takeBack 13 = .ok (.putfield 22, 3) := by decide +kernel
theorem dX3_takeBack_16 : decode cX3_takeBack 16 = .ok (.aload_n 0, 1) := by decide +kernel
theorem dX3_takeBack_17 : decode cX3_takeBack 17 = .ok (.dup, 1) := by decide +kernel
theorem dX3_takeBack_18 : decode cX3_takeBack 18 = .ok (.getfield 18, 3) := by decide +kernel
theorem dX3_takeBack_21 : decode cX3_takeBack 21 = .ok (.iconst 1, 1) := by decide +kernel
theorem dX3_takeBack_22 : decode cX3_takeBack 22 = .ok (.isub, 1) := by decide +kernel
theorem dX3_takeBack_23 : decode cX3_takeBack 23 = .ok (.putfield 18, 3) := by decide +kernel
theorem dX3_takeBack_26 : decode cX3_takeBack 26 = .ok (.aload_n 1, 1) := by decide +kernel
theorem dX3_takeBack_27 : decode cX3_takeBack 27 = .ok (.aload_n 0, 1) := by decide +kernel
theorem dX3_takeBack_28 : decode cX3_takeBack 28 = .ok (.getfield 11, 3) := by decide +kernel
theorem dX3_takeBack_31 : decode cX3_takeBack 31 = .ok (.aload_n 0, 1) := by decide +kernel
theorem dX3_takeBack_32 : decode cX3_takeBack 32 = .ok (.getfield 22, 3) := by decide +kernel
theorem dX3_takeBack_35 : decode cX3_takeBack 35 = .ok (.aaload, 1) := by decide +kernel
theorem dX3_takeBack_36 : decode cX3_takeBack 36 = .ok (.invokevirtual 25, 3) := by decide +kernel
theorem dX3_takeBack_39 : decode cX3_takeBack 39 = .ok (.return_, 1) := by decide +kernel
theorem dX4_init_0 : decode cX4_init 0 = .ok (.aload_n 0, 1) := by decide +kernel
theorem dX4_init_1 : decode cX4_init 1 = .ok (.invokespecial 3, 3) := by decide +kernel
theorem dX4_init_4 : decode cX4_init 4 = .ok (.aload_n 0, 1) := by decide +kernel
theorem dX4_init_5 : decode cX4_init 5 = .ok (.iconst 3, 1) := by decide +kernel
theorem dX4_init_6 : decode cX4_init 6 = .ok (.newarray .int, 2) := by decide +kernel
theorem dX4_init_8 : decode cX4_init 8 = .ok (.putfield 9, 3) := by decide +kernel
theorem dX4_init_11 : decode cX4_init 11 = .ok (.aload_n 0, 1) := by decide +kernel
theorem dX4_init_12 : decode cX4_init 12 = .ok (.iconst 3, 1) := by decide +kernel
theorem dX4_init_13 : decode cX4_init 13 = .ok (.newarray .int, 2) := by decide +kernel
theorem dX4_init_15 : decode cX4_init 15 = .ok (.putfield 15, 3) := by decide +kernel
theorem dX4_init_18 : decode cX4_init 18 = .ok (.return_, 1) := by decide +kernel
theorem dX4_empty_0 : decode cX4_empty 0 = .ok (.aload_n 0, 1) := by decide +kernel
theorem dX4_empty_1 : decode cX4_empty 1 = .ok (.iconst 0, 1) := by decide +kernel
theorem dX4_empty_2 : decode cX4_empty 2 = .ok (.putfield 18, 3) := by decide +kernel
theorem dX4_empty_5 : decode cX4_empty 5 = .ok (.return_, 1) := by decide +kernel
theorem dX4_put_0 : decode cX4_put 0 = .ok (.aload_n 0, 1) := by decide +kernel
theorem dX4_put_1 : decode cX4_put 1 = .ok (.getfield 18, 3) := by decide +kernel
theorem dX4_put_4 : decode cX4_put 4 = .ok (.iconst 3, 1) := by decide +kernel
theorem dX4_put_5 : decode cX4_put 5 = .ok (.if_icmp .ge 33, 3) := by decide +kernel
theorem dX4_put_8 : decode cX4_put 8 = .ok (.aload_n 0, 1) := by decide +kernel
theorem dX4_put_9 : decode cX4_put 9 = .ok (.getfield 9, 3) := by decide +kernel
theorem dX4_put_12 : decode cX4_put 12 = .ok (.aload_n 0, 1) := by decide +kernel
theorem dX4_put_13 : decode cX4_put 13 = .ok (.getfield 18, 3) := by decide +kernel
theorem dX4_put_16 : decode cX4_put 16 = .ok (.iload_n 1, 1) := by decide +kernel
theorem dX4_put_17 : decode cX4_put 17 = .ok (.iastore, 1) := by decide +kernel
theorem dX4_put_18 : decode cX4_put 18 = .ok (.aload_n 0, 1) := by decide +kernel
theorem dX4_put_19 : decode cX4_put 19 = .ok (.getfield 15, 3) := by decide +kernel
theorem dX4_put_22 : decode cX4_put 22 = .ok (.aload_n 0, 1) := by decide +kernel
theorem dX4_put_23 : decode cX4_put 23 = .ok (.getfield 18, 3) := by decide +kernel
theorem dX4_put_26 : decode cX4_put 26 = .ok (.iload_n 2, 1) := by decide +kernel
theorem dX4_put_27 : decode cX4_put 27 = .ok (.iastore, 1) := by decide +kernel
theorem dX4_put_28 : decode cX4_put 28 = .ok (.aload_n 0, 1) := by decide +kernel
theorem dX4_put_29 : decode cX4_put 29 = .ok (.dup, 1) := by decide +kernel
theorem dX4_put_30 : decode cX4_put 30 = .ok (.getfield 18, 3) := by decide +kernel
theorem dX4_put_33 : decode cX4_put 33 = .ok (.iconst 1, 1) := by decide +kernel
theorem dX4_put_34 : decode cX4_put 34 = .ok (.iadd, 1) := by decide +kernel
theorem dX4_put_35 : decode cX4_put 35 = .ok (.putfield 18, 3) := by decide +kernel
theorem dX4_put_38 : decode cX4_put 38 = .ok (.return_, 1) := by decide +kernel
theorem dX4_tell_0 : decode cX4_tell 0 = .ok (.iload_n 1, 1) := by decide +kernel
theorem dX4_tell_1 : decode cX4_tell 1 = .ok (.aload_n 0, 1) := by decide +kernel
theorem dX4_tell_2 : decode cX4_tell 2 = .ok (.getfield 18, 3) := by decide +kernel
theorem dX4_tell_5 : decode cX4_tell 5 = .ok (.if_icmp .lt 6, 3) := by decide +kernel
theorem dX4_tell_8 : decode cX4_tell 8 = .ok (.bipush (-4), 2) := by decide +kernel
theorem dX4_tell_10 : decode cX4_tell 10 = .ok (.ireturn, 1) := by decide +kernel
theorem dX4_tell_11 : decode cX4_tell 11 = .ok (.aload_n 0, 1) := by decide +kernel
theorem dX4_tell_12 : decode cX4_tell 12 = .ok (.getfield 18, 3) := by decide +kernel
theorem dX4_tell_15 : decode cX4_tell 15 = .ok (.iconst 1, 1) := by decide +kernel
theorem dX4_tell_16 : decode cX4_tell 16 = .ok (.isub, 1) := by decide +kernel
theorem dX4_tell_17 : decode cX4_tell 17 = .ok (.iload_n 1, 1) := by decide +kernel
theorem dX4_tell_18 : decode cX4_tell 18 = .ok (.isub, 1) := by decide +kernel
theorem dX4_tell_19 : decode cX4_tell 19 = .ok (.istore_n 3, 1) := by decide +kernel
theorem dX4_tell_20 : decode cX4_tell 20 = .ok (.iload_n 2, 1) := by decide +kernel
theorem dX4_tell_21 : decode cX4_tell 21 = .ok (.ifCond .eq 12, 3) := by decide +kernel
theorem dX4_tell_24 : decode cX4_tell 24 = .ok (.aload_n 0, 1) := by decide +kernel
theorem dX4_tell_25 : decode cX4_tell 25 = .ok (.getfield 15, 3) := by decide +kernel
theorem dX4_tell_28 : decode cX4_tell 28 = .ok (.iload_n 3, 1) := by decide +kernel
theorem dX4_tell_29 : decode cX4_tell 29 = .ok (.iaload, 1) := by decide +kernel
theorem dX4_tell_30 : decode cX4_tell 30 = .ok (.goto 9, 3) := by decide +kernel
theorem dX4_tell_33 : decode cX4_tell 33 = .ok (.aload_n 0, 1) := by decide +kernel
theorem dX4_tell_34 : decode cX4_tell 34 = .ok (.getfield 9, 3) := by decide +kernel
theorem dX4_tell_37 : decode cX4_tell 37 = .ok (.iload_n 3, 1) := by decide +kernel
theorem dX4_tell_38 : decode cX4_tell 38 = .ok (.iaload, 1) := by decide +kernel
theorem dX4_tell_39 : decode cX4_tell 39 = .ok (.ireturn, 1) := by decide +kernel
theorem dX5_init_0 : decode cX5_init 0 = .ok (.aload_n 0, 1) := by decide +kernel
theorem dX5_init_1 : decode cX5_init 1 = .ok (.invokespecial 3, 3) := by decide +kernel
theorem dX5_init_4 : decode cX5_init 4 = .ok (.aload_n 0, 1) := by decide +kernel
theorem dX5_init_5 : decode cX5_init 5 = .ok (.iconst 2, 1) := by decide +kernel
theorem dX5_init_6 : decode cX5_init 6 = .ok (.newarray .int, 2) := by decide +kernel
theorem dX5_init_8 : decode cX5_init 8 = .ok (.putfield 9, 3) := by decide +kernel
theorem dX5_init_11 : decode cX5_init 11 = .ok (.return_, 1) := by decide +kernel
theorem dX5_lay_0 : decode cX5_lay 0 = .ok (.aload_n 0, 1) := by decide +kernel
theorem dX5_lay_1 : decode cX5_lay 1 = .ok (.iload_n 1, 1) := by decide +kernel
theorem dX5_lay_2 : decode cX5_lay 2 = .ok (.putfield 15, 3) := by decide +kernel
theorem dX5_lay_5 : decode cX5_lay 5 = .ok (.aload_n 0, 1) := by decide +kernel
theorem dX5_lay_6 : decode cX5_lay 6 = .ok (.iload_n 2, 1) := by decide +kernel
theorem dX5_lay_7 : decode cX5_lay 7 = .ok (.putfield 19, 3) := by decide +kernel
theorem dX5_lay_10 : decode cX5_lay 10 = .ok (.aload_n 0, 1) := by decide +kernel
theorem dX5_lay_11 : decode cX5_lay 11 = .ok (.iconst 0, 1) := by decide +kernel
theorem dX5_lay_12 : decode cX5_lay 12 = .ok (.putfield 22, 3) := by decide +kernel
theorem dX5_lay_15 : decode cX5_lay 15 = .ok (.aload_n 0, 1) := by decide +kernel
theorem dX5_lay_16 : decode cX5_lay 16 = .ok (.iconst 0, 1) := by decide +kernel
theorem dX5_lay_17 : decode cX5_lay 17 = .ok (.putfield 25, 3) := by decide +kernel
theorem dX5_lay_20 : decode cX5_lay 20 = .ok (.aload_n 0, 1) := by decide +kernel
theorem dX5_lay_21 : decode cX5_lay 21 = .ok (.iconst 0, 1) := by decide +kernel
theorem dX5_lay_22 : decode cX5_lay 22 = .ok (.putfield 28, 3) := by decide +kernel
theorem dX5_lay_25 : decode cX5_lay 25 = .ok (.aload_n 0, 1) := by decide +kernel
theorem dX5_lay_26 : decode cX5_lay 26 = .ok (.iconst 0, 1) := by decide +kernel
theorem dX5_lay_27 : decode cX5_lay 27 = .ok (.putfield 31, 3) := by decide +kernel
theorem dX5_lay_30 : decode cX5_lay 30 = .ok (.aload_n 0, 1) := by decide +kernel
theorem dX5_lay_31 : decode cX5_lay 31 = .ok (.iconst 0, 1) := by decide +kernel
theorem dX5_lay_32 : decode cX5_lay 32 = .ok (.putfield 34, 3) := by decide +kernel
theorem dX5_lay_35 : decode cX5_lay 35 = .ok (.aload_n 0, 1) := by decide +kernel
theorem dX5_lay_36 : decode cX5_lay 36 = .ok (.iconst 0, 1) := by decide +kernel
theorem dX5_lay_37 : decode cX5_lay 37 = .ok (.putfield 37, 3) := by decide +kernel
theorem dX5_lay_40 : decode cX5_lay 40 = .ok (.aload_n 0, 1) := by decide +kernel
theorem dX5_lay_41 : decode cX5_lay 41 = .ok (.getfield 9, 3) := by decide +kernel
theorem dX5_lay_44 : decode cX5_lay 44 = .ok (.iconst 0, 1) := by decide +kernel
theorem dX5_lay_45 : decode cX5_lay 45 = .ok (.iconst 0, 1) := by decide +kernel
theorem dX5_lay_46 : decode cX5_lay 46 = .ok (.iastore, 1) := by decide +kernel
theorem dX5_lay_47 : decode cX5_lay 47 = .ok (.aload_n 0, 1) := by decide +kernel
theorem dX5_lay_48 : decode cX5_lay 48 = .ok (.getfield 9, 3) := by decide +kernel
theorem dX5_lay_51 : decode cX5_lay 51 = .ok (.iconst 1, 1) := by decide +kernel
theorem dX5_lay_52 : decode cX5_lay 52 = .ok (.iconst 0, 1) := by decide +kernel
theorem dX5_lay_53 : decode cX5_lay 53 = .ok (.iastore, 1) := by decide +kernel
theorem dX5_lay_54 : decode cX5_lay 54 = .ok (.return_, 1) := by decide +kernel
theorem dX5_become_0 : decode cX5_become 0 = .ok (.aload_n 0, 1) := by decide +kernel
theorem dX5_become_1 : decode cX5_become 1 = .ok (.aload_n 1, 1) := by decide +kernel
theorem dX5_become_2 : decode cX5_become 2 = .ok (.getfield 15, 3) := by decide +kernel
theorem dX5_become_5 : decode cX5_become 5 = .ok (.putfield 15, 3) := by decide +kernel
theorem dX5_become_8 : decode cX5_become 8 = .ok (.aload_n 0, 1) := by decide +kernel
theorem dX5_become_9 : decode cX5_become 9 = .ok (.aload_n 1, 1) := by decide +kernel
theorem dX5_become_10 : decode cX5_become 10 = .ok (.getfield 19, 3) := by decide +kernel
theorem dX5_become_13 : decode cX5_become 13 = .ok (.putfield 19, 3) := by decide +kernel
theorem dX5_become_16 : decode cX5_become 16 = .ok (.aload_n 0, 1) := by decide +kernel
theorem dX5_become_17 : decode cX5_become 17 = .ok (.aload_n 1, 1) := by decide +kernel
theorem dX5_become_18 : decode cX5_become 18 = .ok (.getfield 22, 3) := by decide +kernel
theorem dX5_become_21 : decode cX5_become 21 = .ok (.putfield 22, 3) := by decide +kernel
theorem dX5_become_24 : decode cX5_become 24 = .ok (.aload_n 0, 1) := by decide +kernel
theorem dX5_become_25 : decode cX5_become 25 = .ok (.aload_n 1, 1) := by decide +kernel
theorem dX5_become_26 : decode cX5_become 26 = .ok (.getfield 25, 3) := by decide +kernel
theorem dX5_become_29 : decode cX5_become 29 = .ok (.putfield 25, 3) := by decide +kernel
theorem dX5_become_32 : decode cX5_become 32 = .ok (.aload_n 0, 1) := by decide +kernel
theorem dX5_become_33 : decode cX5_become 33 = .ok (.aload_n 1, 1) := by decide +kernel
theorem dX5_become_34 : decode cX5_become 34 = .ok (.getfield 28, 3) := by decide +kernel
theorem dX5_become_37 : decode cX5_become 37 = .ok (.putfield 28, 3) := by decide +kernel
theorem dX5_become_40 : decode cX5_become 40 = .ok (.aload_n 0, 1) := by decide +kernel
theorem dX5_become_41 : decode cX5_become 41 = .ok (.aload_n 1, 1) := by decide +kernel
theorem dX5_become_42 : decode cX5_become 42 = .ok (.getfield 31, 3) := by decide +kernel
theorem dX5_become_45 : decode cX5_become 45 = .ok (.putfield 31, 3) := by decide +kernel
theorem dX5_become_48 : decode cX5_become 48 = .ok (.aload_n 0, 1) := by decide +kernel
theorem dX5_become_49 : decode cX5_become 49 = .ok (.aload_n 1, 1) := by decide +kernel
theorem dX5_become_50 : decode cX5_become 50 = .ok (.getfield 34, 3) := by decide +kernel
theorem dX5_become_53 : decode cX5_become 53 = .ok (.putfield 34, 3) := by decide +kernel
theorem dX5_become_56 : decode cX5_become 56 = .ok (.aload_n 0, 1) := by decide +kernel
theorem dX5_become_57 : decode cX5_become 57 = .ok (.aload_n 1, 1) := by decide +kernel
theorem dX5_become_58 : decode cX5_become 58 = .ok (.getfield 37, 3) := by decide +kernel
theorem dX5_become_61 : decode cX5_become 61 = .ok (.putfield 37, 3) := by decide +kernel
theorem dX5_become_64 : decode cX5_become 64 = .ok (.aload_n 0, 1) := by decide +kernel
theorem dX5_become_65 : decode cX5_become 65 = .ok (.getfield 9, 3) := by decide +kernel
theorem dX5_become_68 : decode cX5_become 68 = .ok (.iconst 0, 1) := by decide +kernel
theorem dX5_become_69 : decode cX5_become 69 = .ok (.aload_n 1, 1) := by decide +kernel
theorem dX5_become_70 : decode cX5_become 70 = .ok (.getfield 9, 3) := by decide +kernel
theorem dX5_become_73 : decode cX5_become 73 = .ok (.iconst 0, 1) := by decide +kernel
theorem dX5_become_74 : decode cX5_become 74 = .ok (.iaload, 1) := by decide +kernel
theorem dX5_become_75 : decode cX5_become 75 = .ok (.iastore, 1) := by decide +kernel
theorem dX5_become_76 : decode cX5_become 76 = .ok (.aload_n 0, 1) := by decide +kernel
theorem dX5_become_77 : decode cX5_become 77 = .ok (.getfield 9, 3) := by decide +kernel
theorem dX5_become_80 : decode cX5_become 80 = .ok (.iconst 1, 1) := by decide +kernel
theorem dX5_become_81 : decode cX5_become 81 = .ok (.aload_n 1, 1) := by decide +kernel
theorem dX5_become_82 : decode cX5_become 82 = .ok (.getfield 9, 3) := by decide +kernel
theorem dX5_become_85 : decode cX5_become 85 = .ok (.iconst 1, 1) := by decide +kernel
theorem dX5_become_86 : decode cX5_become 86 = .ok (.iaload, 1) := by decide +kernel
theorem dX5_become_87 : decode cX5_become 87 = .ok (.iastore, 1) := by decide +kernel
theorem dX5_become_88 : decode cX5_become 88 = .ok (.return_, 1) := by decide +kernel
theorem dX5_holds_0 : decode cX5_holds 0 = .ok (.iload_n 1, 1) := by decide +kernel
theorem dX5_holds_1 : decode cX5_holds 1 = .ok (.aload_n 0, 1) := by decide +kernel
theorem dX5_holds_2 : decode cX5_holds 2 = .ok (.getfield 15, 3) := by decide +kernel
theorem dX5_holds_5 : decode cX5_holds 5 = .ok (.if_icmp .lt 15, 3) := by decide +kernel
theorem dX5_holds_8 : decode cX5_holds 8 = .ok (.iload_n 1, 1) := by decide +kernel
theorem dX5_holds_9 : decode cX5_holds 9 = .ok (.aload_n 0, 1) := by decide +kernel
theorem dX5_holds_10 : decode cX5_holds 10 = .ok (.getfield 19, 3) := by decide +kernel
theorem dX5_holds_13 : decode cX5_holds 13 = .ok (.if_icmp .gt 7, 3) := by decide +kernel
theorem dX5_holds_16 : decode cX5_holds 16 = .ok (.iconst 1, 1) := by decide +kernel
theorem dX5_holds_17 : decode cX5_holds 17 = .ok (.goto 4, 3) := by decide +kernel
theorem dX5_holds_20 : decode cX5_holds 20 = .ok (.iconst 0, 1) := by decide +kernel
theorem dX5_holds_21 : decode cX5_holds 21 = .ok (.ireturn, 1) := by decide +kernel
theorem dX5_isPlayed_0 : decode cX5_isPlayed 0 = .ok (.aload_n 0, 1) := by decide +kernel
theorem dX5_isPlayed_1 : decode cX5_isPlayed 1 = .ok (.getfield 28, 3) := by decide +kernel
theorem dX5_isPlayed_4 : decode cX5_isPlayed 4 = .ok (.ifCond .eq 7, 3) := by decide +kernel
theorem dX5_isPlayed_7 : decode cX5_isPlayed 7 = .ok (.iconst 1, 1) := by decide +kernel
theorem dX5_isPlayed_8 : decode cX5_isPlayed 8 = .ok (.goto 4, 3) := by decide +kernel
theorem dX5_isPlayed_11 : decode cX5_isPlayed 11 = .ok (.iconst 0, 1) := by decide +kernel
theorem dX5_isPlayed_12 : decode cX5_isPlayed 12 = .ok (.ireturn, 1) := by decide +kernel
theorem dX5_startEnd_0 : decode cX5_startEnd 0 = .ok (.aload_n 0, 1) := by decide +kernel
theorem dX5_startEnd_1 : decode cX5_startEnd 1 = .ok (.iload_n 1, 1) := by decide +kernel
theorem dX5_startEnd_2 : decode cX5_startEnd 2 = .ok (.putfield 28, 3) := by decide +kernel
theorem dX5_startEnd_5 : decode cX5_startEnd 5 = .ok (.aload_n 0, 1) := by decide +kernel
theorem dX5_startEnd_6 : decode cX5_startEnd 6 = .ok (.aload_n 0, 1) := by decide +kernel
theorem dX5_startEnd_7 : decode cX5_startEnd 7 = .ok (.getfield 31, 3) := by decide +kernel
theorem dX5_startEnd_10 : decode cX5_startEnd 10 = .ok (.putfield 34, 3) := by decide +kernel
theorem dX5_startEnd_13 : decode cX5_startEnd 13 = .ok (.aload_n 0, 1) := by decide +kernel
theorem dX5_startEnd_14 : decode cX5_startEnd 14 = .ok (.getfield 9, 3) := by decide +kernel
theorem dX5_startEnd_17 : decode cX5_startEnd 17 = .ok (.iconst 0, 1) := by decide +kernel
theorem dX5_startEnd_18 : decode cX5_startEnd 18 = .ok (.iconst 0, 1) := by decide +kernel
theorem dX5_startEnd_19 : decode cX5_startEnd 19 = .ok (.iastore, 1) := by decide +kernel
theorem dX5_startEnd_20 : decode cX5_startEnd 20 = .ok (.aload_n 0, 1) := by decide +kernel
theorem dX5_startEnd_21 : decode cX5_startEnd 21 = .ok (.getfield 9, 3) := by decide +kernel
theorem dX5_startEnd_24 : decode cX5_startEnd 24 = .ok (.iconst 1, 1) := by decide +kernel
theorem dX5_startEnd_25 : decode cX5_startEnd 25 = .ok (.iconst 0, 1) := by decide +kernel
theorem dX5_startEnd_26 : decode cX5_startEnd 26 = .ok (.iastore, 1) := by decide +kernel
theorem dX5_startEnd_27 : decode cX5_startEnd 27 = .ok (.return_, 1) := by decide +kernel
theorem dX5_finishEnd_0 : decode cX5_finishEnd 0 = .ok (.aload_n 0, 1) := by decide +kernel
theorem dX5_finishEnd_1 : decode cX5_finishEnd 1 = .ok (.iconst 0, 1) := by decide +kernel
theorem dX5_finishEnd_2 : decode cX5_finishEnd 2 = .ok (.putfield 28, 3) := by decide +kernel
theorem dX5_finishEnd_5 : decode cX5_finishEnd 5 = .ok (.aload_n 0, 1) := by decide +kernel
theorem dX5_finishEnd_6 : decode cX5_finishEnd 6 = .ok (.aload_n 0, 1) := by decide +kernel
theorem dX5_finishEnd_7 : decode cX5_finishEnd 7 = .ok (.getfield 31, 3) := by decide +kernel
theorem dX5_finishEnd_10 : decode cX5_finishEnd 10 = .ok (.putfield 34, 3) := by decide +kernel
theorem dX5_finishEnd_13 : decode cX5_finishEnd 13 = .ok (.aload_n 0, 1) := by decide +kernel
theorem dX5_finishEnd_14 : decode cX5_finishEnd 14 = .ok (.dup, 1) := by decide +kernel
theorem dX5_finishEnd_15 : decode cX5_finishEnd 15 = .ok (.getfield 37, 3) := by decide +kernel
theorem dX5_finishEnd_18 : decode cX5_finishEnd 18 = .ok (.iconst 1, 1) := by decide +kernel
theorem dX5_finishEnd_19 : decode cX5_finishEnd 19 = .ok (.iadd, 1) := by decide +kernel
theorem dX5_finishEnd_20 : decode cX5_finishEnd 20 = .ok (.putfield 37, 3) := by decide +kernel
theorem dX5_finishEnd_23 : decode cX5_finishEnd 23 = .ok (.return_, 1) := by decide +kernel
theorem dX5_distance_0 : decode cX5_distance 0 = .ok (.iload_n 1, 1) := by decide +kernel
theorem dX5_distance_1 : decode cX5_distance 1 = .ok (.aload_n 0, 1) := by decide +kernel
theorem dX5_distance_2 : decode cX5_distance 2 = .ok (.getfield 15, 3) := by decide +kernel
theorem dX5_distance_5 : decode cX5_distance 5 = .ok (.aload_n 0, 1) := by decide +kernel
theorem dX5_distance_6 : decode cX5_distance 6 = .ok (.getfield 19, 3) := by decide +kernel
theorem dX5_distance_9 : decode cX5_distance 9 = .ok (.iadd, 1) := by decide +kernel
theorem dX5_distance_10 : decode cX5_distance 10 = .ok (.iconst 2, 1) := by decide +kernel
theorem dX5_distance_11 : decode cX5_distance 11 = .ok (.idiv, 1) := by decide +kernel
theorem dX5_distance_12 : decode cX5_distance 12 = .ok (.isub, 1) := by decide +kernel
theorem dX5_distance_13 : decode cX5_distance 13 = .ok (.istore_n 3, 1) := by decide +kernel
theorem dX5_distance_14 : decode cX5_distance 14 = .ok (.iload_n 2, 1) := by decide +kernel
theorem dX5_distance_15 : decode cX5_distance 15 = .ok (.aload_n 0, 1) := by decide +kernel
theorem dX5_distance_16 : decode cX5_distance 16 = .ok (.getfield 28, 3) := by decide +kernel
theorem dX5_distance_19 : decode cX5_distance 19 = .ok (.isub, 1) := by decide +kernel
theorem dX5_distance_20 : decode cX5_distance 20 = .ok (.istore 4, 2) := by decide +kernel
theorem dX5_distance_22 : decode cX5_distance 22 = .ok (.iload_n 3, 1) := by decide +kernel
theorem dX5_distance_23 : decode cX5_distance 23 = .ok (.iload_n 3, 1) := by decide +kernel
theorem dX5_distance_24 : decode cX5_distance 24 = .ok (.imul, 1) := by decide +kernel
theorem dX5_distance_25 : decode cX5_distance 25 = .ok (.iload 4, 2) := by decide +kernel
theorem dX5_distance_27 : decode cX5_distance 27 = .ok (.iload 4, 2) := by decide +kernel
theorem dX5_distance_29 : decode cX5_distance 29 = .ok (.imul, 1) := by decide +kernel
theorem dX5_distance_30 : decode cX5_distance 30 = .ok (.iadd, 1) := by decide +kernel
theorem dX5_distance_31 : decode cX5_distance 31 = .ok (.ireturn, 1) := by decide +kernel
theorem dX5_castsAfter_0 : decode cX5_castsAfter 0 = .ok (.iload_n 2, 1) := by decide +kernel
theorem dX5_castsAfter_1 : decode cX5_castsAfter 1 = .ok (.iconst 5, 1) := by decide +kernel
theorem dX5_castsAfter_2 : decode cX5_castsAfter 2 = .ok (.if_icmp .lt 19, 3) := by decide +kernel
theorem dX5_castsAfter_5 : decode cX5_castsAfter 5 = .ok (.aload_n 0, 1) := by decide +kernel
theorem dX5_castsAfter_6 : decode cX5_castsAfter 6 = .ok (.invokevirtual 40, 3) := by decide +kernel
theorem dX5_castsAfter_9 : decode cX5_castsAfter 9 = .ok (.ifCond .ne 12, 3) := by decide +kernel
theorem dX5_castsAfter_12 : decode cX5_castsAfter 12 = .ok (.bipush 9, 2) := by decide +kernel
theorem dX5_castsAfter_14 : decode cX5_castsAfter 14 = .ok (.iload_n 1, 1) := by decide +kernel
theorem dX5_castsAfter_15 : decode cX5_castsAfter 15 = .ok (.iconst 1, 1) := by decide +kernel
theorem dX5_castsAfter_16 : decode cX5_castsAfter 16 = .ok (.iadd, 1) := by decide +kernel
theorem dX5_castsAfter_17 : decode cX5_castsAfter 17 = .ok (.invokestatic 44, 3) := by decide +kernel
theorem dX5_castsAfter_20 : decode cX5_castsAfter 20 = .ok (.ireturn, 1) := by decide +kernel
theorem dX5_castsAfter_21 : decode cX5_castsAfter 21 = .ok (.iload_n 1, 1) := by decide +kernel
theorem dX5_castsAfter_22 : decode cX5_castsAfter 22 = .ok (.ireturn, 1) := by decide +kernel
theorem dX6_init_0 : decode cX6_init 0 = .ok (.aload_n 0, 1) := by decide +kernel
theorem dX6_init_1 : decode cX6_init 1 = .ok (.invokespecial 3, 3) := by decide +kernel
theorem dX6_init_4 : decode cX6_init 4 = .ok (.return_, 1) := by decide +kernel
theorem dX6_make_0 : decode cX6_make 0 = .ok (.aload_n 0, 1) := by decide +kernel
theorem dX6_make_1 : decode cX6_make 1 = .ok (.iload_n 1, 1) := by decide +kernel
theorem dX6_make_2 : decode cX6_make 2 = .ok (.putfield 9, 3) := by decide +kernel
theorem dX6_make_5 : decode cX6_make 5 = .ok (.aload_n 0, 1) := by decide +kernel
theorem dX6_make_6 : decode cX6_make 6 = .ok (.iload_n 2, 1) := by decide +kernel
theorem dX6_make_7 : decode cX6_make 7 = .ok (.putfield 15, 3) := by decide +kernel
theorem dX6_make_10 : decode cX6_make 10 = .ok (.aload_n 0, 1) := by decide +kernel
theorem dX6_make_11 : decode cX6_make 11 = .ok (.iconst 0, 1) := by decide +kernel
theorem dX6_make_12 : decode cX6_make 12 = .ok (.putfield 18, 3) := by decide +kernel
theorem dX6_make_15 : decode cX6_make 15 = .ok (.aload_n 0, 1) := by decide +kernel
theorem dX6_make_16 : decode cX6_make 16 = .ok (.iconst 0, 1) := by decide +kernel
theorem dX6_make_17 : decode cX6_make 17 = .ok (.putfield 21, 3) := by decide +kernel
theorem dX6_make_20 : decode cX6_make 20 = .ok (.aload_n 0, 1) := by decide +kernel
theorem dX6_make_21 : decode cX6_make 21 = .ok (.iconst 0, 1) := by decide +kernel
theorem dX6_make_22 : decode cX6_make 22 = .ok (.putfield 24, 3) := by decide +kernel
theorem dX6_make_25 : decode cX6_make 25 = .ok (.aload_n 0, 1) := by decide +kernel
theorem dX6_make_26 : decode cX6_make 26 = .ok (.iconst 0, 1) := by decide +kernel
theorem dX6_make_27 : decode cX6_make 27 = .ok (.putfield 27, 3) := by decide +kernel
theorem dX6_make_30 : decode cX6_make 30 = .ok (.aload_n 0, 1) := by decide +kernel
theorem dX6_make_31 : decode cX6_make 31 = .ok (.iconst 0, 1) := by decide +kernel
theorem dX6_make_32 : decode cX6_make 32 = .ok (.putfield 30, 3) := by decide +kernel
theorem dX6_make_35 : decode cX6_make 35 = .ok (.aload_n 0, 1) := by decide +kernel
theorem dX6_make_36 : decode cX6_make 36 = .ok (.iconst 0, 1) := by decide +kernel
theorem dX6_make_37 : decode cX6_make 37 = .ok (.putfield 33, 3) := by decide +kernel
theorem dX6_make_40 : decode cX6_make 40 = .ok (.return_, 1) := by decide +kernel
theorem dX6_become_0 : decode cX6_become 0 = .ok (.aload_n 0, 1) := by decide +kernel
theorem dX6_become_1 : decode cX6_become 1 = .ok (.aload_n 1, 1) := by decide +kernel
theorem dX6_become_2 : decode cX6_become 2 = .ok (.getfield 9, 3) := by decide +kernel
theorem dX6_become_5 : decode cX6_become 5 = .ok (.putfield 9, 3) := by decide +kernel
theorem dX6_become_8 : decode cX6_become 8 = .ok (.aload_n 0, 1) := by decide +kernel
theorem dX6_become_9 : decode cX6_become 9 = .ok (.aload_n 1, 1) := by decide +kernel
theorem dX6_become_10 : decode cX6_become 10 = .ok (.getfield 15, 3) := by decide +kernel
theorem dX6_become_13 : decode cX6_become 13 = .ok (.putfield 15, 3) := by decide +kernel
theorem dX6_become_16 : decode cX6_become 16 = .ok (.aload_n 0, 1) := by decide +kernel
theorem dX6_become_17 : decode cX6_become 17 = .ok (.aload_n 1, 1) := by decide +kernel
theorem dX6_become_18 : decode cX6_become 18 = .ok (.getfield 18, 3) := by decide +kernel
theorem dX6_become_21 : decode cX6_become 21 = .ok (.putfield 18, 3) := by decide +kernel
theorem dX6_become_24 : decode cX6_become 24 = .ok (.aload_n 0, 1) := by decide +kernel
theorem dX6_become_25 : decode cX6_become 25 = .ok (.aload_n 1, 1) := by decide +kernel
theorem dX6_become_26 : decode cX6_become 26 = .ok (.getfield 21, 3) := by decide +kernel
theorem dX6_become_29 : decode cX6_become 29 = .ok (.putfield 21, 3) := by decide +kernel
theorem dX6_become_32 : decode cX6_become 32 = .ok (.aload_n 0, 1) := by decide +kernel
theorem dX6_become_33 : decode cX6_become 33 = .ok (.aload_n 1, 1) := by decide +kernel
theorem dX6_become_34 : decode cX6_become 34 = .ok (.getfield 24, 3) := by decide +kernel
theorem dX6_become_37 : decode cX6_become 37 = .ok (.putfield 24, 3) := by decide +kernel
theorem dX6_become_40 : decode cX6_become 40 = .ok (.aload_n 0, 1) := by decide +kernel
theorem dX6_become_41 : decode cX6_become 41 = .ok (.aload_n 1, 1) := by decide +kernel
theorem dX6_become_42 : decode cX6_become 42 = .ok (.getfield 27, 3) := by decide +kernel
theorem dX6_become_45 : decode cX6_become 45 = .ok (.putfield 27, 3) := by decide +kernel
theorem dX6_become_48 : decode cX6_become 48 = .ok (.aload_n 0, 1) := by decide +kernel
theorem dX6_become_49 : decode cX6_become 49 = .ok (.aload_n 1, 1) := by decide +kernel
theorem dX6_become_50 : decode cX6_become 50 = .ok (.getfield 30, 3) := by decide +kernel
theorem dX6_become_53 : decode cX6_become 53 = .ok (.putfield 30, 3) := by decide +kernel
theorem dX6_become_56 : decode cX6_become 56 = .ok (.aload_n 0, 1) := by decide +kernel
theorem dX6_become_57 : decode cX6_become 57 = .ok (.aload_n 1, 1) := by decide +kernel
theorem dX6_become_58 : decode cX6_become 58 = .ok (.getfield 33, 3) := by decide +kernel
theorem dX6_become_61 : decode cX6_become 61 = .ok (.putfield 33, 3) := by decide +kernel
theorem dX6_become_64 : decode cX6_become 64 = .ok (.return_, 1) := by decide +kernel
theorem dX6_liesOn_0 : decode cX6_liesOn 0 = .ok (.aload_n 0, 1) := by decide +kernel
theorem dX6_liesOn_1 : decode cX6_liesOn 1 = .ok (.getfield 18, 3) := by decide +kernel
theorem dX6_liesOn_4 : decode cX6_liesOn 4 = .ok (.iconst 1, 1) := by decide +kernel
theorem dX6_liesOn_5 : decode cX6_liesOn 5 = .ok (.if_icmp .ne 15, 3) := by decide +kernel
theorem dX6_liesOn_8 : decode cX6_liesOn 8 = .ok (.aload_n 0, 1) := by decide +kernel
theorem dX6_liesOn_9 : decode cX6_liesOn 9 = .ok (.getfield 21, 3) := by decide +kernel
theorem dX6_liesOn_12 : decode cX6_liesOn 12 = .ok (.iload_n 1, 1) := by decide +kernel
theorem dX6_liesOn_13 : decode cX6_liesOn 13 = .ok (.if_icmp .ne 7, 3) := by decide +kernel
theorem dX6_liesOn_16 : decode cX6_liesOn 16 = .ok (.iconst 1, 1) := by decide +kernel
theorem dX6_liesOn_17 : decode cX6_liesOn 17 = .ok (.goto 4, 3) := by decide +kernel
theorem dX6_liesOn_20 : decode cX6_liesOn 20 = .ok (.iconst 0, 1) := by decide +kernel
theorem dX6_liesOn_21 : decode cX6_liesOn 21 = .ok (.ireturn, 1) := by decide +kernel
theorem dX7_init_0 : decode cX7_init 0 = .ok (.aload_n 0, 1) := by decide +kernel
theorem dX7_init_1 : decode cX7_init 1 = .ok (.invokespecial 3, 3) := by decide +kernel
theorem dX7_init_4 : decode cX7_init 4 = .ok (.aload_n 0, 1) := by decide +kernel
theorem dX7_init_5 : decode cX7_init 5 = .ok (.new 9, 3) := by decide +kernel
theorem dX7_init_8 : decode cX7_init 8 = .ok (.dup, 1) := by decide +kernel
theorem dX7_init_9 : decode cX7_init 9 = .ok (.invokespecial 11, 3) := by decide +kernel
theorem dX7_init_12 : decode cX7_init 12 = .ok (.putfield 12, 3) := by decide +kernel
theorem dX7_init_15 : decode cX7_init 15 = .ok (.aload_n 0, 1) := by decide +kernel
theorem dX7_init_16 : decode cX7_init 16 = .ok (.new 9, 3) := by decide +kernel
theorem dX7_init_19 : decode cX7_init 19 = .ok (.dup, 1) := by decide +kernel
theorem dX7_init_20 : decode cX7_init 20 = .ok (.invokespecial 11, 3) := by decide +kernel
theorem dX7_init_23 : decode cX7_init 23 = .ok (.putfield 16, 3) := by decide +kernel
theorem dX7_init_26 : decode cX7_init 26 = .ok (.aload_n 0, 1) := by decide +kernel
theorem dX7_init_27 : decode cX7_init 27 = .ok (.iconst 0, 1) := by decide +kernel
theorem dX7_init_28 : decode cX7_init 28 = .ok (.putfield 19, 3) := by decide +kernel
theorem dX7_init_31 : decode cX7_init 31 = .ok (.aload_n 0, 1) := by decide +kernel
theorem dX7_init_32 : decode cX7_init 32 = .ok (.new 23, 3) := by decide +kernel
theorem dX7_init_35 : decode cX7_init 35 = .ok (.dup, 1) := by decide +kernel
theorem dX7_init_36 : decode cX7_init 36 = .ok (.invokespecial 25, 3) := by decide +kernel
theorem dX7_init_39 : decode cX7_init 39 = .ok (.putfield 26, 3) := by decide +kernel
theorem dX7_init_42 : decode cX7_init 42 = .ok (.aload_n 0, 1) := by decide +kernel
theorem dX7_init_43 : decode cX7_init 43 = .ok (.new 30, 3) := by decide +kernel
theorem dX7_init_46 : decode cX7_init 46 = .ok (.dup, 1) := by decide +kernel
theorem dX7_init_47 : decode cX7_init 47 = .ok (.invokespecial 32, 3) := by decide +kernel
theorem dX7_init_50 : decode cX7_init 50 = .ok (.putfield 33, 3) := by decide +kernel
theorem dX7_init_53 : decode cX7_init 53 = .ok (.aload_n 0, 1) := by decide +kernel
theorem dX7_init_54 : decode cX7_init 54 = .ok (.new 37, 3) := by decide +kernel
theorem dX7_init_57 : decode cX7_init 57 = .ok (.dup, 1) := by decide +kernel
theorem dX7_init_58 : decode cX7_init 58 = .ok (.invokespecial 39, 3) := by decide +kernel
theorem dX7_init_61 : decode cX7_init 61 = .ok (.putfield 40, 3) := by decide +kernel
theorem dX7_init_64 : decode cX7_init 64 = .ok (.aload_n 0, 1) := by decide +kernel
theorem dX7_init_65 : decode cX7_init 65 = .ok (.bipush (-4), 2) := by decide +kernel
theorem dX7_init_67 : decode cX7_init 67 = .ok (.putfield 44, 3) := by decide +kernel
theorem dX7_init_70 : decode cX7_init 70 = .ok (.aload_n 0, 1) := by decide +kernel
theorem dX7_init_71 : decode cX7_init 71 = .ok (.new 48, 3) := by decide +kernel
theorem dX7_init_74 : decode cX7_init 74 = .ok (.dup, 1) := by decide +kernel
theorem dX7_init_75 : decode cX7_init 75 = .ok (.invokespecial 50, 3) := by decide +kernel
theorem dX7_init_78 : decode cX7_init 78 = .ok (.putfield 51, 3) := by decide +kernel
theorem dX7_init_81 : decode cX7_init 81 = .ok (.aload_n 0, 1) := by decide +kernel
theorem dX7_init_82 : decode cX7_init 82 = .ok (.new 30, 3) := by decide +kernel
theorem dX7_init_85 : decode cX7_init 85 = .ok (.dup, 1) := by decide +kernel
theorem dX7_init_86 : decode cX7_init 86 = .ok (.invokespecial 32, 3) := by decide +kernel
theorem dX7_init_89 : decode cX7_init 89 = .ok (.putfield 55, 3) := by decide +kernel
theorem dX7_init_92 : decode cX7_init 92 = .ok (.return_, 1) := by decide +kernel
theorem dX7_clear_0 : decode cX7_clear 0 = .ok (.aload_n 0, 1) := by decide +kernel
theorem dX7_clear_1 : decode cX7_clear 1 = .ok (.getfield 12, 3) := by decide +kernel
theorem dX7_clear_4 : decode cX7_clear 4 = .ok (.getfield 58, 3) := by decide +kernel
theorem dX7_clear_7 : decode cX7_clear 7 = .ok (.istore_n 1, 1) := by decide +kernel
theorem dX7_clear_8 : decode cX7_clear 8 = .ok (.aload_n 0, 1) := by decide +kernel
theorem dX7_clear_9 : decode cX7_clear 9 = .ok (.getfield 12, 3) := by decide +kernel
theorem dX7_clear_12 : decode cX7_clear 12 = .ok (.invokevirtual 61, 3) := by decide +kernel
theorem dX7_clear_15 : decode cX7_clear 15 = .ok (.aload_n 0, 1) := by decide +kernel
theorem dX7_clear_16 : decode cX7_clear 16 = .ok (.getfield 26, 3) := by decide +kernel
theorem dX7_clear_19 : decode cX7_clear 19 = .ok (.invokevirtual 64, 3) := by decide +kernel
theorem dX7_clear_22 : decode cX7_clear 22 = .ok (.iload_n 1, 1) := by decide +kernel
theorem dX7_clear_23 : decode cX7_clear 23 = .ok (.ireturn, 1) := by decide +kernel
theorem dX7_append_0 : decode cX7_append 0 = .ok (.iload_n 1, 1) := by decide +kernel
theorem dX7_append_1 : decode cX7_append 1 = .ok (.bipush 32, 2) := by decide +kernel
theorem dX7_append_3 : decode cX7_append 3 = .ok (.if_icmp .lt 21, 3) := by decide +kernel
theorem dX7_append_6 : decode cX7_append 6 = .ok (.iload_n 1, 1) := by decide +kernel
theorem dX7_append_7 : decode cX7_append 7 = .ok (.bipush 126, 2) := by decide +kernel
theorem dX7_append_9 : decode cX7_append 9 = .ok (.if_icmp .gt 15, 3) := by decide +kernel
theorem dX7_append_12 : decode cX7_append 12 = .ok (.aload_n 0, 1) := by decide +kernel
theorem dX7_append_13 : decode cX7_append 13 = .ok (.getfield 33, 3) := by decide +kernel
theorem dX7_append_16 : decode cX7_append 16 = .ok (.invokevirtual 67, 3) := by decide +kernel
theorem dX7_append_19 : decode cX7_append 19 = .ok (.bipush 60, 2) := by decide +kernel
theorem dX7_append_21 : decode cX7_append 21 = .ok (.if_icmp .lt 6, 3) := by decide +kernel
theorem dX7_append_24 : decode cX7_append 24 = .ok (.bipush (-2), 2) := by decide +kernel
theorem dX7_append_26 : decode cX7_append 26 = .ok (.ireturn, 1) := by decide +kernel
theorem dX7_append_27 : decode cX7_append 27 = .ok (.aload_n 0, 1) := by decide +kernel
theorem dX7_append_28 : decode cX7_append 28 = .ok (.getfield 33, 3) := by decide +kernel
theorem dX7_append_31 : decode cX7_append 31 = .ok (.iload_n 1, 1) := by decide +kernel
theorem dX7_append_32 : decode cX7_append 32 = .ok (.invokevirtual 71, 3) := by decide +kernel
theorem dX7_append_35 : decode cX7_append 35 = .ok (.pop, 1) := by decide +kernel
theorem dX7_append_36 : decode cX7_append 36 = .ok (.aload_n 0, 1) := by decide +kernel
theorem dX7_append_37 : decode cX7_append 37 = .ok (.getfield 33, 3) := by decide +kernel
theorem dX7_append_40 : decode cX7_append 40 = .ok (.invokevirtual 67, 3) := by decide +kernel
theorem dX7_append_43 : decode cX7_append 43 = .ok (.ireturn, 1) := by decide +kernel
theorem dX7_rink_0 : decode cX7_rink 0 = .ok (.aload_n 0, 1) := by decide +kernel
theorem dX7_rink_1 : decode cX7_rink 1 = .ok (.getfield 26, 3) := by decide +kernel
theorem dX7_rink_4 : decode cX7_rink 4 = .ok (.aload_n 0, 1) := by decide +kernel
theorem dX7_rink_5 : decode cX7_rink 5 = .ok (.getfield 12, 3) := by decide +kernel
theorem dX7_rink_8 : decode cX7_rink 8 = .ok (.invokevirtual 75, 3) := by decide +kernel
theorem dX7_rink_11 : decode cX7_rink 11 = .ok (.aload_n 0, 1) := by decide +kernel
theorem dX7_rink_12 : decode cX7_rink 12 = .ok (.aload_n 0, 1) := by decide +kernel
theorem dX7_rink_13 : decode cX7_rink 13 = .ok (.iload_n 1, 1) := by decide +kernel
theorem dX7_rink_14 : decode cX7_rink 14 = .ok (.iload_n 2, 1) := by decide +kernel
theorem dX7_rink_15 : decode cX7_rink 15 = .ok (.invokevirtual 79, 3) := by decide +kernel
theorem dX7_rink_18 : decode cX7_rink 18 = .ok (.invokevirtual 83, 3) := by decide +kernel
theorem dX7_rink_21 : decode cX7_rink 21 = .ok (.ireturn, 1) := by decide +kernel
theorem dX7_wood_0 : decode cX7_wood 0 = .ok (.aload_n 0, 1) := by decide +kernel
theorem dX7_wood_1 : decode cX7_wood 1 = .ok (.getfield 26, 3) := by decide +kernel
theorem dX7_wood_4 : decode cX7_wood 4 = .ok (.aload_n 0, 1) := by decide +kernel
theorem dX7_wood_5 : decode cX7_wood 5 = .ok (.getfield 12, 3) := by decide +kernel
theorem dX7_wood_8 : decode cX7_wood 8 = .ok (.invokevirtual 75, 3) := by decide +kernel
theorem dX7_wood_11 : decode cX7_wood 11 = .ok (.aload_n 0, 1) := by decide +kernel
theorem dX7_wood_12 : decode cX7_wood 12 = .ok (.aload_n 0, 1) := by decide +kernel
theorem dX7_wood_13 : decode cX7_wood 13 = .ok (.iload_n 1, 1) := by decide +kernel
theorem dX7_wood_14 : decode cX7_wood 14 = .ok (.iload_n 2, 1) := by decide +kernel
theorem dX7_wood_15 : decode cX7_wood 15 = .ok (.invokevirtual 87, 3) := by decide +kernel
theorem dX7_wood_18 : decode cX7_wood 18 = .ok (.invokevirtual 83, 3) := by decide +kernel
theorem dX7_wood_21 : decode cX7_wood 21 = .ok (.ireturn, 1) := by decide +kernel
theorem dX7_begin_0 : decode cX7_begin 0 = .ok (.aload_n 0, 1) := by decide +kernel
theorem dX7_begin_1 : decode cX7_begin 1 = .ok (.getfield 26, 3) := by decide +kernel
theorem dX7_begin_4 : decode cX7_begin 4 = .ok (.aload_n 0, 1) := by decide +kernel
theorem dX7_begin_5 : decode cX7_begin 5 = .ok (.getfield 12, 3) := by decide +kernel
theorem dX7_begin_8 : decode cX7_begin 8 = .ok (.invokevirtual 75, 3) := by decide +kernel
theorem dX7_begin_11 : decode cX7_begin 11 = .ok (.aload_n 0, 1) := by decide +kernel
theorem dX7_begin_12 : decode cX7_begin 12 = .ok (.aload_n 0, 1) := by decide +kernel
theorem dX7_begin_13 : decode cX7_begin 13 = .ok (.iload_n 1, 1) := by decide +kernel
theorem dX7_begin_14 : decode cX7_begin 14 = .ok (.iload_n 2, 1) := by decide +kernel
theorem dX7_begin_15 : decode cX7_begin 15 = .ok (.invokevirtual 90, 3) := by decide +kernel
theorem dX7_begin_18 : decode cX7_begin 18 = .ok (.invokevirtual 83, 3) := by decide +kernel
theorem dX7_begin_21 : decode cX7_begin 21 = .ok (.ireturn, 1) := by decide +kernel
theorem dX7_bowl_0 : decode cX7_bowl 0 = .ok (.aload_n 0, 1) := by decide +kernel
theorem dX7_bowl_1 : decode cX7_bowl 1 = .ok (.getfield 26, 3) := by decide +kernel
theorem dX7_bowl_4 : decode cX7_bowl 4 = .ok (.aload_n 0, 1) := by decide +kernel
theorem dX7_bowl_5 : decode cX7_bowl 5 = .ok (.getfield 12, 3) := by decide +kernel
theorem dX7_bowl_8 : decode cX7_bowl 8 = .ok (.invokevirtual 75, 3) := by decide +kernel
theorem dX7_bowl_11 : decode cX7_bowl 11 = .ok (.aload_n 0, 1) := by decide +kernel
theorem dX7_bowl_12 : decode cX7_bowl 12 = .ok (.aload_n 0, 1) := by decide +kernel
theorem dX7_bowl_13 : decode cX7_bowl 13 = .ok (.iload_n 1, 1) := by decide +kernel
theorem dX7_bowl_14 : decode cX7_bowl 14 = .ok (.iload_n 2, 1) := by decide +kernel
theorem dX7_bowl_15 : decode cX7_bowl 15 = .ok (.iload_n 3, 1) := by decide +kernel
theorem dX7_bowl_16 : decode cX7_bowl 16 = .ok (.iload 4, 2) := by decide +kernel
theorem dX7_bowl_18 : decode cX7_bowl 18 = .ok (.iload 5, 2) := by decide +kernel
theorem dX7_bowl_20 : decode cX7_bowl 20 = .ok (.invokevirtual 93, 3) := by decide +kernel
theorem dX7_bowl_23 : decode cX7_bowl 23 = .ok (.invokevirtual 83, 3) := by decide +kernel
theorem dX7_bowl_26 : decode cX7_bowl 26 = .ok (.ireturn, 1) := by decide +kernel
theorem dX7_close_0 : decode cX7_close 0 = .ok (.aload_n 0, 1) := by decide +kernel
theorem dX7_close_1 : decode cX7_close 1 = .ok (.getfield 26, 3) := by decide +kernel
theorem dX7_close_4 : decode cX7_close 4 = .ok (.aload_n 0, 1) := by decide +kernel
theorem dX7_close_5 : decode cX7_close 5 = .ok (.getfield 12, 3) := by decide +kernel
theorem dX7_close_8 : decode cX7_close 8 = .ok (.invokevirtual 75, 3) := by decide +kernel
theorem dX7_close_11 : decode cX7_close 11 = .ok (.aload_n 0, 1) := by decide +kernel
theorem dX7_close_12 : decode cX7_close 12 = .ok (.aload_n 0, 1) := by decide +kernel
theorem dX7_close_13 : decode cX7_close 13 = .ok (.iload_n 1, 1) := by decide +kernel
theorem dX7_close_14 : decode cX7_close 14 = .ok (.invokevirtual 97, 3) := by decide +kernel
theorem dX7_close_17 : decode cX7_close 17 = .ok (.invokevirtual 83, 3) := by decide +kernel
theorem dX7_close_20 : decode cX7_close 20 = .ok (.ireturn, 1) := by decide +kernel
theorem dX7_sweep_0 : decode cX7_sweep 0 = .ok (.aload_n 0, 1) := by decide +kernel
theorem dX7_sweep_1 : decode cX7_sweep 1 = .ok (.getfield 26, 3) := by decide +kernel
theorem dX7_sweep_4 : decode cX7_sweep 4 = .ok (.aload_n 0, 1) := by decide +kernel
theorem dX7_sweep_5 : decode cX7_sweep 5 = .ok (.getfield 12, 3) := by decide +kernel
theorem dX7_sweep_8 : decode cX7_sweep 8 = .ok (.invokevirtual 75, 3) := by decide +kernel
theorem dX7_sweep_11 : decode cX7_sweep 11 = .ok (.aload_n 0, 1) := by decide +kernel
theorem dX7_sweep_12 : decode cX7_sweep 12 = .ok (.aload_n 0, 1) := by decide +kernel
theorem dX7_sweep_13 : decode cX7_sweep 13 = .ok (.iload_n 1, 1) := by decide +kernel
theorem dX7_sweep_14 : decode cX7_sweep 14 = .ok (.invokevirtual 100, 3) := by decide +kernel
theorem dX7_sweep_17 : decode cX7_sweep 17 = .ok (.invokevirtual 83, 3) := by decide +kernel
theorem dX7_sweep_20 : decode cX7_sweep 20 = .ok (.ireturn, 1) := by decide +kernel
theorem dX7_rain_0 : decode cX7_rain 0 = .ok (.aload_n 0, 1) := by decide +kernel
theorem dX7_rain_1 : decode cX7_rain 1 = .ok (.getfield 26, 3) := by decide +kernel
theorem dX7_rain_4 : decode cX7_rain 4 = .ok (.aload_n 0, 1) := by decide +kernel
theorem dX7_rain_5 : decode cX7_rain 5 = .ok (.getfield 12, 3) := by decide +kernel
theorem dX7_rain_8 : decode cX7_rain 8 = .ok (.invokevirtual 75, 3) := by decide +kernel
theorem dX7_rain_11 : decode cX7_rain 11 = .ok (.aload_n 0, 1) := by decide +kernel
theorem dX7_rain_12 : decode cX7_rain 12 = .ok (.aload_n 0, 1) := by decide +kernel
theorem dX7_rain_13 : decode cX7_rain 13 = .ok (.iload_n 1, 1) := by decide +kernel
theorem dX7_rain_14 : decode cX7_rain 14 = .ok (.invokevirtual 103, 3) := by decide +kernel
theorem dX7_rain_17 : decode cX7_rain 17 = .ok (.invokevirtual 83, 3) := by decide +kernel
theorem dX7_rain_20 : decode cX7_rain 20 = .ok (.ireturn, 1) := by decide +kernel
theorem dX7_sun_0 : decode cX7_sun 0 = .ok (.aload_n 0, 1) := by decide +kernel
theorem dX7_sun_1 : decode cX7_sun 1 = .ok (.getfield 26, 3) := by decide +kernel
theorem dX7_sun_4 : decode cX7_sun 4 = .ok (.aload_n 0, 1) := by decide +kernel
theorem dX7_sun_5 : decode cX7_sun 5 = .ok (.getfield 12, 3) := by decide +kernel
theorem dX7_sun_8 : decode cX7_sun 8 = .ok (.invokevirtual 75, 3) := by decide +kernel
theorem dX7_sun_11 : decode cX7_sun 11 = .ok (.aload_n 0, 1) := by decide +kernel
theorem dX7_sun_12 : decode cX7_sun 12 = .ok (.aload_n 0, 1) := by decide +kernel
theorem dX7_sun_13 : decode cX7_sun 13 = .ok (.iload_n 1, 1) := by decide +kernel
theorem dX7_sun_14 : decode cX7_sun 14 = .ok (.invokevirtual 106, 3) := by decide +kernel
theorem dX7_sun_17 : decode cX7_sun 17 = .ok (.invokevirtual 83, 3) := by decide +kernel
theorem dX7_sun_20 : decode cX7_sun 20 = .ok (.ireturn, 1) := by decide +kernel
theorem dX7_brew_0 : decode cX7_brew 0 = .ok (.aload_n 0, 1) := by decide +kernel
theorem dX7_brew_1 : decode cX7_brew 1 = .ok (.getfield 26, 3) := by decide +kernel
theorem dX7_brew_4 : decode cX7_brew 4 = .ok (.aload_n 0, 1) := by decide +kernel
theorem dX7_brew_5 : decode cX7_brew 5 = .ok (.getfield 12, 3) := by decide +kernel
theorem dX7_brew_8 : decode cX7_brew 8 = .ok (.invokevirtual 75, 3) := by decide +kernel
theorem dX7_brew_11 : decode cX7_brew 11 = .ok (.aload_n 0, 1) := by decide +kernel
theorem dX7_brew_12 : decode cX7_brew 12 = .ok (.aload_n 0, 1) := by decide +kernel
theorem dX7_brew_13 : decode cX7_brew 13 = .ok (.iload_n 1, 1) := by decide +kernel
theorem dX7_brew_14 : decode cX7_brew 14 = .ok (.invokevirtual 109, 3) := by decide +kernel
theorem dX7_brew_17 : decode cX7_brew 17 = .ok (.invokevirtual 83, 3) := by decide +kernel
theorem dX7_brew_20 : decode cX7_brew 20 = .ok (.ireturn, 1) := by decide +kernel
theorem dX7_tea_0 : decode cX7_tea 0 = .ok (.aload_n 0, 1) := by decide +kernel
theorem dX7_tea_1 : decode cX7_tea 1 = .ok (.getfield 26, 3) := by decide +kernel
theorem dX7_tea_4 : decode cX7_tea 4 = .ok (.aload_n 0, 1) := by decide +kernel
theorem dX7_tea_5 : decode cX7_tea 5 = .ok (.getfield 12, 3) := by decide +kernel
theorem dX7_tea_8 : decode cX7_tea 8 = .ok (.invokevirtual 75, 3) := by decide +kernel
theorem dX7_tea_11 : decode cX7_tea 11 = .ok (.aload_n 0, 1) := by decide +kernel
theorem dX7_tea_12 : decode cX7_tea 12 = .ok (.aload_n 0, 1) := by decide +kernel
theorem dX7_tea_13 : decode cX7_tea 13 = .ok (.iload_n 1, 1) := by decide +kernel
theorem dX7_tea_14 : decode cX7_tea 14 = .ok (.invokevirtual 112, 3) := by decide +kernel
theorem dX7_tea_17 : decode cX7_tea 17 = .ok (.invokevirtual 83, 3) := by decide +kernel
theorem dX7_tea_20 : decode cX7_tea 20 = .ok (.ireturn, 1) := by decide +kernel
theorem dX7_hour_0 : decode cX7_hour 0 = .ok (.aload_n 0, 1) := by decide +kernel
theorem dX7_hour_1 : decode cX7_hour 1 = .ok (.getfield 26, 3) := by decide +kernel
theorem dX7_hour_4 : decode cX7_hour 4 = .ok (.aload_n 0, 1) := by decide +kernel
theorem dX7_hour_5 : decode cX7_hour 5 = .ok (.getfield 12, 3) := by decide +kernel
theorem dX7_hour_8 : decode cX7_hour 8 = .ok (.invokevirtual 75, 3) := by decide +kernel
theorem dX7_hour_11 : decode cX7_hour 11 = .ok (.aload_n 0, 1) := by decide +kernel
theorem dX7_hour_12 : decode cX7_hour 12 = .ok (.aload_n 0, 1) := by decide +kernel
theorem dX7_hour_13 : decode cX7_hour 13 = .ok (.iload_n 1, 1) := by decide +kernel
theorem dX7_hour_14 : decode cX7_hour 14 = .ok (.invokevirtual 115, 3) := by decide +kernel
theorem dX7_hour_17 : decode cX7_hour 17 = .ok (.invokevirtual 83, 3) := by decide +kernel
theorem dX7_hour_20 : decode cX7_hour 20 = .ok (.ireturn, 1) := by decide +kernel
theorem dX7_script_0 : decode cX7_script 0 = .ok (.aload_n 0, 1) := by decide +kernel
theorem dX7_script_1 : decode cX7_script 1 = .ok (.getfield 26, 3) := by decide +kernel
theorem dX7_script_4 : decode cX7_script 4 = .ok (.aload_n 0, 1) := by decide +kernel
theorem dX7_script_5 : decode cX7_script 5 = .ok (.getfield 12, 3) := by decide +kernel
theorem dX7_script_8 : decode cX7_script 8 = .ok (.invokevirtual 75, 3) := by decide +kernel
theorem dX7_script_11 : decode cX7_script 11 = .ok (.aload_n 0, 1) := by decide +kernel
theorem dX7_script_12 : decode cX7_script 12 = .ok (.getfield 40, 3) := by decide +kernel
theorem dX7_script_15 : decode cX7_script 15 = .ok (.aload_n 0, 1) := by decide +kernel
theorem dX7_script_16 : decode cX7_script 16 = .ok (.getfield 33, 3) := by decide +kernel
theorem dX7_script_19 : decode cX7_script 19 = .ok (.invokevirtual 118, 3) := by decide +kernel
theorem dX7_script_22 : decode cX7_script 22 = .ok (.ifCond .eq 10, 3) := by decide +kernel
theorem dX7_script_25 : decode cX7_script 25 = .ok (.aload_n 0, 1) := by decide +kernel
theorem dX7_script_26 : decode cX7_script 26 = .ok (.invokevirtual 122, 3) := by decide +kernel
theorem dX7_script_29 : decode cX7_script 29 = .ok (.goto 7, 3) := by decide +kernel
theorem dX7_script_32 : decode cX7_script 32 = .ok (.aload_n 0, 1) := by decide +kernel
theorem dX7_script_33 : decode cX7_script 33 = .ok (.invokevirtual 125, 3) := by decide +kernel
theorem dX7_script_36 : decode cX7_script 36 = .ok (.istore_n 1, 1) := by decide +kernel
theorem dX7_script_37 : decode cX7_script 37 = .ok (.aload_n 0, 1) := by decide +kernel
theorem dX7_script_38 : decode cX7_script 38 = .ok (.getfield 33, 3) := by decide +kernel
theorem dX7_script_41 : decode cX7_script 41 = .ok (.iconst 0, 1) := by decide +kernel
theorem dX7_script_42 : decode cX7_script 42 = .ok (.invokevirtual 128, 3) := by decide +kernel
theorem dX7_script_45 : decode cX7_script 45 = .ok (.aload_n 0, 1) := by decide +kernel
theorem dX7_script_46 : decode cX7_script 46 = .ok (.iload_n 1, 1) := by decide +kernel
theorem dX7_script_47 : decode cX7_script 47 = .ok (.invokevirtual 83, 3) := by decide +kernel
theorem dX7_script_50 : decode cX7_script 50 = .ok (.ireturn, 1) := by decide +kernel
theorem dX7_settle_0 : decode cX7_settle 0 = .ok (.iload_n 1, 1) := by decide +kernel
theorem dX7_settle_1 : decode cX7_settle 1 = .ok (.invokestatic 132, 3) := by decide +kernel
theorem dX7_settle_4 : decode cX7_settle 4 = .ok (.ifCond .ne 10, 3) := by decide +kernel
theorem dX7_settle_7 : decode cX7_settle 7 = .ok (.aload_n 0, 1) := by decide +kernel
theorem dX7_settle_8 : decode cX7_settle 8 = .ok (.getfield 26, 3) := by decide +kernel
theorem dX7_settle_11 : decode cX7_settle 11 = .ok (.invokevirtual 136, 3) := by decide +kernel
theorem dX7_settle_14 : decode cX7_settle 14 = .ok (.iload_n 1, 1) := by decide +kernel
theorem dX7_settle_15 : decode cX7_settle 15 = .ok (.ireturn, 1) := by decide +kernel
theorem dX7_isCode_0 : decode cX7_isCode 0 = .ok (.iload_n 0, 1) := by decide +kernel
theorem dX7_isCode_1 : decode cX7_isCode 1 = .ok (.iconst (-1), 1) := by decide +kernel
theorem dX7_isCode_2 : decode cX7_isCode 2 = .ok (.if_icmp .eq 15, 3) := by decide +kernel
theorem dX7_isCode_5 : decode cX7_isCode 5 = .ok (.iload_n 0, 1) := by decide +kernel
theorem dX7_isCode_6 : decode cX7_isCode 6 = .ok (.bipush (-2), 2) := by decide +kernel
theorem dX7_isCode_8 : decode cX7_isCode 8 = .ok (.if_icmp .eq 9, 3) := by decide +kernel
theorem dX7_isCode_11 : decode cX7_isCode 11 = .ok (.iload_n 0, 1) := by decide +kernel
theorem dX7_isCode_12 : decode cX7_isCode 12 = .ok (.bipush (-3), 2) := by decide +kernel
theorem dX7_isCode_14 : decode cX7_isCode 14 = .ok (.if_icmp .ne 7, 3) := by decide +kernel
theorem dX7_isCode_17 : decode cX7_isCode 17 = .ok (.iconst 1, 1) := by decide +kernel
theorem dX7_isCode_18 : decode cX7_isCode 18 = .ok (.goto 4, 3) := by decide +kernel
theorem dX7_isCode_21 : decode cX7_isCode 21 = .ok (.iconst 0, 1) := by decide +kernel
theorem dX7_isCode_22 : decode cX7_isCode 22 = .ok (.ireturn, 1) := by decide +kernel
theorem dX7_refuse_0 : decode cX7_refuse 0 = .ok (.aload_n 0, 1) := by decide +kernel
theorem dX7_refuse_1 : decode cX7_refuse 1 = .ok (.getfield 51, 3) := by decide +kernel
theorem dX7_refuse_4 : decode cX7_refuse 4 = .ok (.invokevirtual 139, 3) := by decide +kernel
theorem dX7_refuse_7 : decode cX7_refuse 7 = .ok (.aload_n 0, 1) := by decide +kernel
theorem dX7_refuse_8 : decode cX7_refuse 8 = .ok (.getfield 51, 3) := by decide +kernel
theorem dX7_refuse_11 : decode cX7_refuse 11 = .ok (.iload_n 1, 1) := by decide +kernel
theorem dX7_refuse_12 : decode cX7_refuse 12 = .ok (.iload_n 2, 1) := by decide +kernel
theorem dX7_refuse_13 : decode cX7_refuse 13 = .ok (.invokevirtual 142, 3) := by decide +kernel
theorem dX7_refuse_16 : decode cX7_refuse 16 = .ok (.bipush (-3), 2) := by decide +kernel
theorem dX7_refuse_18 : decode cX7_refuse 18 = .ok (.ireturn, 1) := by decide +kernel
theorem dX7_layRink_0 : decode cX7_layRink 0 = .ok (.iload_n 1, 1) := by decide +kernel
theorem dX7_layRink_1 : decode cX7_layRink 1 = .ok (.ifCond .lt 19, 3) := by decide +kernel
theorem dX7_layRink_4 : decode cX7_layRink 4 = .ok (.iload_n 1, 1) := by decide +kernel
theorem dX7_layRink_5 : decode cX7_layRink 5 = .ok (.bipush 29, 2) := by decide +kernel
theorem dX7_layRink_7 : decode cX7_layRink 7 = .ok (.if_icmp .gt 13, 3) := by decide +kernel
theorem dX7_layRink_10 : decode cX7_layRink 10 = .ok (.iload_n 2, 1) := by decide +kernel
theorem dX7_layRink_11 : decode cX7_layRink 11 = .ok (.ifCond .lt 9, 3) := by decide +kernel
theorem dX7_layRink_14 : decode cX7_layRink 14 = .ok (.iload_n 2, 1) := by decide +kernel
theorem dX7_layRink_15 : decode cX7_layRink 15 = .ok (.bipush 29, 2) := by decide +kernel
theorem dX7_layRink_17 : decode cX7_layRink 17 = .ok (.if_icmp .le 6, 3) := by decide +kernel
theorem dX7_layRink_20 : decode cX7_layRink 20 = .ok (.bipush (-2), 2) := by decide +kernel
theorem dX7_layRink_22 : decode cX7_layRink 22 = .ok (.ireturn, 1) := by decide +kernel
theorem dX7_layRink_23 : decode cX7_layRink 23 = .ok (.iload_n 2, 1) := by decide +kernel
theorem dX7_layRink_24 : decode cX7_layRink 24 = .ok (.iload_n 1, 1) := by decide +kernel
theorem dX7_layRink_25 : decode cX7_layRink 25 = .ok (.isub, 1) := by decide +kernel
theorem dX7_layRink_26 : decode cX7_layRink 26 = .ok (.iconst 1, 1) := by decide +kernel
theorem dX7_layRink_27 : decode cX7_layRink 27 = .ok (.iadd, 1) := by decide +kernel
theorem dX7_layRink_28 : decode cX7_layRink 28 = .ok (.istore_n 3, 1) := by decide +kernel
theorem dX7_layRink_29 : decode cX7_layRink 29 = .ok (.iload_n 3, 1) := by decide +kernel
theorem dX7_layRink_30 : decode cX7_layRink 30 = .ok (.iconst 3, 1) := by decide +kernel
theorem dX7_layRink_31 : decode cX7_layRink 31 = .ok (.if_icmp .lt 9, 3) := by decide +kernel
theorem dX7_layRink_34 : decode cX7_layRink 34 = .ok (.iload_n 3, 1) := by decide +kernel
theorem dX7_layRink_35 : decode cX7_layRink 35 = .ok (.bipush 10, 2) := by decide +kernel
theorem dX7_layRink_37 : decode cX7_layRink 37 = .ok (.if_icmp .le 6, 3) := by decide +kernel
theorem dX7_layRink_40 : decode cX7_layRink 40 = .ok (.bipush (-2), 2) := by decide +kernel
theorem dX7_layRink_42 : decode cX7_layRink 42 = .ok (.ireturn, 1) := by decide +kernel
theorem dX7_layRink_43 : decode cX7_layRink 43 = .ok (.aload_n 0, 1) := by decide +kernel
theorem dX7_layRink_44 : decode cX7_layRink 44 = .ok (.getfield 12, 3) := by decide +kernel
theorem dX7_layRink_47 : decode cX7_layRink 47 = .ok (.getfield 146, 3) := by decide +kernel
theorem dX7_layRink_50 : decode cX7_layRink 50 = .ok (.iconst 4, 1) := by decide +kernel
theorem dX7_layRink_51 : decode cX7_layRink 51 = .ok (.if_icmp .lt 10, 3) := by decide +kernel
theorem dX7_layRink_54 : decode cX7_layRink 54 = .ok (.aload_n 0, 1) := by decide +kernel
theorem dX7_layRink_55 : decode cX7_layRink 55 = .ok (.iconst 1, 1) := by decide +kernel
theorem dX7_layRink_56 : decode cX7_layRink 56 = .ok (.iconst 4, 1) := by decide +kernel
theorem dX7_layRink_57 : decode cX7_layRink 57 = .ok (.invokevirtual 149, 3) := by decide +kernel
theorem dX7_layRink_60 : decode cX7_layRink 60 = .ok (.ireturn, 1) := by decide +kernel
theorem dX7_layRink_61 : decode cX7_layRink 61 = .ok (.aload_n 0, 1) := by decide +kernel
theorem dX7_layRink_62 : decode cX7_layRink 62 = .ok (.getfield 12, 3) := by decide +kernel
theorem dX7_layRink_65 : decode cX7_layRink 65 = .ok (.iload_n 1, 1) := by decide +kernel
theorem dX7_layRink_66 : decode cX7_layRink 66 = .ok (.iload_n 2, 1) := by decide +kernel
theorem dX7_layRink_67 : decode cX7_layRink 67 = .ok (.invokevirtual 152, 3) := by decide +kernel
theorem dX7_layRink_70 : decode cX7_layRink 70 = .ok (.istore 4, 2) := by decide +kernel
theorem dX7_layRink_72 : decode cX7_layRink 72 = .ok (.iload 4, 2) := by decide +kernel
theorem dX7_layRink_74 : decode cX7_layRink 74 = .ok (.iconst (-1), 1) := by decide +kernel
theorem dX7_layRink_75 : decode cX7_layRink 75 = .ok (.if_icmp .eq 11, 3) := by decide +kernel
theorem dX7_layRink_78 : decode cX7_layRink 78 = .ok (.aload_n 0, 1) := by decide +kernel
theorem dX7_layRink_79 : decode cX7_layRink 79 = .ok (.iconst 2, 1) := by decide +kernel
theorem dX7_layRink_80 : decode cX7_layRink 80 = .ok (.iload 4, 2) := by decide +kernel
theorem dX7_layRink_82 : decode cX7_layRink 82 = .ok (.invokevirtual 149, 3) := by decide +kernel
theorem dX7_layRink_85 : decode cX7_layRink 85 = .ok (.ireturn, 1) := by decide +kernel
theorem dX7_layRink_86 : decode cX7_layRink 86 = .ok (.aload_n 0, 1) := by decide +kernel
theorem dX7_layRink_87 : decode cX7_layRink 87 = .ok (.getfield 12, 3) := by decide +kernel
theorem dX7_layRink_90 : decode cX7_layRink 90 = .ok (.getfield 146, 3) := by decide +kernel
theorem dX7_layRink_93 : decode cX7_layRink 93 = .ok (.istore 5, 2) := by decide +kernel
theorem dX7_layRink_95 : decode cX7_layRink 95 = .ok (.aload_n 0, 1) := by decide +kernel
theorem dX7_layRink_96 : decode cX7_layRink 96 = .ok (.getfield 12, 3) := by decide +kernel
theorem dX7_layRink_99 : decode cX7_layRink 99 = .ok (.getfield 155, 3) := by decide +kernel
theorem dX7_layRink_102 : decode cX7_layRink 102 = .ok (.iload 5, 2) := by decide +kernel
theorem dX7_layRink_104 : decode cX7_layRink 104 = .ok (.aaload, 1) := by decide +kernel
theorem dX7_layRink_105 : decode cX7_layRink 105 = .ok (.iload_n 1, 1) := by decide +kernel
theorem dX7_layRink_106 : decode cX7_layRink 106 = .ok (.iload_n 2, 1) := by decide +kernel
theorem dX7_layRink_107 : decode cX7_layRink 107 = .ok (.invokevirtual 159, 3) := by decide +kernel
theorem dX7_layRink_110 : decode cX7_layRink 110 = .ok (.aload_n 0, 1) := by decide +kernel
theorem dX7_layRink_111 : decode cX7_layRink 111 = .ok (.getfield 12, 3) := by decide +kernel
theorem dX7_layRink_114 : decode cX7_layRink 114 = .ok (.dup, 1) := by decide +kernel
theorem dX7_layRink_115 : decode cX7_layRink 115 = .ok (.getfield 146, 3) := by decide +kernel
theorem dX7_layRink_118 : decode cX7_layRink 118 = .ok (.iconst 1, 1) := by decide +kernel
theorem dX7_layRink_119 : decode cX7_layRink 119 = .ok (.iadd, 1) := by decide +kernel
theorem dX7_layRink_120 : decode cX7_layRink 120 = .ok (.putfield 146, 3) := by decide +kernel
theorem dX7_layRink_123 : decode cX7_layRink 123 = .ok (.iload 5, 2) := by decide +kernel
theorem dX7_layRink_125 : decode cX7_layRink 125 = .ok (.ireturn, 1) := by decide +kernel
theorem dX7_addWood_0 : decode cX7_addWood 0 = .ok (.iload_n 1, 1) := by decide +kernel
theorem dX7_addWood_1 : decode cX7_addWood 1 = .ok (.invokestatic 164, 3) := by decide +kernel
theorem dX7_addWood_4 : decode cX7_addWood 4 = .ok (.ifCond .ne 5, 3) := by decide +kernel
theorem dX7_addWood_7 : decode cX7_addWood 7 = .ok (.iconst (-1), 1) := by decide +kernel
theorem dX7_addWood_8 : decode cX7_addWood 8 = .ok (.ireturn, 1) := by decide +kernel
theorem dX7_addWood_9 : decode cX7_addWood 9 = .ok (.iload_n 2, 1) := by decide +kernel
theorem dX7_addWood_10 : decode cX7_addWood 10 = .ok (.ifCond .lt 9, 3) := by decide +kernel
theorem dX7_addWood_13 : decode cX7_addWood 13 = .ok (.iload_n 2, 1) := by decide +kernel
theorem dX7_addWood_14 : decode cX7_addWood 14 = .ok (.bipush 9, 2) := by decide +kernel
theorem dX7_addWood_16 : decode cX7_addWood 16 = .ok (.if_icmp .le 6, 3) := by decide +kernel
theorem dX7_addWood_19 : decode cX7_addWood 19 = .ok (.bipush (-2), 2) := by decide +kernel
theorem dX7_addWood_21 : decode cX7_addWood 21 = .ok (.ireturn, 1) := by decide +kernel
theorem dX7_addWood_22 : decode cX7_addWood 22 = .ok (.aload_n 0, 1) := by decide +kernel
theorem dX7_addWood_23 : decode cX7_addWood 23 = .ok (.getfield 12, 3) := by decide +kernel
theorem dX7_addWood_26 : decode cX7_addWood 26 = .ok (.getfield 167, 3) := by decide +kernel
theorem dX7_addWood_29 : decode cX7_addWood 29 = .ok (.bipush 16, 2) := by decide +kernel
theorem dX7_addWood_31 : decode cX7_addWood 31 = .ok (.if_icmp .lt 11, 3) := by decide +kernel
theorem dX7_addWood_34 : decode cX7_addWood 34 = .ok (.aload_n 0, 1) := by decide +kernel
theorem dX7_addWood_35 : decode cX7_addWood 35 = .ok (.iconst 1, 1) := by decide +kernel
theorem dX7_addWood_36 : decode cX7_addWood 36 = .ok (.bipush 16, 2) := by decide +kernel
theorem dX7_addWood_38 : decode cX7_addWood 38 = .ok (.invokevirtual 149, 3) := by decide +kernel
theorem dX7_addWood_41 : decode cX7_addWood 41 = .ok (.ireturn, 1) := by decide +kernel
theorem dX7_addWood_42 : decode cX7_addWood 42 = .ok (.aload_n 0, 1) := by decide +kernel
theorem dX7_addWood_43 : decode cX7_addWood 43 = .ok (.getfield 12, 3) := by decide +kernel
theorem dX7_addWood_46 : decode cX7_addWood 46 = .ok (.getfield 167, 3) := by decide +kernel
theorem dX7_addWood_49 : decode cX7_addWood 49 = .ok (.istore_n 3, 1) := by decide +kernel
theorem dX7_addWood_50 : decode cX7_addWood 50 = .ok (.aload_n 0, 1) := by decide +kernel
theorem dX7_addWood_51 : decode cX7_addWood 51 = .ok (.getfield 12, 3) := by decide +kernel
theorem dX7_addWood_54 : decode cX7_addWood 54 = .ok (.getfield 170, 3) := by decide +kernel
theorem dX7_addWood_57 : decode cX7_addWood 57 = .ok (.iload_n 3, 1) := by decide +kernel
theorem dX7_addWood_58 : decode cX7_addWood 58 = .ok (.aaload, 1) := by decide +kernel
theorem dX7_addWood_59 : decode cX7_addWood 59 = .ok (.iload_n 1, 1) := by decide +kernel
theorem dX7_addWood_60 : decode cX7_addWood 60 = .ok (.iload_n 2, 1) := by decide +kernel
theorem dX7_addWood_61 : decode cX7_addWood 61 = .ok (.invokevirtual 174, 3) := by decide +kernel
theorem dX7_addWood_64 : decode cX7_addWood 64 = .ok (.aload_n 0, 1) := by decide +kernel
theorem dX7_addWood_65 : decode cX7_addWood 65 = .ok (.getfield 12, 3) := by decide +kernel
theorem dX7_addWood_68 : decode cX7_addWood 68 = .ok (.dup, 1) := by decide +kernel
theorem dX7_addWood_69 : decode cX7_addWood 69 = .ok (.getfield 167, 3) := by decide +kernel
theorem dX7_addWood_72 : decode cX7_addWood 72 = .ok (.iconst 1, 1) := by decide +kernel
theorem dX7_addWood_73 : decode cX7_addWood 73 = .ok (.iadd, 1) := by decide +kernel
theorem dX7_addWood_74 : decode cX7_addWood 74 = .ok (.putfield 167, 3) := by decide +kernel
theorem dX7_addWood_77 : decode cX7_addWood 77 = .ok (.iload_n 3, 1) := by decide +kernel
theorem dX7_addWood_78 : decode cX7_addWood 78 = .ok (.ireturn, 1) := by decide +kernel
theorem dX7_beginEnd_0 : decode cX7_beginEnd 0 = .ok (.aload_n 0, 1) := by decide +kernel
theorem dX7_beginEnd_1 : decode cX7_beginEnd 1 = .ok (.getfield 12, 3) := by decide +kernel
theorem dX7_beginEnd_4 : decode cX7_beginEnd 4 = .ok (.iload_n 1, 1) := by decide +kernel
theorem dX7_beginEnd_5 : decode cX7_beginEnd 5 = .ok (.invokevirtual 179, 3) := by decide +kernel
theorem dX7_beginEnd_8 : decode cX7_beginEnd 8 = .ok (.ifCond .ne 5, 3) := by decide +kernel
theorem dX7_beginEnd_11 : decode cX7_beginEnd 11 = .ok (.iconst (-1), 1) := by decide +kernel
theorem dX7_beginEnd_12 : decode cX7_beginEnd 12 = .ok (.ireturn, 1) := by decide +kernel
theorem dX7_beginEnd_13 : decode cX7_beginEnd 13 = .ok (.iload_n 2, 1) := by decide +kernel
theorem dX7_beginEnd_14 : decode cX7_beginEnd 14 = .ok (.bipush 20, 2) := by decide +kernel
theorem dX7_beginEnd_16 : decode cX7_beginEnd 16 = .ok (.if_icmp .lt 9, 3) := by decide +kernel
theorem dX7_beginEnd_19 : decode cX7_beginEnd 19 = .ok (.iload_n 2, 1) := by decide +kernel
theorem dX7_beginEnd_20 : decode cX7_beginEnd 20 = .ok (.bipush 40, 2) := by decide +kernel
theorem dX7_beginEnd_22 : decode cX7_beginEnd 22 = .ok (.if_icmp .le 6, 3) := by decide +kernel
theorem dX7_beginEnd_25 : decode cX7_beginEnd 25 = .ok (.bipush (-2), 2) := by decide +kernel
theorem dX7_beginEnd_27 : decode cX7_beginEnd 27 = .ok (.ireturn, 1) := by decide +kernel
theorem dX7_beginEnd_28 : decode cX7_beginEnd 28 = .ok (.aload_n 0, 1) := by decide +kernel
theorem dX7_beginEnd_29 : decode cX7_beginEnd 29 = .ok (.getfield 12, 3) := by decide +kernel
theorem dX7_beginEnd_32 : decode cX7_beginEnd 32 = .ok (.getfield 155, 3) := by decide +kernel
theorem dX7_beginEnd_35 : decode cX7_beginEnd 35 = .ok (.iload_n 1, 1) := by decide +kernel
theorem dX7_beginEnd_36 : decode cX7_beginEnd 36 = .ok (.aaload, 1) := by decide +kernel
theorem dX7_beginEnd_37 : decode cX7_beginEnd 37 = .ok (.astore_n 3, 1) := by decide +kernel
theorem dX7_beginEnd_38 : decode cX7_beginEnd 38 = .ok (.aload_n 3, 1) := by decide +kernel
theorem dX7_beginEnd_39 : decode cX7_beginEnd 39 = .ok (.invokevirtual 182, 3) := by decide +kernel
theorem dX7_beginEnd_42 : decode cX7_beginEnd 42 = .ok (.ifCond .eq 13, 3) := by decide +kernel
theorem dX7_beginEnd_45 : decode cX7_beginEnd 45 = .ok (.aload_n 0, 1) := by decide +kernel
theorem dX7_beginEnd_46 : decode cX7_beginEnd 46 = .ok (.iconst 4, 1) := by decide +kernel
theorem dX7_beginEnd_47 : decode cX7_beginEnd 47 = .ok (.aload_n 3, 1) := by decide +kernel
theorem dX7_beginEnd_48 : decode cX7_beginEnd 48 = .ok (.getfield 186, 3) := by decide +kernel
theorem dX7_beginEnd_51 : decode cX7_beginEnd 51 = .ok (.invokevirtual 149, 3) := by decide +kernel
theorem dX7_beginEnd_54 : decode cX7_beginEnd 54 = .ok (.ireturn, 1) := by decide +kernel
theorem dX7_beginEnd_55 : decode cX7_beginEnd 55 = .ok (.aload_n 3, 1) := by decide +kernel
theorem dX7_beginEnd_56 : decode cX7_beginEnd 56 = .ok (.getfield 189, 3) := by decide +kernel
theorem dX7_beginEnd_59 : decode cX7_beginEnd 59 = .ok (.bipush 8, 2) := by decide +kernel
theorem dX7_beginEnd_61 : decode cX7_beginEnd 61 = .ok (.if_icmp .lt 20, 3) := by decide +kernel
theorem dX7_beginEnd_64 : decode cX7_beginEnd 64 = .ok (.aload_n 0, 1) := by decide +kernel
theorem dX7_beginEnd_65 : decode cX7_beginEnd 65 = .ok (.aload_n 3, 1) := by decide +kernel
theorem dX7_beginEnd_66 : decode cX7_beginEnd 66 = .ok (.getfield 189, 3) := by decide +kernel
theorem dX7_beginEnd_69 : decode cX7_beginEnd 69 = .ok (.aload_n 0, 1) := by decide +kernel
theorem dX7_beginEnd_70 : decode cX7_beginEnd 70 = .ok (.getfield 12, 3) := by decide +kernel
theorem dX7_beginEnd_73 : decode cX7_beginEnd 73 = .ok (.iload_n 1, 1) := by decide +kernel
theorem dX7_beginEnd_74 : decode cX7_beginEnd 74 = .ok (.invokevirtual 192, 3) := by decide +kernel
theorem dX7_beginEnd_77 : decode cX7_beginEnd 77 = .ok (.invokevirtual 195, 3) := by decide +kernel
theorem dX7_beginEnd_80 : decode cX7_beginEnd 80 = .ok (.ireturn, 1) := by decide +kernel
theorem dX7_beginEnd_81 : decode cX7_beginEnd 81 = .ok (.aload_n 3, 1) := by decide +kernel
theorem dX7_beginEnd_82 : decode cX7_beginEnd 82 = .ok (.iload_n 2, 1) := by decide +kernel
theorem dX7_beginEnd_83 : decode cX7_beginEnd 83 = .ok (.invokevirtual 198, 3) := by decide +kernel
theorem dX7_beginEnd_86 : decode cX7_beginEnd 86 = .ok (.aload_n 3, 1) := by decide +kernel
theorem dX7_beginEnd_87 : decode cX7_beginEnd 87 = .ok (.getfield 201, 3) := by decide +kernel
theorem dX7_beginEnd_90 : decode cX7_beginEnd 90 = .ok (.ireturn, 1) := by decide +kernel
theorem dX7_refuseWetRink_0 : decode cX7_refuseWetRink 0 = .ok (.aload_n 0, 1) := by decide +kernel
theorem dX7_refuseWetRink_1 : decode cX7_refuseWetRink 1 = .ok (.getfield 51, 3) := by decide +kernel
theorem dX7_refuseWetRink_4 : decode cX7_refuseWetRink 4 = .ok (.invokevirtual 139, 3) := by decide +kernel
theorem dX7_refuseWetRink_7 : decode cX7_refuseWetRink 7 = .ok (.aload_n 0, 1) := by decide +kernel
theorem dX7_refuseWetRink_8 : decode cX7_refuseWetRink 8 = .ok (.getfield 51, 3) := by decide +kernel
theorem dX7_refuseWetRink_11 : decode cX7_refuseWetRink 11 = .ok (.bipush 13, 2) := by decide +kernel
theorem dX7_refuseWetRink_13 : decode cX7_refuseWetRink 13 = .ok (.iload_n 2, 1) := by decide +kernel
theorem dX7_refuseWetRink_14 : decode cX7_refuseWetRink 14 = .ok (.invokevirtual 142, 3) := by decide +kernel
theorem dX7_refuseWetRink_17 : decode cX7_refuseWetRink 17 = .ok (.aload_n 0, 1) := by decide +kernel
theorem dX7_refuseWetRink_18 : decode cX7_refuseWetRink 18 = .ok (.getfield 51, 3) := by decide +kernel
theorem dX7_refuseWetRink_21 : decode cX7_refuseWetRink 21 = .ok (.iconst 3, 1) := by decide +kernel
theorem dX7_refuseWetRink_22 : decode cX7_refuseWetRink 22 = .ok (.iload_n 1, 1) := by decide +kernel
theorem dX7_refuseWetRink_23 : decode cX7_refuseWetRink 23 = .ok (.invokevirtual 142, 3) := by decide +kernel
theorem dX7_refuseWetRink_26 : decode cX7_refuseWetRink 26 = .ok (.bipush (-3), 2) := by decide +kernel
theorem dX7_refuseWetRink_28 : decode cX7_refuseWetRink 28 = .ok (.ireturn, 1) := by decide +kernel
theorem dX7_bowlWood_0 : decode cX7_bowlWood 0 = .ok (.aload_n 0, 1) := by decide +kernel
theorem dX7_bowlWood_1 : decode cX7_bowlWood 1 = .ok (.getfield 12, 3) := by decide +kernel
theorem dX7_bowlWood_4 : decode cX7_bowlWood 4 = .ok (.iload_n 1, 1) := by decide +kernel
theorem dX7_bowlWood_5 : decode cX7_bowlWood 5 = .ok (.invokevirtual 179, 3) := by decide +kernel
theorem dX7_bowlWood_8 : decode cX7_bowlWood 8 = .ok (.ifCond .eq 14, 3) := by decide +kernel
theorem dX7_bowlWood_11 : decode cX7_bowlWood 11 = .ok (.aload_n 0, 1) := by decide +kernel
theorem dX7_bowlWood_12 : decode cX7_bowlWood 12 = .ok (.getfield 12, 3) := by decide +kernel
theorem dX7_bowlWood_15 : decode cX7_bowlWood 15 = .ok (.iload_n 2, 1) := by decide +kernel
theorem dX7_bowlWood_16 : decode cX7_bowlWood 16 = .ok (.invokevirtual 204, 3) := by decide +kernel
theorem dX7_bowlWood_19 : decode cX7_bowlWood 19 = .ok (.ifCond .ne 5, 3) := by decide +kernel
theorem dX7_bowlWood_22 : decode cX7_bowlWood 22 = .ok (.iconst (-1), 1) := by decide +kernel
theorem dX7_bowlWood_23 : decode cX7_bowlWood 23 = .ok (.ireturn, 1) := by decide +kernel
theorem dX7_bowlWood_24 : decode cX7_bowlWood 24 = .ok (.aload_n 0, 1) := by decide +kernel
theorem dX7_bowlWood_25 : decode cX7_bowlWood 25 = .ok (.getfield 12, 3) := by decide +kernel
theorem dX7_bowlWood_28 : decode cX7_bowlWood 28 = .ok (.getfield 155, 3) := by decide +kernel
theorem dX7_bowlWood_31 : decode cX7_bowlWood 31 = .ok (.iload_n 1, 1) := by decide +kernel
theorem dX7_bowlWood_32 : decode cX7_bowlWood 32 = .ok (.aaload, 1) := by decide +kernel
theorem dX7_bowlWood_33 : decode cX7_bowlWood 33 = .ok (.iload_n 3, 1) := by decide +kernel
theorem dX7_bowlWood_34 : decode cX7_bowlWood 34 = .ok (.invokevirtual 207, 3) := by decide +kernel
theorem dX7_bowlWood_37 : decode cX7_bowlWood 37 = .ok (.ifCond .eq 11, 3) := by decide +kernel
theorem dX7_bowlWood_40 : decode cX7_bowlWood 40 = .ok (.iload 4, 2) := by decide +kernel
theorem dX7_bowlWood_42 : decode cX7_bowlWood 42 = .ok (.invokestatic 210, 3) := by decide +kernel
theorem dX7_bowlWood_45 : decode cX7_bowlWood 45 = .ok (.ifCond .ne 6, 3) := by decide +kernel
theorem dX7_bowlWood_48 : decode cX7_bowlWood 48 = .ok (.bipush (-2), 2) := by decide +kernel
theorem dX7_bowlWood_50 : decode cX7_bowlWood 50 = .ok (.ireturn, 1) := by decide +kernel
theorem dX7_bowlWood_51 : decode cX7_bowlWood 51 = .ok (.aload_n 0, 1) := by decide +kernel
theorem dX7_bowlWood_52 : decode cX7_bowlWood 52 = .ok (.iload_n 1, 1) := by decide +kernel
theorem dX7_bowlWood_53 : decode cX7_bowlWood 53 = .ok (.iload_n 2, 1) := by decide +kernel
theorem dX7_bowlWood_54 : decode cX7_bowlWood 54 = .ok (.invokevirtual 213, 3) := by decide +kernel
theorem dX7_bowlWood_57 : decode cX7_bowlWood 57 = .ok (.ifCond .eq 6, 3) := by decide +kernel
theorem dX7_bowlWood_60 : decode cX7_bowlWood 60 = .ok (.bipush (-3), 2) := by decide +kernel
theorem dX7_bowlWood_62 : decode cX7_bowlWood 62 = .ok (.ireturn, 1) := by decide +kernel
theorem dX7_bowlWood_63 : decode cX7_bowlWood 63 = .ok (.aload_n 0, 1) := by decide +kernel
theorem dX7_bowlWood_64 : decode cX7_bowlWood 64 = .ok (.getfield 12, 3) := by decide +kernel
theorem dX7_bowlWood_67 : decode cX7_bowlWood 67 = .ok (.getfield 155, 3) := by decide +kernel
theorem dX7_bowlWood_70 : decode cX7_bowlWood 70 = .ok (.iload_n 1, 1) := by decide +kernel
theorem dX7_bowlWood_71 : decode cX7_bowlWood 71 = .ok (.aaload, 1) := by decide +kernel
theorem dX7_bowlWood_72 : decode cX7_bowlWood 72 = .ok (.astore 6, 2) := by decide +kernel
theorem dX7_bowlWood_74 : decode cX7_bowlWood 74 = .ok (.aload_n 0, 1) := by decide +kernel
theorem dX7_bowlWood_75 : decode cX7_bowlWood 75 = .ok (.getfield 12, 3) := by decide +kernel
theorem dX7_bowlWood_78 : decode cX7_bowlWood 78 = .ok (.getfield 170, 3) := by decide +kernel
theorem dX7_bowlWood_81 : decode cX7_bowlWood 81 = .ok (.iload_n 2, 1) := by decide +kernel
theorem dX7_bowlWood_82 : decode cX7_bowlWood 82 = .ok (.aaload, 1) := by decide +kernel
theorem dX7_bowlWood_83 : decode cX7_bowlWood 83 = .ok (.astore 7, 2) := by decide +kernel
theorem dX7_bowlWood_85 : decode cX7_bowlWood 85 = .ok (.aload_n 0, 1) := by decide +kernel
theorem dX7_bowlWood_86 : decode cX7_bowlWood 86 = .ok (.getfield 12, 3) := by decide +kernel
theorem dX7_bowlWood_89 : decode cX7_bowlWood 89 = .ok (.iload_n 1, 1) := by decide +kernel
theorem dX7_bowlWood_90 : decode cX7_bowlWood 90 = .ok (.iload_n 2, 1) := by decide +kernel
theorem dX7_bowlWood_91 : decode cX7_bowlWood 91 = .ok (.iload_n 3, 1) := by decide +kernel
theorem dX7_bowlWood_92 : decode cX7_bowlWood 92 = .ok (.iload 4, 2) := by decide +kernel
theorem dX7_bowlWood_94 : decode cX7_bowlWood 94 = .ok (.iload 5, 2) := by decide +kernel
theorem dX7_bowlWood_96 : decode cX7_bowlWood 96 = .ok (.invokevirtual 217, 3) := by decide +kernel
theorem dX7_bowlWood_99 : decode cX7_bowlWood 99 = .ok (.istore 8, 2) := by decide +kernel
theorem dX7_bowlWood_101 : decode cX7_bowlWood 101 = .ok (.aload 6, 2) := by decide +kernel
theorem dX7_bowlWood_103 : decode cX7_bowlWood 103 = .ok (.getfield 220, 3) := by decide +kernel
theorem dX7_bowlWood_106 : decode cX7_bowlWood 106 = .ok (.aload 7, 2) := by decide +kernel
theorem dX7_bowlWood_108 : decode cX7_bowlWood 108 = .ok (.getfield 224, 3) := by decide +kernel
theorem dX7_bowlWood_111 : decode cX7_bowlWood 111 = .ok (.dup2, 1) := by decide +kernel
theorem dX7_bowlWood_112 : decode cX7_bowlWood 112 = .ok (.iaload, 1) := by decide +kernel
theorem dX7_bowlWood_113 : decode cX7_bowlWood 113 = .ok (.iconst 1, 1) := by decide +kernel
theorem dX7_bowlWood_114 : decode cX7_bowlWood 114 = .ok (.iadd, 1) := by decide +kernel
theorem dX7_bowlWood_115 : decode cX7_bowlWood 115 = .ok (.iastore, 1) := by decide +kernel
theorem dX7_bowlWood_116 : decode cX7_bowlWood 116 = .ok (.aload 6, 2) := by decide +kernel
theorem dX7_bowlWood_118 : decode cX7_bowlWood 118 = .ok (.aload 6, 2) := by decide +kernel
theorem dX7_bowlWood_120 : decode cX7_bowlWood 120 = .ok (.getfield 201, 3) := by decide +kernel
theorem dX7_bowlWood_123 : decode cX7_bowlWood 123 = .ok (.invokestatic 227, 3) := by decide +kernel
theorem dX7_bowlWood_126 : decode cX7_bowlWood 126 = .ok (.putfield 201, 3) := by decide +kernel
theorem dX7_bowlWood_129 : decode cX7_bowlWood 129 = .ok (.aload 7, 2) := by decide +kernel
theorem dX7_bowlWood_131 : decode cX7_bowlWood 131 = .ok (.dup, 1) := by decide +kernel
theorem dX7_bowlWood_132 : decode cX7_bowlWood 132 = .ok (.getfield 230, 3) := by decide +kernel
theorem dX7_bowlWood_135 : decode cX7_bowlWood 135 = .ok (.iconst 1, 1) := by decide +kernel
theorem dX7_bowlWood_136 : decode cX7_bowlWood 136 = .ok (.iadd, 1) := by decide +kernel
theorem dX7_bowlWood_137 : decode cX7_bowlWood 137 = .ok (.putfield 230, 3) := by decide +kernel
theorem dX7_bowlWood_140 : decode cX7_bowlWood 140 = .ok (.aload 7, 2) := by decide +kernel
theorem dX7_bowlWood_142 : decode cX7_bowlWood 142 = .ok (.iload_n 1, 1) := by decide +kernel
theorem dX7_bowlWood_143 : decode cX7_bowlWood 143 = .ok (.putfield 232, 3) := by decide +kernel
theorem dX7_bowlWood_146 : decode cX7_bowlWood 146 = .ok (.iload 8, 2) := by decide +kernel
theorem dX7_bowlWood_148 : decode cX7_bowlWood 148 = .ok (.bipush (-4), 2) := by decide +kernel
theorem dX7_bowlWood_150 : decode cX7_bowlWood 150 = .ok (.if_icmp .ne 12, 3) := by decide +kernel
theorem dX7_bowlWood_153 : decode cX7_bowlWood 153 = .ok (.aload 7, 2) := by decide +kernel
theorem dX7_bowlWood_155 : decode cX7_bowlWood 155 = .ok (.iconst 2, 1) := by decide +kernel
theorem dX7_bowlWood_156 : decode cX7_bowlWood 156 = .ok (.putfield 235, 3) := by decide +kernel
theorem dX7_bowlWood_159 : decode cX7_bowlWood 159 = .ok (.bipush (-4), 2) := by decide +kernel
theorem dX7_bowlWood_161 : decode cX7_bowlWood 161 = .ok (.ireturn, 1) := by decide +kernel
theorem dX7_bowlWood_162 : decode cX7_bowlWood 162 = .ok (.aload 7, 2) := by decide +kernel
theorem dX7_bowlWood_164 : decode cX7_bowlWood 164 = .ok (.iconst 1, 1) := by decide +kernel
theorem dX7_bowlWood_165 : decode cX7_bowlWood 165 = .ok (.putfield 235, 3) := by decide +kernel
theorem dX7_bowlWood_168 : decode cX7_bowlWood 168 = .ok (.aload 7, 2) := by decide +kernel
theorem dX7_bowlWood_170 : decode cX7_bowlWood 170 = .ok (.iload 8, 2) := by decide +kernel
theorem dX7_bowlWood_172 : decode cX7_bowlWood 172 = .ok (.bipush 100, 2) := by decide +kernel
theorem dX7_bowlWood_174 : decode cX7_bowlWood 174 = .ok (.idiv, 1) := by decide +kernel
theorem dX7_bowlWood_175 : decode cX7_bowlWood 175 = .ok (.putfield 238, 3) := by decide +kernel
theorem dX7_bowlWood_178 : decode cX7_bowlWood 178 = .ok (.aload 7, 2) := by decide +kernel
theorem dX7_bowlWood_180 : decode cX7_bowlWood 180 = .ok (.iload 8, 2) := by decide +kernel
theorem dX7_bowlWood_182 : decode cX7_bowlWood 182 = .ok (.bipush 100, 2) := by decide +kernel
theorem dX7_bowlWood_184 : decode cX7_bowlWood 184 = .ok (.irem, 1) := by decide +kernel
theorem dX7_bowlWood_185 : decode cX7_bowlWood 185 = .ok (.putfield 241, 3) := by decide +kernel
theorem dX7_bowlWood_188 : decode cX7_bowlWood 188 = .ok (.aload 7, 2) := by decide +kernel
theorem dX7_bowlWood_190 : decode cX7_bowlWood 190 = .ok (.aload 6, 2) := by decide +kernel
theorem dX7_bowlWood_192 : decode cX7_bowlWood 192 = .ok (.aload 7, 2) := by decide +kernel
theorem dX7_bowlWood_194 : decode cX7_bowlWood 194 = .ok (.getfield 238, 3) := by decide +kernel
theorem dX7_bowlWood_197 : decode cX7_bowlWood 197 = .ok (.aload 7, 2) := by decide +kernel
theorem dX7_bowlWood_199 : decode cX7_bowlWood 199 = .ok (.getfield 241, 3) := by decide +kernel
theorem dX7_bowlWood_202 : decode cX7_bowlWood 202 = .ok (.invokevirtual 243, 3) := by decide +kernel
theorem dX7_bowlWood_205 : decode cX7_bowlWood 205 = .ok (.putfield 246, 3) := by decide +kernel
theorem dX7_bowlWood_208 : decode cX7_bowlWood 208 = .ok (.aload 7, 2) := by decide +kernel
theorem dX7_bowlWood_210 : decode cX7_bowlWood 210 = .ok (.getfield 246, 3) := by decide +kernel
theorem dX7_bowlWood_213 : decode cX7_bowlWood 213 = .ok (.ireturn, 1) := by decide +kernel
theorem dX7_isBowlRefused_0 : decode cX7_isBowlRefused 0 = .ok (.aload_n 0, 1) := by decide +kernel
theorem dX7_isBowlRefused_1 : decode cX7_isBowlRefused 1 = .ok (.getfield 12, 3) := by decide +kernel
theorem dX7_isBowlRefused_4 : decode cX7_isBowlRefused 4 = .ok (.getfield 155, 3) := by decide +kernel
theorem dX7_isBowlRefused_7 : decode cX7_isBowlRefused 7 = .ok (.iload_n 1, 1) := by decide +kernel
theorem dX7_isBowlRefused_8 : decode cX7_isBowlRefused 8 = .ok (.aaload, 1) := by decide +kernel
theorem dX7_isBowlRefused_9 : decode cX7_isBowlRefused 9 = .ok (.astore_n 3, 1) := by decide +kernel
theorem dX7_isBowlRefused_10 : decode cX7_isBowlRefused 10 = .ok (.aload_n 0, 1) := by decide +kernel
theorem dX7_isBowlRefused_11 : decode cX7_isBowlRefused 11 = .ok (.getfield 12, 3) := by decide +kernel
theorem dX7_isBowlRefused_14 : decode cX7_isBowlRefused 14 = .ok (.getfield 170, 3) := by decide +kernel
theorem dX7_isBowlRefused_17 : decode cX7_isBowlRefused 17 = .ok (.iload_n 2, 1) := by decide +kernel
theorem dX7_isBowlRefused_18 : decode cX7_isBowlRefused 18 = .ok (.aaload, 1) := by decide +kernel
theorem dX7_isBowlRefused_19 : decode cX7_isBowlRefused 19 = .ok (.astore 4, 2) := by decide +kernel
theorem dX7_isBowlRefused_21 : decode cX7_isBowlRefused 21 = .ok (.iconst 0, 1) := by decide +kernel
theorem dX7_isBowlRefused_22 : decode cX7_isBowlRefused 22 = .ok (.istore 5, 2) := by decide +kernel
theorem dX7_isBowlRefused_24 : decode cX7_isBowlRefused 24 = .ok (.aload_n 3, 1) := by decide +kernel
theorem dX7_isBowlRefused_25 : decode cX7_isBowlRefused 25 = .ok (.invokevirtual 182, 3) := by decide +kernel
theorem dX7_isBowlRefused_28 : decode cX7_isBowlRefused 28 = .ok (.ifCond .ne 14, 3) := by decide +kernel
theorem dX7_isBowlRefused_31 : decode cX7_isBowlRefused 31 = .ok (.aload_n 0, 1) := by decide +kernel
theorem dX7_isBowlRefused_32 : decode cX7_isBowlRefused 32 = .ok (.iconst 5, 1) := by decide +kernel
theorem dX7_isBowlRefused_33 : decode cX7_isBowlRefused 33 = .ok (.iload_n 1, 1) := by decide +kernel
theorem dX7_isBowlRefused_34 : decode cX7_isBowlRefused 34 = .ok (.invokevirtual 149, 3) := by decide +kernel
theorem dX7_isBowlRefused_37 : decode cX7_isBowlRefused 37 = .ok (.istore 5, 2) := by decide +kernel
theorem dX7_isBowlRefused_39 : decode cX7_isBowlRefused 39 = .ok (.goto 77, 3) := by decide +kernel
theorem dX7_isBowlRefused_42 : decode cX7_isBowlRefused 42 = .ok (.aload 4, 2) := by decide +kernel
theorem dX7_isBowlRefused_44 : decode cX7_isBowlRefused 44 = .ok (.getfield 235, 3) := by decide +kernel
theorem dX7_isBowlRefused_47 : decode cX7_isBowlRefused 47 = .ok (.ifCond .eq 19, 3) := by decide +kernel
theorem dX7_isBowlRefused_50 : decode cX7_isBowlRefused 50 = .ok (.aload_n 0, 1) := by decide +kernel
theorem dX7_isBowlRefused_51 : decode cX7_isBowlRefused 51 = .ok (.bipush 7, 2) := by decide +kernel
theorem dX7_isBowlRefused_53 : decode cX7_isBowlRefused 53 = .ok (.aload 4, 2) := by decide +kernel
theorem dX7_isBowlRefused_55 : decode cX7_isBowlRefused 55 = .ok (.getfield 232, 3) := by decide +kernel
theorem dX7_isBowlRefused_58 : decode cX7_isBowlRefused 58 = .ok (.invokevirtual 149, 3) := by decide +kernel
theorem dX7_isBowlRefused_61 : decode cX7_isBowlRefused 61 = .ok (.istore 5, 2) := by decide +kernel
theorem dX7_isBowlRefused_63 : decode cX7_isBowlRefused 63 = .ok (.goto 53, 3) := by decide +kernel
theorem dX7_isBowlRefused_66 : decode cX7_isBowlRefused 66 = .ok (.aload_n 3, 1) := by decide +kernel
theorem dX7_isBowlRefused_67 : decode cX7_isBowlRefused 67 = .ok (.getfield 220, 3) := by decide +kernel
theorem dX7_isBowlRefused_70 : decode cX7_isBowlRefused 70 = .ok (.aload 4, 2) := by decide +kernel
theorem dX7_isBowlRefused_72 : decode cX7_isBowlRefused 72 = .ok (.getfield 224, 3) := by decide +kernel
theorem dX7_isBowlRefused_75 : decode cX7_isBowlRefused 75 = .ok (.iaload, 1) := by decide +kernel
theorem dX7_isBowlRefused_76 : decode cX7_isBowlRefused 76 = .ok (.iconst 4, 1) := by decide +kernel
theorem dX7_isBowlRefused_77 : decode cX7_isBowlRefused 77 = .ok (.if_icmp .lt 15, 3) := by decide +kernel
theorem dX7_isBowlRefused_80 : decode cX7_isBowlRefused 80 = .ok (.aload_n 0, 1) := by decide +kernel
theorem dX7_isBowlRefused_81 : decode cX7_isBowlRefused 81 = .ok (.bipush 8, 2) := by decide +kernel
theorem dX7_isBowlRefused_83 : decode cX7_isBowlRefused 83 = .ok (.iconst 4, 1) := by decide +kernel
theorem dX7_isBowlRefused_84 : decode cX7_isBowlRefused 84 = .ok (.invokevirtual 149, 3) := by decide +kernel
theorem dX7_isBowlRefused_87 : decode cX7_isBowlRefused 87 = .ok (.istore 5, 2) := by decide +kernel
theorem dX7_isBowlRefused_89 : decode cX7_isBowlRefused 89 = .ok (.goto 27, 3) := by decide +kernel
theorem dX7_isBowlRefused_92 : decode cX7_isBowlRefused 92 = .ok (.aload_n 3, 1) := by decide +kernel
theorem dX7_isBowlRefused_93 : decode cX7_isBowlRefused 93 = .ok (.getfield 201, 3) := by decide +kernel
theorem dX7_isBowlRefused_96 : decode cX7_isBowlRefused 96 = .ok (.aload 4, 2) := by decide +kernel
theorem dX7_isBowlRefused_98 : decode cX7_isBowlRefused 98 = .ok (.getfield 224, 3) := by decide +kernel
theorem dX7_isBowlRefused_101 : decode cX7_isBowlRefused 101 = .ok (.if_icmp .eq 15, 3) := by decide +kernel
theorem dX7_isBowlRefused_104 : decode cX7_isBowlRefused 104 = .ok (.aload_n 0, 1) := by decide +kernel
theorem dX7_isBowlRefused_105 : decode cX7_isBowlRefused 105 = .ok (.bipush 6, 2) := by decide +kernel
theorem dX7_isBowlRefused_107 : decode cX7_isBowlRefused 107 = .ok (.aload_n 3, 1) := by decide +kernel
theorem dX7_isBowlRefused_108 : decode cX7_isBowlRefused 108 = .ok (.getfield 201, 3) := by decide +kernel
theorem dX7_isBowlRefused_111 : decode cX7_isBowlRefused 111 = .ok (.invokevirtual 149, 3) := by decide +kernel
theorem dX7_isBowlRefused_114 : decode cX7_isBowlRefused 114 = .ok (.istore 5, 2) := by decide +kernel
theorem dX7_isBowlRefused_116 : decode cX7_isBowlRefused 116 = .ok (.iload 5, 2) := by decide +kernel
theorem dX7_isBowlRefused_118 : decode cX7_isBowlRefused 118 = .ok (.bipush (-3), 2) := by decide +kernel
theorem dX7_isBowlRefused_120 : decode cX7_isBowlRefused 120 = .ok (.if_icmp .ne 7, 3) := by decide +kernel
theorem dX7_isBowlRefused_123 : decode cX7_isBowlRefused 123 = .ok (.iconst 1, 1) := by decide +kernel
theorem dX7_isBowlRefused_124 : decode cX7_isBowlRefused 124 = .ok (.goto 4, 3) := by decide +kernel
theorem dX7_isBowlRefused_127 : decode cX7_isBowlRefused 127 = .ok (.iconst 0, 1) := by decide +kernel
theorem dX7_isBowlRefused_128 : decode cX7_isBowlRefused 128 = .ok (.ireturn, 1) := by decide +kernel
theorem dX7_closeEnd_0 : decode cX7_closeEnd 0 = .ok (.aload_n 0, 1) := by decide +kernel
theorem dX7_closeEnd_1 : decode cX7_closeEnd 1 = .ok (.getfield 12, 3) := by decide +kernel
theorem dX7_closeEnd_4 : decode cX7_closeEnd 4 = .ok (.iload_n 1, 1) := by decide +kernel
theorem dX7_closeEnd_5 : decode cX7_closeEnd 5 = .ok (.invokevirtual 179, 3) := by decide +kernel
theorem dX7_closeEnd_8 : decode cX7_closeEnd 8 = .ok (.ifCond .ne 5, 3) := by decide +kernel
theorem dX7_closeEnd_11 : decode cX7_closeEnd 11 = .ok (.iconst (-1), 1) := by decide +kernel
theorem dX7_closeEnd_12 : decode cX7_closeEnd 12 = .ok (.ireturn, 1) := by decide +kernel
theorem dX7_closeEnd_13 : decode cX7_closeEnd 13 = .ok (.aload_n 0, 1) := by decide +kernel
theorem dX7_closeEnd_14 : decode cX7_closeEnd 14 = .ok (.getfield 12, 3) := by decide +kernel
theorem dX7_closeEnd_17 : decode cX7_closeEnd 17 = .ok (.getfield 155, 3) := by decide +kernel
theorem dX7_closeEnd_20 : decode cX7_closeEnd 20 = .ok (.iload_n 1, 1) := by decide +kernel
theorem dX7_closeEnd_21 : decode cX7_closeEnd 21 = .ok (.aaload, 1) := by decide +kernel
theorem dX7_closeEnd_22 : decode cX7_closeEnd 22 = .ok (.astore_n 2, 1) := by decide +kernel
theorem dX7_closeEnd_23 : decode cX7_closeEnd 23 = .ok (.aload_n 2, 1) := by decide +kernel
theorem dX7_closeEnd_24 : decode cX7_closeEnd 24 = .ok (.invokevirtual 182, 3) := by decide +kernel
theorem dX7_closeEnd_27 : decode cX7_closeEnd 27 = .ok (.ifCond .ne 10, 3) := by decide +kernel
theorem dX7_closeEnd_30 : decode cX7_closeEnd 30 = .ok (.aload_n 0, 1) := by decide +kernel
theorem dX7_closeEnd_31 : decode cX7_closeEnd 31 = .ok (.iconst 5, 1) := by decide +kernel
theorem dX7_closeEnd_32 : decode cX7_closeEnd 32 = .ok (.iload_n 1, 1) := by decide +kernel
theorem dX7_closeEnd_33 : decode cX7_closeEnd 33 = .ok (.invokevirtual 149, 3) := by decide +kernel
theorem dX7_closeEnd_36 : decode cX7_closeEnd 36 = .ok (.ireturn, 1) := by decide +kernel
theorem dX7_closeEnd_37 : decode cX7_closeEnd 37 = .ok (.aload_n 0, 1) := by decide +kernel
theorem dX7_closeEnd_38 : decode cX7_closeEnd 38 = .ok (.getfield 12, 3) := by decide +kernel
theorem dX7_closeEnd_41 : decode cX7_closeEnd 41 = .ok (.iload_n 1, 1) := by decide +kernel
theorem dX7_closeEnd_42 : decode cX7_closeEnd 42 = .ok (.invokevirtual 248, 3) := by decide +kernel
theorem dX7_closeEnd_45 : decode cX7_closeEnd 45 = .ok (.istore_n 3, 1) := by decide +kernel
theorem dX7_closeEnd_46 : decode cX7_closeEnd 46 = .ok (.iload_n 3, 1) := by decide +kernel
theorem dX7_closeEnd_47 : decode cX7_closeEnd 47 = .ok (.ifCond .le 63, 3) := by decide +kernel
theorem dX7_closeEnd_50 : decode cX7_closeEnd 50 = .ok (.iload_n 3, 1) := by decide +kernel
theorem dX7_closeEnd_51 : decode cX7_closeEnd 51 = .ok (.bipush 10, 2) := by decide +kernel
theorem dX7_closeEnd_53 : decode cX7_closeEnd 53 = .ok (.if_icmp .le 7, 3) := by decide +kernel
theorem dX7_closeEnd_56 : decode cX7_closeEnd 56 = .ok (.iconst 1, 1) := by decide +kernel
theorem dX7_closeEnd_57 : decode cX7_closeEnd 57 = .ok (.goto 4, 3) := by decide +kernel
theorem dX7_closeEnd_60 : decode cX7_closeEnd 60 = .ok (.iconst 0, 1) := by decide +kernel
theorem dX7_closeEnd_61 : decode cX7_closeEnd 61 = .ok (.istore 4, 2) := by decide +kernel
theorem dX7_closeEnd_63 : decode cX7_closeEnd 63 = .ok (.aload_n 0, 1) := by decide +kernel
theorem dX7_closeEnd_64 : decode cX7_closeEnd 64 = .ok (.getfield 12, 3) := by decide +kernel
theorem dX7_closeEnd_67 : decode cX7_closeEnd 67 = .ok (.getfield 251, 3) := by decide +kernel
theorem dX7_closeEnd_70 : decode cX7_closeEnd 70 = .ok (.iload 4, 2) := by decide +kernel
theorem dX7_closeEnd_72 : decode cX7_closeEnd 72 = .ok (.aaload, 1) := by decide +kernel
theorem dX7_closeEnd_73 : decode cX7_closeEnd 73 = .ok (.dup, 1) := by decide +kernel
theorem dX7_closeEnd_74 : decode cX7_closeEnd 74 = .ok (.getfield 255, 3) := by decide +kernel
theorem dX7_closeEnd_77 : decode cX7_closeEnd 77 = .ok (.iload_n 3, 1) := by decide +kernel
theorem dX7_closeEnd_78 : decode cX7_closeEnd 78 = .ok (.bipush 10, 2) := by decide +kernel
theorem dX7_closeEnd_80 : decode cX7_closeEnd 80 = .ok (.irem, 1) := by decide +kernel
theorem dX7_closeEnd_81 : decode cX7_closeEnd 81 = .ok (.iadd, 1) := by decide +kernel
theorem dX7_closeEnd_82 : decode cX7_closeEnd 82 = .ok (.putfield 255, 3) := by decide +kernel
theorem dX7_closeEnd_85 : decode cX7_closeEnd 85 = .ok (.aload_n 0, 1) := by decide +kernel
theorem dX7_closeEnd_86 : decode cX7_closeEnd 86 = .ok (.getfield 12, 3) := by decide +kernel
theorem dX7_closeEnd_89 : decode cX7_closeEnd 89 = .ok (.getfield 251, 3) := by decide +kernel
theorem dX7_closeEnd_92 : decode cX7_closeEnd 92 = .ok (.iload 4, 2) := by decide +kernel
theorem dX7_closeEnd_94 : decode cX7_closeEnd 94 = .ok (.aaload, 1) := by decide +kernel
theorem dX7_closeEnd_95 : decode cX7_closeEnd 95 = .ok (.dup, 1) := by decide +kernel
theorem dX7_closeEnd_96 : decode cX7_closeEnd 96 = .ok (.getfield 260, 3) := by decide +kernel
theorem dX7_closeEnd_99 : decode cX7_closeEnd 99 = .ok (.iconst 1, 1) := by decide +kernel
theorem dX7_closeEnd_100 : decode cX7_closeEnd 100 = .ok (.iadd, 1) := by decide +kernel
theorem dX7_closeEnd_101 : decode cX7_closeEnd 101 = .ok (.putfield 260, 3) := by decide +kernel
theorem dX7_closeEnd_104 : decode cX7_closeEnd 104 = .ok (.aload_n 2, 1) := by decide +kernel
theorem dX7_closeEnd_105 : decode cX7_closeEnd 105 = .ok (.iload 4, 2) := by decide +kernel
theorem dX7_closeEnd_107 : decode cX7_closeEnd 107 = .ok (.putfield 263, 3) := by decide +kernel
theorem dX7_closeEnd_110 : decode cX7_closeEnd 110 = .ok (.aload_n 2, 1) := by decide +kernel
theorem dX7_closeEnd_111 : decode cX7_closeEnd 111 = .ok (.invokevirtual 266, 3) := by decide +kernel
theorem dX7_closeEnd_114 : decode cX7_closeEnd 114 = .ok (.aload_n 0, 1) := by decide +kernel
theorem dX7_closeEnd_115 : decode cX7_closeEnd 115 = .ok (.getfield 12, 3) := by decide +kernel
theorem dX7_closeEnd_118 : decode cX7_closeEnd 118 = .ok (.iload_n 1, 1) := by decide +kernel
theorem dX7_closeEnd_119 : decode cX7_closeEnd 119 = .ok (.invokevirtual 269, 3) := by decide +kernel
theorem dX7_closeEnd_122 : decode cX7_closeEnd 122 = .ok (.iload_n 3, 1) := by decide +kernel
theorem dX7_closeEnd_123 : decode cX7_closeEnd 123 = .ok (.ireturn, 1) := by decide +kernel
theorem dX7_sweepRink_0 : decode cX7_sweepRink 0 = .ok (.aload_n 0, 1) := by decide +kernel
theorem dX7_sweepRink_1 : decode cX7_sweepRink 1 = .ok (.getfield 12, 3) := by decide +kernel
theorem dX7_sweepRink_4 : decode cX7_sweepRink 4 = .ok (.iload_n 1, 1) := by decide +kernel
theorem dX7_sweepRink_5 : decode cX7_sweepRink 5 = .ok (.invokevirtual 179, 3) := by decide +kernel
theorem dX7_sweepRink_8 : decode cX7_sweepRink 8 = .ok (.ifCond .ne 5, 3) := by decide +kernel
theorem dX7_sweepRink_11 : decode cX7_sweepRink 11 = .ok (.iconst (-1), 1) := by decide +kernel
theorem dX7_sweepRink_12 : decode cX7_sweepRink 12 = .ok (.ireturn, 1) := by decide +kernel
theorem dX7_sweepRink_13 : decode cX7_sweepRink 13 = .ok (.aload_n 0, 1) := by decide +kernel
theorem dX7_sweepRink_14 : decode cX7_sweepRink 14 = .ok (.getfield 12, 3) := by decide +kernel
theorem dX7_sweepRink_17 : decode cX7_sweepRink 17 = .ok (.getfield 155, 3) := by decide +kernel
theorem dX7_sweepRink_20 : decode cX7_sweepRink 20 = .ok (.iload_n 1, 1) := by decide +kernel
theorem dX7_sweepRink_21 : decode cX7_sweepRink 21 = .ok (.aaload, 1) := by decide +kernel
theorem dX7_sweepRink_22 : decode cX7_sweepRink 22 = .ok (.getfield 272, 3) := by decide +kernel
theorem dX7_sweepRink_25 : decode cX7_sweepRink 25 = .ok (.istore_n 2, 1) := by decide +kernel
theorem dX7_sweepRink_26 : decode cX7_sweepRink 26 = .ok (.iload_n 2, 1) := by decide +kernel
theorem dX7_sweepRink_27 : decode cX7_sweepRink 27 = .ok (.ifCond .ne 11, 3) := by decide +kernel
theorem dX7_sweepRink_30 : decode cX7_sweepRink 30 = .ok (.aload_n 0, 1) := by decide +kernel
theorem dX7_sweepRink_31 : decode cX7_sweepRink 31 = .ok (.bipush 9, 2) := by decide +kernel
theorem dX7_sweepRink_33 : decode cX7_sweepRink 33 = .ok (.iload_n 1, 1) := by decide +kernel
theorem dX7_sweepRink_34 : decode cX7_sweepRink 34 = .ok (.invokevirtual 149, 3) := by decide +kernel
theorem dX7_sweepRink_37 : decode cX7_sweepRink 37 = .ok (.ireturn, 1) := by decide +kernel
theorem dX7_sweepRink_38 : decode cX7_sweepRink 38 = .ok (.iload_n 2, 1) := by decide +kernel
theorem dX7_sweepRink_39 : decode cX7_sweepRink 39 = .ok (.iconst 3, 1) := by decide +kernel
theorem dX7_sweepRink_40 : decode cX7_sweepRink 40 = .ok (.iadd, 1) := by decide +kernel
theorem dX7_sweepRink_41 : decode cX7_sweepRink 41 = .ok (.iconst 1, 1) := by decide +kernel
theorem dX7_sweepRink_42 : decode cX7_sweepRink 42 = .ok (.isub, 1) := by decide +kernel
theorem dX7_sweepRink_43 : decode cX7_sweepRink 43 = .ok (.iconst 3, 1) := by decide +kernel
theorem dX7_sweepRink_44 : decode cX7_sweepRink 44 = .ok (.idiv, 1) := by decide +kernel
theorem dX7_sweepRink_45 : decode cX7_sweepRink 45 = .ok (.istore_n 3, 1) := by decide +kernel
theorem dX7_sweepRink_46 : decode cX7_sweepRink 46 = .ok (.iload_n 3, 1) := by decide +kernel
theorem dX7_sweepRink_47 : decode cX7_sweepRink 47 = .ok (.aload_n 0, 1) := by decide +kernel
theorem dX7_sweepRink_48 : decode cX7_sweepRink 48 = .ok (.getfield 12, 3) := by decide +kernel
theorem dX7_sweepRink_51 : decode cX7_sweepRink 51 = .ok (.getfield 275, 3) := by decide +kernel
theorem dX7_sweepRink_54 : decode cX7_sweepRink 54 = .ok (.if_icmp .le 19, 3) := by decide +kernel
theorem dX7_sweepRink_57 : decode cX7_sweepRink 57 = .ok (.aload_n 0, 1) := by decide +kernel
theorem dX7_sweepRink_58 : decode cX7_sweepRink 58 = .ok (.bipush 10, 2) := by decide +kernel
theorem dX7_sweepRink_60 : decode cX7_sweepRink 60 = .ok (.iload_n 3, 1) := by decide +kernel
theorem dX7_sweepRink_61 : decode cX7_sweepRink 61 = .ok (.aload_n 0, 1) := by decide +kernel
theorem dX7_sweepRink_62 : decode cX7_sweepRink 62 = .ok (.getfield 12, 3) := by decide +kernel
theorem dX7_sweepRink_65 : decode cX7_sweepRink 65 = .ok (.getfield 275, 3) := by decide +kernel
theorem dX7_sweepRink_68 : decode cX7_sweepRink 68 = .ok (.isub, 1) := by decide +kernel
theorem dX7_sweepRink_69 : decode cX7_sweepRink 69 = .ok (.invokevirtual 149, 3) := by decide +kernel
theorem dX7_sweepRink_72 : decode cX7_sweepRink 72 = .ok (.ireturn, 1) := by decide +kernel
theorem dX7_sweepRink_73 : decode cX7_sweepRink 73 = .ok (.aload_n 0, 1) := by decide +kernel
theorem dX7_sweepRink_74 : decode cX7_sweepRink 74 = .ok (.getfield 12, 3) := by decide +kernel
theorem dX7_sweepRink_77 : decode cX7_sweepRink 77 = .ok (.iload_n 3, 1) := by decide +kernel
theorem dX7_sweepRink_78 : decode cX7_sweepRink 78 = .ok (.invokevirtual 278, 3) := by decide +kernel
theorem dX7_sweepRink_81 : decode cX7_sweepRink 81 = .ok (.aload_n 0, 1) := by decide +kernel
theorem dX7_sweepRink_82 : decode cX7_sweepRink 82 = .ok (.getfield 12, 3) := by decide +kernel
theorem dX7_sweepRink_85 : decode cX7_sweepRink 85 = .ok (.getfield 155, 3) := by decide +kernel
theorem dX7_sweepRink_88 : decode cX7_sweepRink 88 = .ok (.iload_n 1, 1) := by decide +kernel
theorem dX7_sweepRink_89 : decode cX7_sweepRink 89 = .ok (.aaload, 1) := by decide +kernel
theorem dX7_sweepRink_90 : decode cX7_sweepRink 90 = .ok (.iconst 0, 1) := by decide +kernel
theorem dX7_sweepRink_91 : decode cX7_sweepRink 91 = .ok (.putfield 272, 3) := by decide +kernel
theorem dX7_sweepRink_94 : decode cX7_sweepRink 94 = .ok (.aload_n 0, 1) := by decide +kernel
theorem dX7_sweepRink_95 : decode cX7_sweepRink 95 = .ok (.getfield 12, 3) := by decide +kernel
theorem dX7_sweepRink_98 : decode cX7_sweepRink 98 = .ok (.dup, 1) := by decide +kernel
theorem dX7_sweepRink_99 : decode cX7_sweepRink 99 = .ok (.getfield 281, 3) := by decide +kernel
theorem dX7_sweepRink_102 : decode cX7_sweepRink 102 = .ok (.iload_n 2, 1) := by decide +kernel
theorem dX7_sweepRink_103 : decode cX7_sweepRink 103 = .ok (.iadd, 1) := by decide +kernel
theorem dX7_sweepRink_104 : decode cX7_sweepRink 104 = .ok (.putfield 281, 3) := by decide +kernel
theorem dX7_sweepRink_107 : decode cX7_sweepRink 107 = .ok (.iload_n 2, 1) := by decide +kernel
theorem dX7_sweepRink_108 : decode cX7_sweepRink 108 = .ok (.ireturn, 1) := by decide +kernel
theorem dX7_setRain_0 : decode cX7_setRain 0 = .ok (.iload_n 1, 1) := by decide +kernel
theorem dX7_setRain_1 : decode cX7_setRain 1 = .ok (.invokestatic 284, 3) := by decide +kernel
theorem dX7_setRain_4 : decode cX7_setRain 4 = .ok (.ifCond .ne 6, 3) := by decide +kernel
theorem dX7_setRain_7 : decode cX7_setRain 7 = .ok (.bipush (-2), 2) := by decide +kernel
theorem dX7_setRain_9 : decode cX7_setRain 9 = .ok (.ireturn, 1) := by decide +kernel
theorem dX7_setRain_10 : decode cX7_setRain 10 = .ok (.aload_n 0, 1) := by decide +kernel
theorem dX7_setRain_11 : decode cX7_setRain 11 = .ok (.getfield 12, 3) := by decide +kernel
theorem dX7_setRain_14 : decode cX7_setRain 14 = .ok (.getfield 287, 3) := by decide +kernel
theorem dX7_setRain_17 : decode cX7_setRain 17 = .ok (.istore_n 2, 1) := by decide +kernel
theorem dX7_setRain_18 : decode cX7_setRain 18 = .ok (.aload_n 0, 1) := by decide +kernel
theorem dX7_setRain_19 : decode cX7_setRain 19 = .ok (.getfield 12, 3) := by decide +kernel
theorem dX7_setRain_22 : decode cX7_setRain 22 = .ok (.iload_n 1, 1) := by decide +kernel
theorem dX7_setRain_23 : decode cX7_setRain 23 = .ok (.putfield 287, 3) := by decide +kernel
theorem dX7_setRain_26 : decode cX7_setRain 26 = .ok (.iload_n 2, 1) := by decide +kernel
theorem dX7_setRain_27 : decode cX7_setRain 27 = .ok (.ireturn, 1) := by decide +kernel
theorem dX7_setSun_0 : decode cX7_setSun 0 = .ok (.iload_n 1, 1) := by decide +kernel
theorem dX7_setSun_1 : decode cX7_setSun 1 = .ok (.invokestatic 284, 3) := by decide +kernel
theorem dX7_setSun_4 : decode cX7_setSun 4 = .ok (.ifCond .ne 6, 3) := by decide +kernel
theorem dX7_setSun_7 : decode cX7_setSun 7 = .ok (.bipush (-2), 2) := by decide +kernel
theorem dX7_setSun_9 : decode cX7_setSun 9 = .ok (.ireturn, 1) := by decide +kernel
theorem dX7_setSun_10 : decode cX7_setSun 10 = .ok (.aload_n 0, 1) := by decide +kernel
theorem dX7_setSun_11 : decode cX7_setSun 11 = .ok (.getfield 12, 3) := by decide +kernel
theorem dX7_setSun_14 : decode cX7_setSun 14 = .ok (.getfield 290, 3) := by decide +kernel
theorem dX7_setSun_17 : decode cX7_setSun 17 = .ok (.istore_n 2, 1) := by decide +kernel
theorem dX7_setSun_18 : decode cX7_setSun 18 = .ok (.aload_n 0, 1) := by decide +kernel
theorem dX7_setSun_19 : decode cX7_setSun 19 = .ok (.getfield 12, 3) := by decide +kernel
theorem dX7_setSun_22 : decode cX7_setSun 22 = .ok (.iload_n 1, 1) := by decide +kernel
theorem dX7_setSun_23 : decode cX7_setSun 23 = .ok (.putfield 290, 3) := by decide +kernel
theorem dX7_setSun_26 : decode cX7_setSun 26 = .ok (.iload_n 2, 1) := by decide +kernel
theorem dX7_setSun_27 : decode cX7_setSun 27 = .ok (.ireturn, 1) := by decide +kernel
theorem dX7_brewCups_0 : decode cX7_brewCups 0 = .ok (.iload_n 1, 1) := by decide +kernel
theorem dX7_brewCups_1 : decode cX7_brewCups 1 = .ok (.iconst 1, 1) := by decide +kernel
theorem dX7_brewCups_2 : decode cX7_brewCups 2 = .ok (.if_icmp .lt 9, 3) := by decide +kernel
theorem dX7_brewCups_5 : decode cX7_brewCups 5 = .ok (.iload_n 1, 1) := by decide +kernel
theorem dX7_brewCups_6 : decode cX7_brewCups 6 = .ok (.bipush 20, 2) := by decide +kernel
theorem dX7_brewCups_8 : decode cX7_brewCups 8 = .ok (.if_icmp .le 6, 3) := by decide +kernel
theorem dX7_brewCups_11 : decode cX7_brewCups 11 = .ok (.bipush (-2), 2) := by decide +kernel
theorem dX7_brewCups_13 : decode cX7_brewCups 13 = .ok (.ireturn, 1) := by decide +kernel
theorem dX7_brewCups_14 : decode cX7_brewCups 14 = .ok (.aload_n 0, 1) := by decide +kernel
theorem dX7_brewCups_15 : decode cX7_brewCups 15 = .ok (.getfield 12, 3) := by decide +kernel
theorem dX7_brewCups_18 : decode cX7_brewCups 18 = .ok (.bipush 40, 2) := by decide +kernel
theorem dX7_brewCups_20 : decode cX7_brewCups 20 = .ok (.aload_n 0, 1) := by decide +kernel
theorem dX7_brewCups_21 : decode cX7_brewCups 21 = .ok (.getfield 12, 3) := by decide +kernel
theorem dX7_brewCups_24 : decode cX7_brewCups 24 = .ok (.getfield 275, 3) := by decide +kernel
theorem dX7_brewCups_27 : decode cX7_brewCups 27 = .ok (.iload_n 1, 1) := by decide +kernel
theorem dX7_brewCups_28 : decode cX7_brewCups 28 = .ok (.iadd, 1) := by decide +kernel
theorem dX7_brewCups_29 : decode cX7_brewCups 29 = .ok (.invokestatic 293, 3) := by decide +kernel
theorem dX7_brewCups_32 : decode cX7_brewCups 32 = .ok (.putfield 275, 3) := by decide +kernel
theorem dX7_brewCups_35 : decode cX7_brewCups 35 = .ok (.aload_n 0, 1) := by decide +kernel
theorem dX7_brewCups_36 : decode cX7_brewCups 36 = .ok (.getfield 12, 3) := by decide +kernel
theorem dX7_brewCups_39 : decode cX7_brewCups 39 = .ok (.getfield 275, 3) := by decide +kernel
theorem dX7_brewCups_42 : decode cX7_brewCups 42 = .ok (.ireturn, 1) := by decide +kernel
theorem dX7_giveTea_0 : decode cX7_giveTea 0 = .ok (.iload_n 1, 1) := by decide +kernel
theorem dX7_giveTea_1 : decode cX7_giveTea 1 = .ok (.invokestatic 164, 3) := by decide +kernel
theorem dX7_giveTea_4 : decode cX7_giveTea 4 = .ok (.ifCond .ne 5, 3) := by decide +kernel
theorem dX7_giveTea_7 : decode cX7_giveTea 7 = .ok (.iconst (-1), 1) := by decide +kernel
theorem dX7_giveTea_8 : decode cX7_giveTea 8 = .ok (.ireturn, 1) := by decide +kernel
theorem dX7_giveTea_9 : decode cX7_giveTea 9 = .ok (.aload_n 0, 1) := by decide +kernel
theorem dX7_giveTea_10 : decode cX7_giveTea 10 = .ok (.getfield 12, 3) := by decide +kernel
theorem dX7_giveTea_13 : decode cX7_giveTea 13 = .ok (.getfield 275, 3) := by decide +kernel
theorem dX7_giveTea_16 : decode cX7_giveTea 16 = .ok (.iconst 1, 1) := by decide +kernel
theorem dX7_giveTea_17 : decode cX7_giveTea 17 = .ok (.if_icmp .ge 19, 3) := by decide +kernel
theorem dX7_giveTea_20 : decode cX7_giveTea 20 = .ok (.aload_n 0, 1) := by decide +kernel
theorem dX7_giveTea_21 : decode cX7_giveTea 21 = .ok (.bipush 10, 2) := by decide +kernel
theorem dX7_giveTea_23 : decode cX7_giveTea 23 = .ok (.iconst 1, 1) := by decide +kernel
theorem dX7_giveTea_24 : decode cX7_giveTea 24 = .ok (.aload_n 0, 1) := by decide +kernel
theorem dX7_giveTea_25 : decode cX7_giveTea 25 = .ok (.getfield 12, 3) := by decide +kernel
theorem dX7_giveTea_28 : decode cX7_giveTea 28 = .ok (.getfield 275, 3) := by decide +kernel
theorem dX7_giveTea_31 : decode cX7_giveTea 31 = .ok (.isub, 1) := by decide +kernel
theorem dX7_giveTea_32 : decode cX7_giveTea 32 = .ok (.invokevirtual 149, 3) := by decide +kernel
theorem dX7_giveTea_35 : decode cX7_giveTea 35 = .ok (.ireturn, 1) := by decide +kernel
theorem dX7_giveTea_36 : decode cX7_giveTea 36 = .ok (.aload_n 0, 1) := by decide +kernel
theorem dX7_giveTea_37 : decode cX7_giveTea 37 = .ok (.getfield 12, 3) := by decide +kernel
theorem dX7_giveTea_40 : decode cX7_giveTea 40 = .ok (.getfield 251, 3) := by decide +kernel
theorem dX7_giveTea_43 : decode cX7_giveTea 43 = .ok (.iload_n 1, 1) := by decide +kernel
theorem dX7_giveTea_44 : decode cX7_giveTea 44 = .ok (.aaload, 1) := by decide +kernel
theorem dX7_giveTea_45 : decode cX7_giveTea 45 = .ok (.astore_n 2, 1) := by decide +kernel
theorem dX7_giveTea_46 : decode cX7_giveTea 46 = .ok (.aload_n 2, 1) := by decide +kernel
theorem dX7_giveTea_47 : decode cX7_giveTea 47 = .ok (.getfield 298, 3) := by decide +kernel
theorem dX7_giveTea_50 : decode cX7_giveTea 50 = .ok (.iconst 1, 1) := by decide +kernel
theorem dX7_giveTea_51 : decode cX7_giveTea 51 = .ok (.if_icmp .ge 11, 3) := by decide +kernel
theorem dX7_giveTea_54 : decode cX7_giveTea 54 = .ok (.aload_n 0, 1) := by decide +kernel
theorem dX7_giveTea_55 : decode cX7_giveTea 55 = .ok (.bipush 11, 2) := by decide +kernel
theorem dX7_giveTea_57 : decode cX7_giveTea 57 = .ok (.iload_n 1, 1) := by decide +kernel
theorem dX7_giveTea_58 : decode cX7_giveTea 58 = .ok (.invokevirtual 149, 3) := by decide +kernel
theorem dX7_giveTea_61 : decode cX7_giveTea 61 = .ok (.ireturn, 1) := by decide +kernel
theorem dX7_giveTea_62 : decode cX7_giveTea 62 = .ok (.aload_n 0, 1) := by decide +kernel
theorem dX7_giveTea_63 : decode cX7_giveTea 63 = .ok (.getfield 12, 3) := by decide +kernel
theorem dX7_giveTea_66 : decode cX7_giveTea 66 = .ok (.iconst 1, 1) := by decide +kernel
theorem dX7_giveTea_67 : decode cX7_giveTea 67 = .ok (.invokevirtual 278, 3) := by decide +kernel
theorem dX7_giveTea_70 : decode cX7_giveTea 70 = .ok (.aload_n 2, 1) := by decide +kernel
theorem dX7_giveTea_71 : decode cX7_giveTea 71 = .ok (.dup, 1) := by decide +kernel
theorem dX7_giveTea_72 : decode cX7_giveTea 72 = .ok (.getfield 298, 3) := by decide +kernel
theorem dX7_giveTea_75 : decode cX7_giveTea 75 = .ok (.iconst 1, 1) := by decide +kernel
theorem dX7_giveTea_76 : decode cX7_giveTea 76 = .ok (.isub, 1) := by decide +kernel
theorem dX7_giveTea_77 : decode cX7_giveTea 77 = .ok (.putfield 298, 3) := by decide +kernel
theorem dX7_giveTea_80 : decode cX7_giveTea 80 = .ok (.aload_n 2, 1) := by decide +kernel
theorem dX7_giveTea_81 : decode cX7_giveTea 81 = .ok (.dup, 1) := by decide +kernel
theorem dX7_giveTea_82 : decode cX7_giveTea 82 = .ok (.getfield 301, 3) := by decide +kernel
theorem dX7_giveTea_85 : decode cX7_giveTea 85 = .ok (.iconst 1, 1) := by decide +kernel
theorem dX7_giveTea_86 : decode cX7_giveTea 86 = .ok (.iadd, 1) := by decide +kernel
theorem dX7_giveTea_87 : decode cX7_giveTea 87 = .ok (.putfield 301, 3) := by decide +kernel
theorem dX7_giveTea_90 : decode cX7_giveTea 90 = .ok (.aload_n 2, 1) := by decide +kernel
theorem dX7_giveTea_91 : decode cX7_giveTea 91 = .ok (.getfield 301, 3) := by decide +kernel
theorem dX7_giveTea_94 : decode cX7_giveTea 94 = .ok (.ireturn, 1) := by decide +kernel
theorem dX7_passHours_0 : decode cX7_passHours 0 = .ok (.iload_n 1, 1) := by decide +kernel
theorem dX7_passHours_1 : decode cX7_passHours 1 = .ok (.iconst 1, 1) := by decide +kernel
theorem dX7_passHours_2 : decode cX7_passHours 2 = .ok (.if_icmp .lt 9, 3) := by decide +kernel
theorem dX7_passHours_5 : decode cX7_passHours 5 = .ok (.iload_n 1, 1) := by decide +kernel
theorem dX7_passHours_6 : decode cX7_passHours 6 = .ok (.bipush 24, 2) := by decide +kernel
theorem dX7_passHours_8 : decode cX7_passHours 8 = .ok (.if_icmp .le 6, 3) := by decide +kernel
theorem dX7_passHours_11 : decode cX7_passHours 11 = .ok (.bipush (-2), 2) := by decide +kernel
theorem dX7_passHours_13 : decode cX7_passHours 13 = .ok (.ireturn, 1) := by decide +kernel
theorem dX7_passHours_14 : decode cX7_passHours 14 = .ok (.iconst 0, 1) := by decide +kernel
theorem dX7_passHours_15 : decode cX7_passHours 15 = .ok (.istore_n 2, 1) := by decide +kernel
theorem dX7_passHours_16 : decode cX7_passHours 16 = .ok (.iload_n 2, 1) := by decide +kernel
theorem dX7_passHours_17 : decode cX7_passHours 17 = .ok (.iload_n 1, 1) := by decide +kernel
theorem dX7_passHours_18 : decode cX7_passHours 18 = .ok (.if_icmp .ge 16, 3) := by decide +kernel
theorem dX7_passHours_21 : decode cX7_passHours 21 = .ok (.aload_n 0, 1) := by decide +kernel
theorem dX7_passHours_22 : decode cX7_passHours 22 = .ok (.getfield 12, 3) := by decide +kernel
theorem dX7_passHours_25 : decode cX7_passHours 25 = .ok (.invokevirtual 304, 3) := by decide +kernel
theorem dX7_passHours_28 : decode cX7_passHours 28 = .ok (.iinc 2 1, 3) := by decide +kernel
theorem dX7_passHours_31 : decode cX7_passHours 31 = .ok (.goto (-15), 3) := by decide +kernel
theorem dX7_passHours_34 : decode cX7_passHours 34 = .ok (.aload_n 0, 1) := by decide +kernel
theorem dX7_passHours_35 : decode cX7_passHours 35 = .ok (.getfield 12, 3) := by decide +kernel
theorem dX7_passHours_38 : decode cX7_passHours 38 = .ok (.invokevirtual 307, 3) := by decide +kernel
theorem dX7_passHours_41 : decode cX7_passHours 41 = .ok (.ireturn, 1) := by decide +kernel
theorem dX7_keepFault_0 : decode cX7_keepFault 0 = .ok (.aload_n 0, 1) := by decide +kernel
theorem dX7_keepFault_1 : decode cX7_keepFault 1 = .ok (.aload_n 0, 1) := by decide +kernel
theorem dX7_keepFault_2 : decode cX7_keepFault 2 = .ok (.getfield 40, 3) := by decide +kernel
theorem dX7_keepFault_5 : decode cX7_keepFault 5 = .ok (.getfield 310, 3) := by decide +kernel
theorem dX7_keepFault_8 : decode cX7_keepFault 8 = .ok (.putfield 44, 3) := by decide +kernel
theorem dX7_keepFault_11 : decode cX7_keepFault 11 = .ok (.bipush (-2), 2) := by decide +kernel
theorem dX7_keepFault_13 : decode cX7_keepFault 13 = .ok (.ireturn, 1) := by decide +kernel
theorem dX7_carryOutOrders_0 : decode cX7_carryOutOrders 0 = .ok (.iconst 0, 1) := by decide +kernel
theorem dX7_carryOutOrders_1 : decode cX7_carryOutOrders 1 = .ok (.istore_n 1, 1) := by decide +kernel
theorem dX7_carryOutOrders_2 : decode cX7_carryOutOrders 2 = .ok (.iload_n 1, 1) := by decide +kernel
theorem dX7_carryOutOrders_3 : decode cX7_carryOutOrders 3 = .ok (.aload_n 0, 1) := by decide +kernel
theorem dX7_carryOutOrders_4 : decode cX7_carryOutOrders 4 = .ok (.getfield 40, 3) := by decide +kernel
theorem dX7_carryOutOrders_7 : decode cX7_carryOutOrders 7 = .ok (.getfield 313, 3) := by decide +kernel
theorem dX7_carryOutOrders_10 : decode cX7_carryOutOrders 10 = .ok (.if_icmp .ge 40, 3) := by decide +kernel
theorem dX7_carryOutOrders_13 : decode cX7_carryOutOrders 13 = .ok (.aload_n 0, 1) := by decide +kernel
theorem dX7_carryOutOrders_14 : decode cX7_carryOutOrders 14 = .ok (.iload_n 1, 1) := by decide +kernel
theorem dX7_carryOutOrders_15 : decode cX7_carryOutOrders 15 = .ok (.invokevirtual 316, 3) := by decide +kernel
theorem dX7_carryOutOrders_18 : decode cX7_carryOutOrders 18 = .ok (.istore_n 2, 1) := by decide +kernel
theorem dX7_carryOutOrders_19 : decode cX7_carryOutOrders 19 = .ok (.iload_n 2, 1) := by decide +kernel
theorem dX7_carryOutOrders_20 : decode cX7_carryOutOrders 20 = .ok (.invokestatic 132, 3) := by decide +kernel
theorem dX7_carryOutOrders_23 : decode cX7_carryOutOrders 23 = .ok (.ifCond .eq 21, 3) := by decide +kernel
theorem dX7_carryOutOrders_26 : decode cX7_carryOutOrders 26 = .ok (.aload_n 0, 1) := by decide +kernel
theorem dX7_carryOutOrders_27 : decode cX7_carryOutOrders 27 = .ok (.getfield 26, 3) := by decide +kernel
theorem dX7_carryOutOrders_30 : decode cX7_carryOutOrders 30 = .ok (.aload_n 0, 1) := by decide +kernel
theorem dX7_carryOutOrders_31 : decode cX7_carryOutOrders 31 = .ok (.getfield 12, 3) := by decide +kernel
theorem dX7_carryOutOrders_34 : decode cX7_carryOutOrders 34 = .ok (.invokevirtual 319, 3) := by decide +kernel
theorem dX7_carryOutOrders_37 : decode cX7_carryOutOrders 37 = .ok (.aload_n 0, 1) := by decide +kernel
theorem dX7_carryOutOrders_38 : decode cX7_carryOutOrders 38 = .ok (.iload_n 1, 1) := by decide +kernel
theorem dX7_carryOutOrders_39 : decode cX7_carryOutOrders 39 = .ok (.iload_n 2, 1) := by decide +kernel
theorem dX7_carryOutOrders_40 : decode cX7_carryOutOrders 40 = .ok (.invokevirtual 322, 3) := by decide +kernel
theorem dX7_carryOutOrders_43 : decode cX7_carryOutOrders 43 = .ok (.ireturn, 1) := by decide +kernel
theorem dX7_carryOutOrders_44 : decode cX7_carryOutOrders 44 = .ok (.iinc 1 1, 3) := by decide +kernel
theorem dX7_carryOutOrders_47 : decode cX7_carryOutOrders 47 = .ok (.goto (-45), 3) := by decide +kernel
theorem dX7_carryOutOrders_50 : decode cX7_carryOutOrders 50 = .ok (.aload_n 0, 1) := by decide +kernel
theorem dX7_carryOutOrders_51 : decode cX7_carryOutOrders 51 = .ok (.getfield 40, 3) := by decide +kernel
theorem dX7_carryOutOrders_54 : decode cX7_carryOutOrders 54 = .ok (.getfield 313, 3) := by decide +kernel
theorem dX7_carryOutOrders_57 : decode cX7_carryOutOrders 57 = .ok (.ireturn, 1) := by decide +kernel
theorem dX7_carryOut_0 : decode cX7_carryOut 0 = .ok (.aload_n 0, 1) := by decide +kernel
theorem dX7_carryOut_1 : decode cX7_carryOut 1 = .ok (.getfield 40, 3) := by decide +kernel
theorem dX7_carryOut_4 : decode cX7_carryOut 4 = .ok (.iload_n 1, 1) := by decide +kernel
theorem dX7_carryOut_5 : decode cX7_carryOut 5 = .ok (.iconst 0, 1) := by decide +kernel
theorem dX7_carryOut_6 : decode cX7_carryOut 6 = .ok (.invokevirtual 325, 3) := by decide +kernel
theorem dX7_carryOut_9 : decode cX7_carryOut 9 = .ok (.istore_n 2, 1) := by decide +kernel
theorem dX7_carryOut_10 : decode cX7_carryOut 10 = .ok (.aload_n 0, 1) := by decide +kernel
theorem dX7_carryOut_11 : decode cX7_carryOut 11 = .ok (.getfield 40, 3) := by decide +kernel
theorem dX7_carryOut_14 : decode cX7_carryOut 14 = .ok (.iload_n 1, 1) := by decide +kernel
theorem dX7_carryOut_15 : decode cX7_carryOut 15 = .ok (.iconst 1, 1) := by decide +kernel
theorem dX7_carryOut_16 : decode cX7_carryOut 16 = .ok (.invokevirtual 325, 3) := by decide +kernel
theorem dX7_carryOut_19 : decode cX7_carryOut 19 = .ok (.istore_n 3, 1) := by decide +kernel
theorem dX7_carryOut_20 : decode cX7_carryOut 20 = .ok (.aload_n 0, 1) := by decide +kernel
theorem dX7_carryOut_21 : decode cX7_carryOut 21 = .ok (.getfield 40, 3) := by decide +kernel
theorem dX7_carryOut_24 : decode cX7_carryOut 24 = .ok (.getfield 328, 3) := by decide +kernel
theorem dX7_carryOut_27 : decode cX7_carryOut 27 = .ok (.iload_n 1, 1) := by decide +kernel
theorem dX7_carryOut_28 : decode cX7_carryOut 28 = .ok (.iaload, 1) := by decide +kernel
theorem dX7_carryOut_29 : decode cX7_carryOut 29 = .ok (.tableswitch 183 98 119 #[110, 153, 183, 103, 183, 183, 183, 183, 183, 183, 183, 183, 183, 183, 183, 183, 165, 171, 177, 183, 183, 159], 103) := by decide +kernel
theorem dX7_carryOut_132 : decode cX7_carryOut 132 = .ok (.aload_n 0, 1) := by decide +kernel
theorem dX7_carryOut_133 : decode cX7_carryOut 133 = .ok (.iload_n 2, 1) := by decide +kernel
theorem dX7_carryOut_134 : decode cX7_carryOut 134 = .ok (.iload_n 3, 1) := by decide +kernel
theorem dX7_carryOut_135 : decode cX7_carryOut 135 = .ok (.invokevirtual 90, 3) := by decide +kernel
theorem dX7_carryOut_138 : decode cX7_carryOut 138 = .ok (.ireturn, 1) := by decide +kernel
theorem dX7_carryOut_139 : decode cX7_carryOut 139 = .ok (.aload_n 0, 1) := by decide +kernel
theorem dX7_carryOut_140 : decode cX7_carryOut 140 = .ok (.iload_n 2, 1) := by decide +kernel
theorem dX7_carryOut_141 : decode cX7_carryOut 141 = .ok (.iload_n 3, 1) := by decide +kernel
theorem dX7_carryOut_142 : decode cX7_carryOut 142 = .ok (.aload_n 0, 1) := by decide +kernel
theorem dX7_carryOut_143 : decode cX7_carryOut 143 = .ok (.getfield 40, 3) := by decide +kernel
theorem dX7_carryOut_146 : decode cX7_carryOut 146 = .ok (.iload_n 1, 1) := by decide +kernel
theorem dX7_carryOut_147 : decode cX7_carryOut 147 = .ok (.iconst 2, 1) := by decide +kernel
theorem dX7_carryOut_148 : decode cX7_carryOut 148 = .ok (.invokevirtual 325, 3) := by decide +kernel
theorem dX7_carryOut_151 : decode cX7_carryOut 151 = .ok (.aload_n 0, 1) := by decide +kernel
theorem dX7_carryOut_152 : decode cX7_carryOut 152 = .ok (.getfield 40, 3) := by decide +kernel
theorem dX7_carryOut_155 : decode cX7_carryOut 155 = .ok (.iload_n 1, 1) := by decide +kernel
theorem dX7_carryOut_156 : decode cX7_carryOut 156 = .ok (.iconst 3, 1) := by decide +kernel
theorem dX7_carryOut_157 : decode cX7_carryOut 157 = .ok (.invokevirtual 325, 3) := by decide +kernel
theorem dX7_carryOut_160 : decode cX7_carryOut 160 = .ok (.aload_n 0, 1) := by decide +kernel
theorem dX7_carryOut_161 : decode cX7_carryOut 161 = .ok (.getfield 40, 3) := by decide +kernel
theorem dX7_carryOut_164 : decode cX7_carryOut 164 = .ok (.iload_n 1, 1) := by decide +kernel
theorem dX7_carryOut_165 : decode cX7_carryOut 165 = .ok (.iconst 4, 1) := by decide +kernel
theorem dX7_carryOut_166 : decode cX7_carryOut 166 = .ok (.invokevirtual 325, 3) := by decide +kernel
theorem dX7_carryOut_169 : decode cX7_carryOut 169 = .ok (.iconst 1, 1) := by decide +kernel
theorem dX7_carryOut_170 : decode cX7_carryOut 170 = .ok (.if_icmp .ne 7, 3) := by decide +kernel
theorem dX7_carryOut_173 : decode cX7_carryOut 173 = .ok (.iconst 1, 1) := by decide +kernel
theorem dX7_carryOut_174 : decode cX7_carryOut 174 = .ok (.goto 4, 3) := by decide +kernel
theorem dX7_carryOut_177 : decode cX7_carryOut 177 = .ok (.iconst 0, 1) := by decide +kernel
theorem dX7_carryOut_178 : decode cX7_carryOut 178 = .ok (.invokevirtual 93, 3) := by decide +kernel
theorem dX7_carryOut_181 : decode cX7_carryOut 181 = .ok (.ireturn, 1) := by decide +kernel
theorem dX7_carryOut_182 : decode cX7_carryOut 182 = .ok (.aload_n 0, 1) := by decide +kernel
theorem dX7_carryOut_183 : decode cX7_carryOut 183 = .ok (.iload_n 2, 1) := by decide +kernel
theorem dX7_carryOut_184 : decode cX7_carryOut 184 = .ok (.invokevirtual 97, 3) := by decide +kernel
theorem dX7_carryOut_187 : decode cX7_carryOut 187 = .ok (.ireturn, 1) := by decide +kernel
theorem dX7_carryOut_188 : decode cX7_carryOut 188 = .ok (.aload_n 0, 1) := by decide +kernel
theorem dX7_carryOut_189 : decode cX7_carryOut 189 = .ok (.iload_n 2, 1) := by decide +kernel
theorem dX7_carryOut_190 : decode cX7_carryOut 190 = .ok (.invokevirtual 100, 3) := by decide +kernel
theorem dX7_carryOut_193 : decode cX7_carryOut 193 = .ok (.ireturn, 1) := by decide +kernel
theorem dX7_carryOut_194 : decode cX7_carryOut 194 = .ok (.aload_n 0, 1) := by decide +kernel
theorem dX7_carryOut_195 : decode cX7_carryOut 195 = .ok (.iload_n 2, 1) := by decide +kernel
theorem dX7_carryOut_196 : decode cX7_carryOut 196 = .ok (.invokevirtual 103, 3) := by decide +kernel
theorem dX7_carryOut_199 : decode cX7_carryOut 199 = .ok (.ireturn, 1) := by decide +kernel
theorem dX7_carryOut_200 : decode cX7_carryOut 200 = .ok (.aload_n 0, 1) := by decide +kernel
theorem dX7_carryOut_201 : decode cX7_carryOut 201 = .ok (.iload_n 2, 1) := by decide +kernel
theorem dX7_carryOut_202 : decode cX7_carryOut 202 = .ok (.invokevirtual 106, 3) := by decide +kernel
theorem dX7_carryOut_205 : decode cX7_carryOut 205 = .ok (.ireturn, 1) := by decide +kernel
theorem dX7_carryOut_206 : decode cX7_carryOut 206 = .ok (.aload_n 0, 1) := by decide +kernel
theorem dX7_carryOut_207 : decode cX7_carryOut 207 = .ok (.iload_n 2, 1) := by decide +kernel
theorem dX7_carryOut_208 : decode cX7_carryOut 208 = .ok (.invokevirtual 112, 3) := by decide +kernel
theorem dX7_carryOut_211 : decode cX7_carryOut 211 = .ok (.ireturn, 1) := by decide +kernel
theorem dX7_carryOut_212 : decode cX7_carryOut 212 = .ok (.aload_n 0, 1) := by decide +kernel
theorem dX7_carryOut_213 : decode cX7_carryOut 213 = .ok (.iload_n 2, 1) := by decide +kernel
theorem dX7_carryOut_214 : decode cX7_carryOut 214 = .ok (.invokevirtual 115, 3) := by decide +kernel
theorem dX7_carryOut_217 : decode cX7_carryOut 217 = .ok (.ireturn, 1) := by decide +kernel
theorem dX7_refuseScript_0 : decode cX7_refuseScript 0 = .ok (.iload_n 2, 1) := by decide +kernel
theorem dX7_refuseScript_1 : decode cX7_refuseScript 1 = .ok (.bipush (-3), 2) := by decide +kernel
theorem dX7_refuseScript_3 : decode cX7_refuseScript 3 = .ok (.if_icmp .eq 10, 3) := by decide +kernel
theorem dX7_refuseScript_6 : decode cX7_refuseScript 6 = .ok (.aload_n 0, 1) := by decide +kernel
theorem dX7_refuseScript_7 : decode cX7_refuseScript 7 = .ok (.getfield 51, 3) := by decide +kernel
theorem dX7_refuseScript_10 : decode cX7_refuseScript 10 = .ok (.invokevirtual 139, 3) := by decide +kernel
theorem dX7_refuseScript_13 : decode cX7_refuseScript 13 = .ok (.aload_n 0, 1) := by decide +kernel
theorem dX7_refuseScript_14 : decode cX7_refuseScript 14 = .ok (.getfield 51, 3) := by decide +kernel
theorem dX7_refuseScript_17 : decode cX7_refuseScript 17 = .ok (.bipush 12, 2) := by decide +kernel
theorem dX7_refuseScript_19 : decode cX7_refuseScript 19 = .ok (.iload_n 1, 1) := by decide +kernel
theorem dX7_refuseScript_20 : decode cX7_refuseScript 20 = .ok (.invokevirtual 142, 3) := by decide +kernel
theorem dX7_refuseScript_23 : decode cX7_refuseScript 23 = .ok (.bipush (-3), 2) := by decide +kernel
theorem dX7_refuseScript_25 : decode cX7_refuseScript 25 = .ok (.ireturn, 1) := by decide +kernel
theorem dX7_fault_0 : decode cX7_fault 0 = .ok (.aload_n 0, 1) := by decide +kernel
theorem dX7_fault_1 : decode cX7_fault 1 = .ok (.getfield 44, 3) := by decide +kernel
theorem dX7_fault_4 : decode cX7_fault 4 = .ok (.ireturn, 1) := by decide +kernel
theorem dX7_reason_0 : decode cX7_reason 0 = .ok (.iload_n 1, 1) := by decide +kernel
theorem dX7_reason_1 : decode cX7_reason 1 = .ok (.ifCond .ge 6, 3) := by decide +kernel
theorem dX7_reason_4 : decode cX7_reason 4 = .ok (.bipush (-2), 2) := by decide +kernel
theorem dX7_reason_6 : decode cX7_reason 6 = .ok (.ireturn, 1) := by decide +kernel
theorem dX7_reason_7 : decode cX7_reason 7 = .ok (.aload_n 0, 1) := by decide +kernel
theorem dX7_reason_8 : decode cX7_reason 8 = .ok (.getfield 51, 3) := by decide +kernel
theorem dX7_reason_11 : decode cX7_reason 11 = .ok (.iload_n 1, 1) := by decide +kernel
theorem dX7_reason_12 : decode cX7_reason 12 = .ok (.iload_n 2, 1) := by decide +kernel
theorem dX7_reason_13 : decode cX7_reason 13 = .ok (.invokevirtual 331, 3) := by decide +kernel
theorem dX7_reason_16 : decode cX7_reason 16 = .ok (.ireturn, 1) := by decide +kernel
theorem dX7_rinkOf_0 : decode cX7_rinkOf 0 = .ok (.aload_n 0, 1) := by decide +kernel
theorem dX7_rinkOf_1 : decode cX7_rinkOf 1 = .ok (.getfield 12, 3) := by decide +kernel
theorem dX7_rinkOf_4 : decode cX7_rinkOf 4 = .ok (.iload_n 1, 1) := by decide +kernel
theorem dX7_rinkOf_5 : decode cX7_rinkOf 5 = .ok (.invokevirtual 179, 3) := by decide +kernel
theorem dX7_rinkOf_8 : decode cX7_rinkOf 8 = .ok (.ifCond .ne 5, 3) := by decide +kernel
theorem dX7_rinkOf_11 : decode cX7_rinkOf 11 = .ok (.iconst (-1), 1) := by decide +kernel
theorem dX7_rinkOf_12 : decode cX7_rinkOf 12 = .ok (.ireturn, 1) := by decide +kernel
theorem dX7_rinkOf_13 : decode cX7_rinkOf 13 = .ok (.aload_n 0, 1) := by decide +kernel
theorem dX7_rinkOf_14 : decode cX7_rinkOf 14 = .ok (.getfield 12, 3) := by decide +kernel
theorem dX7_rinkOf_17 : decode cX7_rinkOf 17 = .ok (.getfield 155, 3) := by decide +kernel
theorem dX7_rinkOf_20 : decode cX7_rinkOf 20 = .ok (.iload_n 1, 1) := by decide +kernel
theorem dX7_rinkOf_21 : decode cX7_rinkOf 21 = .ok (.aaload, 1) := by decide +kernel
theorem dX7_rinkOf_22 : decode cX7_rinkOf 22 = .ok (.astore_n 3, 1) := by decide +kernel
theorem dX7_rinkOf_23 : decode cX7_rinkOf 23 = .ok (.iload_n 2, 1) := by decide +kernel
theorem dX7_rinkOf_24 : decode cX7_rinkOf 24 = .ok (.tableswitch 107 0 8 #[52, 57, 62, 67, 72, 77, 82, 92, 102], 52) := by decide +kernel
theorem dX7_rinkOf_76 : decode cX7_rinkOf 76 = .ok (.aload_n 3, 1) := by decide +kernel
theorem dX7_rinkOf_77 : decode cX7_rinkOf 77 = .ok (.getfield 335, 3) := by decide +kernel
theorem dX7_rinkOf_80 : decode cX7_rinkOf 80 = .ok (.ireturn, 1) := by decide +kernel
theorem dX7_rinkOf_81 : decode cX7_rinkOf 81 = .ok (.aload_n 3, 1) := by decide +kernel
theorem dX7_rinkOf_82 : decode cX7_rinkOf 82 = .ok (.getfield 338, 3) := by decide +kernel
theorem dX7_rinkOf_85 : decode cX7_rinkOf 85 = .ok (.ireturn, 1) := by decide +kernel
theorem dX7_rinkOf_86 : decode cX7_rinkOf 86 = .ok (.aload_n 3, 1) := by decide +kernel
theorem dX7_rinkOf_87 : decode cX7_rinkOf 87 = .ok (.getfield 189, 3) := by decide +kernel
theorem dX7_rinkOf_90 : decode cX7_rinkOf 90 = .ok (.ireturn, 1) := by decide +kernel
theorem dX7_rinkOf_91 : decode cX7_rinkOf 91 = .ok (.aload_n 3, 1) := by decide +kernel
theorem dX7_rinkOf_92 : decode cX7_rinkOf 92 = .ok (.getfield 272, 3) := by decide +kernel
theorem dX7_rinkOf_95 : decode cX7_rinkOf 95 = .ok (.ireturn, 1) := by decide +kernel
theorem dX7_rinkOf_96 : decode cX7_rinkOf 96 = .ok (.aload_n 3, 1) := by decide +kernel
theorem dX7_rinkOf_97 : decode cX7_rinkOf 97 = .ok (.getfield 186, 3) := by decide +kernel
theorem dX7_rinkOf_100 : decode cX7_rinkOf 100 = .ok (.ireturn, 1) := by decide +kernel
theorem dX7_rinkOf_101 : decode cX7_rinkOf 101 = .ok (.aload_n 3, 1) := by decide +kernel
theorem dX7_rinkOf_102 : decode cX7_rinkOf 102 = .ok (.getfield 201, 3) := by decide +kernel
theorem dX7_rinkOf_105 : decode cX7_rinkOf 105 = .ok (.ireturn, 1) := by decide +kernel
theorem dX7_rinkOf_106 : decode cX7_rinkOf 106 = .ok (.aload_n 0, 1) := by decide +kernel
theorem dX7_rinkOf_107 : decode cX7_rinkOf 107 = .ok (.getfield 12, 3) := by decide +kernel
theorem dX7_rinkOf_110 : decode cX7_rinkOf 110 = .ok (.iload_n 1, 1) := by decide +kernel
theorem dX7_rinkOf_111 : decode cX7_rinkOf 111 = .ok (.iconst 1, 1) := by decide +kernel
theorem dX7_rinkOf_112 : decode cX7_rinkOf 112 = .ok (.invokevirtual 341, 3) := by decide +kernel
theorem dX7_rinkOf_115 : decode cX7_rinkOf 115 = .ok (.ireturn, 1) := by decide +kernel
theorem dX7_rinkOf_116 : decode cX7_rinkOf 116 = .ok (.aload_n 0, 1) := by decide +kernel
theorem dX7_rinkOf_117 : decode cX7_rinkOf 117 = .ok (.getfield 12, 3) := by decide +kernel
theorem dX7_rinkOf_120 : decode cX7_rinkOf 120 = .ok (.iload_n 1, 1) := by decide +kernel
theorem dX7_rinkOf_121 : decode cX7_rinkOf 121 = .ok (.iconst 2, 1) := by decide +kernel
theorem dX7_rinkOf_122 : decode cX7_rinkOf 122 = .ok (.invokevirtual 341, 3) := by decide +kernel
theorem dX7_rinkOf_125 : decode cX7_rinkOf 125 = .ok (.ireturn, 1) := by decide +kernel
theorem dX7_rinkOf_126 : decode cX7_rinkOf 126 = .ok (.aload_n 3, 1) := by decide +kernel
theorem dX7_rinkOf_127 : decode cX7_rinkOf 127 = .ok (.getfield 344, 3) := by decide +kernel
theorem dX7_rinkOf_130 : decode cX7_rinkOf 130 = .ok (.ireturn, 1) := by decide +kernel
theorem dX7_rinkOf_131 : decode cX7_rinkOf 131 = .ok (.bipush (-2), 2) := by decide +kernel
theorem dX7_rinkOf_133 : decode cX7_rinkOf 133 = .ok (.ireturn, 1) := by decide +kernel
theorem dX7_woodOf_0 : decode cX7_woodOf 0 = .ok (.aload_n 0, 1) := by decide +kernel
theorem dX7_woodOf_1 : decode cX7_woodOf 1 = .ok (.getfield 12, 3) := by decide +kernel
theorem dX7_woodOf_4 : decode cX7_woodOf 4 = .ok (.iload_n 1, 1) := by decide +kernel
theorem dX7_woodOf_5 : decode cX7_woodOf 5 = .ok (.invokevirtual 204, 3) := by decide +kernel
theorem dX7_woodOf_8 : decode cX7_woodOf 8 = .ok (.ifCond .ne 5, 3) := by decide +kernel
theorem dX7_woodOf_11 : decode cX7_woodOf 11 = .ok (.iconst (-1), 1) := by decide +kernel
theorem dX7_woodOf_12 : decode cX7_woodOf 12 = .ok (.ireturn, 1) := by decide +kernel
theorem dX7_woodOf_13 : decode cX7_woodOf 13 = .ok (.aload_n 0, 1) := by decide +kernel
theorem dX7_woodOf_14 : decode cX7_woodOf 14 = .ok (.getfield 12, 3) := by decide +kernel
theorem dX7_woodOf_17 : decode cX7_woodOf 17 = .ok (.getfield 170, 3) := by decide +kernel
theorem dX7_woodOf_20 : decode cX7_woodOf 20 = .ok (.iload_n 1, 1) := by decide +kernel
theorem dX7_woodOf_21 : decode cX7_woodOf 21 = .ok (.aaload, 1) := by decide +kernel
theorem dX7_woodOf_22 : decode cX7_woodOf 22 = .ok (.astore_n 3, 1) := by decide +kernel
theorem dX7_woodOf_23 : decode cX7_woodOf 23 = .ok (.aload_n 3, 1) := by decide +kernel
theorem dX7_woodOf_24 : decode cX7_woodOf 24 = .ok (.getfield 235, 3) := by decide +kernel
theorem dX7_woodOf_27 : decode cX7_woodOf 27 = .ok (.iconst 1, 1) := by decide +kernel
theorem dX7_woodOf_28 : decode cX7_woodOf 28 = .ok (.if_icmp .ne 7, 3) := by decide +kernel
end
section
theorem dX7_woodOf_31 : decode cX7_woodOf 31 = .ok (.iconst 1, 1) := by decide +kernel
theorem dX7_woodOf_32 : decode cX7_woodOf 32 = .ok (.goto 4, 3) := by decide +kernel
theorem dX7_woodOf_35 : decode cX7_woodOf 35 = .ok (.iconst 0, 1) := by decide +kernel
theorem dX7_woodOf_36 : decode cX7_woodOf 36 = .ok (.istore 4, 2) := by decide +kernel
theorem dX7_woodOf_38 : decode cX7_woodOf 38 = .ok (.iload_n 2, 1) := by decide +kernel
theorem dX7_woodOf_39 : decode cX7_woodOf 39 = .ok (.tableswitch 127 0 7 #[45, 50, 55, 60, 77, 92, 107, 122], 45) := by decide +kernel
theorem dX7_woodOf_84 : decode cX7_woodOf 84 = .ok (.aload_n 3, 1) := by decide +kernel
theorem dX7_woodOf_85 : decode cX7_woodOf 85 = .ok (.getfield 224, 3) := by decide +kernel
theorem dX7_woodOf_88 : decode cX7_woodOf 88 = .ok (.ireturn, 1) := by decide +kernel
theorem dX7_woodOf_89 : decode cX7_woodOf 89 = .ok (.aload_n 3, 1) := by decide +kernel
theorem dX7_woodOf_90 : decode cX7_woodOf 90 = .ok (.getfield 347, 3) := by decide +kernel
theorem dX7_woodOf_93 : decode cX7_woodOf 93 = .ok (.ireturn, 1) := by decide +kernel
theorem dX7_woodOf_94 : decode cX7_woodOf 94 = .ok (.aload_n 3, 1) := by decide +kernel
theorem dX7_woodOf_95 : decode cX7_woodOf 95 = .ok (.getfield 235, 3) := by decide +kernel
theorem dX7_woodOf_98 : decode cX7_woodOf 98 = .ok (.ireturn, 1) := by decide +kernel
theorem dX7_woodOf_99 : decode cX7_woodOf 99 = .ok (.aload_n 3, 1) := by decide +kernel
theorem dX7_woodOf_100 : decode cX7_woodOf 100 = .ok (.getfield 235, 3) := by decide +kernel
theorem dX7_woodOf_103 : decode cX7_woodOf 103 = .ok (.ifCond .ne 8, 3) := by decide +kernel
theorem dX7_woodOf_106 : decode cX7_woodOf 106 = .ok (.bipush (-4), 2) := by decide +kernel
theorem dX7_woodOf_108 : decode cX7_woodOf 108 = .ok (.goto 7, 3) := by decide +kernel
theorem dX7_woodOf_111 : decode cX7_woodOf 111 = .ok (.aload_n 3, 1) := by decide +kernel
theorem dX7_woodOf_112 : decode cX7_woodOf 112 = .ok (.getfield 232, 3) := by decide +kernel
theorem dX7_woodOf_115 : decode cX7_woodOf 115 = .ok (.ireturn, 1) := by decide +kernel
theorem dX7_woodOf_116 : decode cX7_woodOf 116 = .ok (.iload 4, 2) := by decide +kernel
theorem dX7_woodOf_118 : decode cX7_woodOf 118 = .ok (.ifCond .eq 10, 3) := by decide +kernel
theorem dX7_woodOf_121 : decode cX7_woodOf 121 = .ok (.aload_n 3, 1) := by decide +kernel
theorem dX7_woodOf_122 : decode cX7_woodOf 122 = .ok (.getfield 238, 3) := by decide +kernel
theorem dX7_woodOf_125 : decode cX7_woodOf 125 = .ok (.goto 5, 3) := by decide +kernel
theorem dX7_woodOf_128 : decode cX7_woodOf 128 = .ok (.bipush (-4), 2) := by decide +kernel
theorem dX7_woodOf_130 : decode cX7_woodOf 130 = .ok (.ireturn, 1) := by decide +kernel
theorem dX7_woodOf_131 : decode cX7_woodOf 131 = .ok (.iload 4, 2) := by decide +kernel
theorem dX7_woodOf_133 : decode cX7_woodOf 133 = .ok (.ifCond .eq 10, 3) := by decide +kernel
theorem dX7_woodOf_136 : decode cX7_woodOf 136 = .ok (.aload_n 3, 1) := by decide +kernel
theorem dX7_woodOf_137 : decode cX7_woodOf 137 = .ok (.getfield 241, 3) := by decide +kernel
theorem dX7_woodOf_140 : decode cX7_woodOf 140 = .ok (.goto 5, 3) := by decide +kernel
theorem dX7_woodOf_143 : decode cX7_woodOf 143 = .ok (.bipush (-4), 2) := by decide +kernel
theorem dX7_woodOf_145 : decode cX7_woodOf 145 = .ok (.ireturn, 1) := by decide +kernel
theorem dX7_woodOf_146 : decode cX7_woodOf 146 = .ok (.iload 4, 2) := by decide +kernel
theorem dX7_woodOf_148 : decode cX7_woodOf 148 = .ok (.ifCond .eq 10, 3) := by decide +kernel
theorem dX7_woodOf_151 : decode cX7_woodOf 151 = .ok (.aload_n 3, 1) := by decide +kernel
theorem dX7_woodOf_152 : decode cX7_woodOf 152 = .ok (.getfield 246, 3) := by decide +kernel
theorem dX7_woodOf_155 : decode cX7_woodOf 155 = .ok (.goto 5, 3) := by decide +kernel
theorem dX7_woodOf_158 : decode cX7_woodOf 158 = .ok (.bipush (-4), 2) := by decide +kernel
theorem dX7_woodOf_160 : decode cX7_woodOf 160 = .ok (.ireturn, 1) := by decide +kernel
theorem dX7_woodOf_161 : decode cX7_woodOf 161 = .ok (.aload_n 3, 1) := by decide +kernel
theorem dX7_woodOf_162 : decode cX7_woodOf 162 = .ok (.getfield 230, 3) := by decide +kernel
theorem dX7_woodOf_165 : decode cX7_woodOf 165 = .ok (.ireturn, 1) := by decide +kernel
theorem dX7_woodOf_166 : decode cX7_woodOf 166 = .ok (.bipush (-2), 2) := by decide +kernel
theorem dX7_woodOf_168 : decode cX7_woodOf 168 = .ok (.ireturn, 1) := by decide +kernel
theorem dX7_clubOf_0 : decode cX7_clubOf 0 = .ok (.iload_n 1, 1) := by decide +kernel
theorem dX7_clubOf_1 : decode cX7_clubOf 1 = .ok (.invokestatic 164, 3) := by decide +kernel
theorem dX7_clubOf_4 : decode cX7_clubOf 4 = .ok (.ifCond .ne 5, 3) := by decide +kernel
theorem dX7_clubOf_7 : decode cX7_clubOf 7 = .ok (.iconst (-1), 1) := by decide +kernel
theorem dX7_clubOf_8 : decode cX7_clubOf 8 = .ok (.ireturn, 1) := by decide +kernel
theorem dX7_clubOf_9 : decode cX7_clubOf 9 = .ok (.aload_n 0, 1) := by decide +kernel
theorem dX7_clubOf_10 : decode cX7_clubOf 10 = .ok (.getfield 12, 3) := by decide +kernel
theorem dX7_clubOf_13 : decode cX7_clubOf 13 = .ok (.getfield 251, 3) := by decide +kernel
theorem dX7_clubOf_16 : decode cX7_clubOf 16 = .ok (.iload_n 1, 1) := by decide +kernel
theorem dX7_clubOf_17 : decode cX7_clubOf 17 = .ok (.aaload, 1) := by decide +kernel
theorem dX7_clubOf_18 : decode cX7_clubOf 18 = .ok (.astore_n 3, 1) := by decide +kernel
theorem dX7_clubOf_19 : decode cX7_clubOf 19 = .ok (.iload_n 2, 1) := by decide +kernel
theorem dX7_clubOf_20 : decode cX7_clubOf 20 = .ok (.tableswitch 78 0 5 #[40, 45, 50, 55, 60, 69], 40) := by decide +kernel
theorem dX7_clubOf_60 : decode cX7_clubOf 60 = .ok (.aload_n 3, 1) := by decide +kernel
theorem dX7_clubOf_61 : decode cX7_clubOf 61 = .ok (.getfield 255, 3) := by decide +kernel
theorem dX7_clubOf_64 : decode cX7_clubOf 64 = .ok (.ireturn, 1) := by decide +kernel
theorem dX7_clubOf_65 : decode cX7_clubOf 65 = .ok (.aload_n 3, 1) := by decide +kernel
theorem dX7_clubOf_66 : decode cX7_clubOf 66 = .ok (.getfield 260, 3) := by decide +kernel
theorem dX7_clubOf_69 : decode cX7_clubOf 69 = .ok (.ireturn, 1) := by decide +kernel
theorem dX7_clubOf_70 : decode cX7_clubOf 70 = .ok (.aload_n 3, 1) := by decide +kernel
theorem dX7_clubOf_71 : decode cX7_clubOf 71 = .ok (.getfield 298, 3) := by decide +kernel
theorem dX7_clubOf_74 : decode cX7_clubOf 74 = .ok (.ireturn, 1) := by decide +kernel
theorem dX7_clubOf_75 : decode cX7_clubOf 75 = .ok (.aload_n 3, 1) := by decide +kernel
theorem dX7_clubOf_76 : decode cX7_clubOf 76 = .ok (.getfield 301, 3) := by decide +kernel
theorem dX7_clubOf_79 : decode cX7_clubOf 79 = .ok (.ireturn, 1) := by decide +kernel
theorem dX7_clubOf_80 : decode cX7_clubOf 80 = .ok (.aload_n 0, 1) := by decide +kernel
theorem dX7_clubOf_81 : decode cX7_clubOf 81 = .ok (.getfield 12, 3) := by decide +kernel
theorem dX7_clubOf_84 : decode cX7_clubOf 84 = .ok (.iload_n 1, 1) := by decide +kernel
theorem dX7_clubOf_85 : decode cX7_clubOf 85 = .ok (.invokevirtual 350, 3) := by decide +kernel
theorem dX7_clubOf_88 : decode cX7_clubOf 88 = .ok (.ireturn, 1) := by decide +kernel
theorem dX7_clubOf_89 : decode cX7_clubOf 89 = .ok (.aload_n 0, 1) := by decide +kernel
theorem dX7_clubOf_90 : decode cX7_clubOf 90 = .ok (.getfield 12, 3) := by decide +kernel
theorem dX7_clubOf_93 : decode cX7_clubOf 93 = .ok (.iload_n 1, 1) := by decide +kernel
theorem dX7_clubOf_94 : decode cX7_clubOf 94 = .ok (.invokevirtual 353, 3) := by decide +kernel
theorem dX7_clubOf_97 : decode cX7_clubOf 97 = .ok (.ireturn, 1) := by decide +kernel
theorem dX7_clubOf_98 : decode cX7_clubOf 98 = .ok (.bipush (-2), 2) := by decide +kernel
theorem dX7_clubOf_100 : decode cX7_clubOf 100 = .ok (.ireturn, 1) := by decide +kernel
theorem dX7_rinkAt_0 : decode cX7_rinkAt 0 = .ok (.aload_n 0, 1) := by decide +kernel
theorem dX7_rinkAt_1 : decode cX7_rinkAt 1 = .ok (.getfield 12, 3) := by decide +kernel
theorem dX7_rinkAt_4 : decode cX7_rinkAt 4 = .ok (.iload_n 1, 1) := by decide +kernel
theorem dX7_rinkAt_5 : decode cX7_rinkAt 5 = .ok (.invokevirtual 356, 3) := by decide +kernel
theorem dX7_rinkAt_8 : decode cX7_rinkAt 8 = .ok (.ireturn, 1) := by decide +kernel
theorem dX7_nearest_0 : decode cX7_nearest 0 = .ok (.aload_n 0, 1) := by decide +kernel
theorem dX7_nearest_1 : decode cX7_nearest 1 = .ok (.getfield 12, 3) := by decide +kernel
theorem dX7_nearest_4 : decode cX7_nearest 4 = .ok (.iload_n 1, 1) := by decide +kernel
theorem dX7_nearest_5 : decode cX7_nearest 5 = .ok (.invokevirtual 179, 3) := by decide +kernel
theorem dX7_nearest_8 : decode cX7_nearest 8 = .ok (.ifCond .ne 5, 3) := by decide +kernel
theorem dX7_nearest_11 : decode cX7_nearest 11 = .ok (.iconst (-1), 1) := by decide +kernel
theorem dX7_nearest_12 : decode cX7_nearest 12 = .ok (.ireturn, 1) := by decide +kernel
theorem dX7_nearest_13 : decode cX7_nearest 13 = .ok (.aload_n 0, 1) := by decide +kernel
theorem dX7_nearest_14 : decode cX7_nearest 14 = .ok (.getfield 12, 3) := by decide +kernel
theorem dX7_nearest_17 : decode cX7_nearest 17 = .ok (.iload_n 1, 1) := by decide +kernel
theorem dX7_nearest_18 : decode cX7_nearest 18 = .ok (.iload_n 2, 1) := by decide +kernel
theorem dX7_nearest_19 : decode cX7_nearest 19 = .ok (.invokevirtual 359, 3) := by decide +kernel
theorem dX7_nearest_22 : decode cX7_nearest 22 = .ok (.ireturn, 1) := by decide +kernel
theorem dX7_shots_0 : decode cX7_shots 0 = .ok (.aload_n 0, 1) := by decide +kernel
theorem dX7_shots_1 : decode cX7_shots 1 = .ok (.getfield 12, 3) := by decide +kernel
theorem dX7_shots_4 : decode cX7_shots 4 = .ok (.iload_n 1, 1) := by decide +kernel
theorem dX7_shots_5 : decode cX7_shots 5 = .ok (.invokevirtual 179, 3) := by decide +kernel
theorem dX7_shots_8 : decode cX7_shots 8 = .ok (.ifCond .ne 5, 3) := by decide +kernel
theorem dX7_shots_11 : decode cX7_shots 11 = .ok (.iconst (-1), 1) := by decide +kernel
theorem dX7_shots_12 : decode cX7_shots 12 = .ok (.ireturn, 1) := by decide +kernel
theorem dX7_shots_13 : decode cX7_shots 13 = .ok (.aload_n 0, 1) := by decide +kernel
theorem dX7_shots_14 : decode cX7_shots 14 = .ok (.getfield 12, 3) := by decide +kernel
theorem dX7_shots_17 : decode cX7_shots 17 = .ok (.getfield 155, 3) := by decide +kernel
theorem dX7_shots_20 : decode cX7_shots 20 = .ok (.iload_n 1, 1) := by decide +kernel
theorem dX7_shots_21 : decode cX7_shots 21 = .ok (.aaload, 1) := by decide +kernel
theorem dX7_shots_22 : decode cX7_shots 22 = .ok (.invokevirtual 182, 3) := by decide +kernel
theorem dX7_shots_25 : decode cX7_shots 25 = .ok (.ifCond .ne 6, 3) := by decide +kernel
theorem dX7_shots_28 : decode cX7_shots 28 = .ok (.bipush (-4), 2) := by decide +kernel
theorem dX7_shots_30 : decode cX7_shots 30 = .ok (.ireturn, 1) := by decide +kernel
theorem dX7_shots_31 : decode cX7_shots 31 = .ok (.iload_n 2, 1) := by decide +kernel
theorem dX7_shots_32 : decode cX7_shots 32 = .ok (.ifCond .eq 14, 3) := by decide +kernel
theorem dX7_shots_35 : decode cX7_shots 35 = .ok (.aload_n 0, 1) := by decide +kernel
theorem dX7_shots_36 : decode cX7_shots 36 = .ok (.getfield 12, 3) := by decide +kernel
theorem dX7_shots_39 : decode cX7_shots 39 = .ok (.iload_n 1, 1) := by decide +kernel
theorem dX7_shots_40 : decode cX7_shots 40 = .ok (.invokevirtual 362, 3) := by decide +kernel
theorem dX7_shots_43 : decode cX7_shots 43 = .ok (.goto 11, 3) := by decide +kernel
theorem dX7_shots_46 : decode cX7_shots 46 = .ok (.aload_n 0, 1) := by decide +kernel
theorem dX7_shots_47 : decode cX7_shots 47 = .ok (.getfield 12, 3) := by decide +kernel
theorem dX7_shots_50 : decode cX7_shots 50 = .ok (.iload_n 1, 1) := by decide +kernel
theorem dX7_shots_51 : decode cX7_shots 51 = .ok (.invokevirtual 248, 3) := by decide +kernel
theorem dX7_shots_54 : decode cX7_shots 54 = .ok (.ireturn, 1) := by decide +kernel
theorem dX7_would_0 : decode cX7_would 0 = .ok (.aload_n 0, 1) := by decide +kernel
theorem dX7_would_1 : decode cX7_would 1 = .ok (.getfield 12, 3) := by decide +kernel
theorem dX7_would_4 : decode cX7_would 4 = .ok (.iload_n 1, 1) := by decide +kernel
theorem dX7_would_5 : decode cX7_would 5 = .ok (.invokevirtual 179, 3) := by decide +kernel
theorem dX7_would_8 : decode cX7_would 8 = .ok (.ifCond .eq 14, 3) := by decide +kernel
theorem dX7_would_11 : decode cX7_would 11 = .ok (.aload_n 0, 1) := by decide +kernel
theorem dX7_would_12 : decode cX7_would 12 = .ok (.getfield 12, 3) := by decide +kernel
theorem dX7_would_15 : decode cX7_would 15 = .ok (.iload_n 2, 1) := by decide +kernel
theorem dX7_would_16 : decode cX7_would 16 = .ok (.invokevirtual 204, 3) := by decide +kernel
theorem dX7_would_19 : decode cX7_would 19 = .ok (.ifCond .ne 5, 3) := by decide +kernel
theorem dX7_would_22 : decode cX7_would 22 = .ok (.iconst (-1), 1) := by decide +kernel
theorem dX7_would_23 : decode cX7_would 23 = .ok (.ireturn, 1) := by decide +kernel
theorem dX7_would_24 : decode cX7_would 24 = .ok (.aload_n 0, 1) := by decide +kernel
theorem dX7_would_25 : decode cX7_would 25 = .ok (.getfield 12, 3) := by decide +kernel
theorem dX7_would_28 : decode cX7_would 28 = .ok (.getfield 155, 3) := by decide +kernel
theorem dX7_would_31 : decode cX7_would 31 = .ok (.iload_n 1, 1) := by decide +kernel
theorem dX7_would_32 : decode cX7_would 32 = .ok (.aaload, 1) := by decide +kernel
theorem dX7_would_33 : decode cX7_would 33 = .ok (.iload_n 3, 1) := by decide +kernel
theorem dX7_would_34 : decode cX7_would 34 = .ok (.invokevirtual 207, 3) := by decide +kernel
theorem dX7_would_37 : decode cX7_would 37 = .ok (.ifCond .eq 11, 3) := by decide +kernel
theorem dX7_would_40 : decode cX7_would 40 = .ok (.iload 4, 2) := by decide +kernel
theorem dX7_would_42 : decode cX7_would 42 = .ok (.invokestatic 210, 3) := by decide +kernel
theorem dX7_would_45 : decode cX7_would 45 = .ok (.ifCond .ne 6, 3) := by decide +kernel
theorem dX7_would_48 : decode cX7_would 48 = .ok (.bipush (-2), 2) := by decide +kernel
theorem dX7_would_50 : decode cX7_would 50 = .ok (.ireturn, 1) := by decide +kernel
theorem dX7_would_51 : decode cX7_would 51 = .ok (.aload_n 0, 1) := by decide +kernel
theorem dX7_would_52 : decode cX7_would 52 = .ok (.getfield 12, 3) := by decide +kernel
theorem dX7_would_55 : decode cX7_would 55 = .ok (.iload_n 1, 1) := by decide +kernel
theorem dX7_would_56 : decode cX7_would 56 = .ok (.iload_n 2, 1) := by decide +kernel
theorem dX7_would_57 : decode cX7_would 57 = .ok (.iload_n 3, 1) := by decide +kernel
theorem dX7_would_58 : decode cX7_would 58 = .ok (.iload 4, 2) := by decide +kernel
theorem dX7_would_60 : decode cX7_would 60 = .ok (.iload 5, 2) := by decide +kernel
theorem dX7_would_62 : decode cX7_would 62 = .ok (.invokevirtual 217, 3) := by decide +kernel
theorem dX7_would_65 : decode cX7_would 65 = .ok (.ireturn, 1) := by decide +kernel
theorem dX7_bestStrength_0 : decode cX7_bestStrength 0 = .ok (.aload_n 0, 1) := by decide +kernel
theorem dX7_bestStrength_1 : decode cX7_bestStrength 1 = .ok (.getfield 12, 3) := by decide +kernel
theorem dX7_bestStrength_4 : decode cX7_bestStrength 4 = .ok (.iload_n 1, 1) := by decide +kernel
theorem dX7_bestStrength_5 : decode cX7_bestStrength 5 = .ok (.invokevirtual 179, 3) := by decide +kernel
theorem dX7_bestStrength_8 : decode cX7_bestStrength 8 = .ok (.ifCond .eq 14, 3) := by decide +kernel
theorem dX7_bestStrength_11 : decode cX7_bestStrength 11 = .ok (.aload_n 0, 1) := by decide +kernel
theorem dX7_bestStrength_12 : decode cX7_bestStrength 12 = .ok (.getfield 12, 3) := by decide +kernel
theorem dX7_bestStrength_15 : decode cX7_bestStrength 15 = .ok (.iload_n 2, 1) := by decide +kernel
theorem dX7_bestStrength_16 : decode cX7_bestStrength 16 = .ok (.invokevirtual 204, 3) := by decide +kernel
theorem dX7_bestStrength_19 : decode cX7_bestStrength 19 = .ok (.ifCond .ne 5, 3) := by decide +kernel
theorem dX7_bestStrength_22 : decode cX7_bestStrength 22 = .ok (.iconst (-1), 1) := by decide +kernel
theorem dX7_bestStrength_23 : decode cX7_bestStrength 23 = .ok (.ireturn, 1) := by decide +kernel
theorem dX7_bestStrength_24 : decode cX7_bestStrength 24 = .ok (.aload_n 0, 1) := by decide +kernel
theorem dX7_bestStrength_25 : decode cX7_bestStrength 25 = .ok (.getfield 12, 3) := by decide +kernel
theorem dX7_bestStrength_28 : decode cX7_bestStrength 28 = .ok (.getfield 155, 3) := by decide +kernel
theorem dX7_bestStrength_31 : decode cX7_bestStrength 31 = .ok (.iload_n 1, 1) := by decide +kernel
theorem dX7_bestStrength_32 : decode cX7_bestStrength 32 = .ok (.aaload, 1) := by decide +kernel
theorem dX7_bestStrength_33 : decode cX7_bestStrength 33 = .ok (.astore 5, 2) := by decide +kernel
theorem dX7_bestStrength_35 : decode cX7_bestStrength 35 = .ok (.aload 5, 2) := by decide +kernel
theorem dX7_bestStrength_37 : decode cX7_bestStrength 37 = .ok (.iload_n 3, 1) := by decide +kernel
theorem dX7_bestStrength_38 : decode cX7_bestStrength 38 = .ok (.invokevirtual 207, 3) := by decide +kernel
theorem dX7_bestStrength_41 : decode cX7_bestStrength 41 = .ok (.ifCond .ne 6, 3) := by decide +kernel
theorem dX7_bestStrength_44 : decode cX7_bestStrength 44 = .ok (.bipush (-2), 2) := by decide +kernel
theorem dX7_bestStrength_46 : decode cX7_bestStrength 46 = .ok (.ireturn, 1) := by decide +kernel
theorem dX7_bestStrength_47 : decode cX7_bestStrength 47 = .ok (.aload 5, 2) := by decide +kernel
theorem dX7_bestStrength_49 : decode cX7_bestStrength 49 = .ok (.invokevirtual 182, 3) := by decide +kernel
theorem dX7_bestStrength_52 : decode cX7_bestStrength 52 = .ok (.ifCond .ne 6, 3) := by decide +kernel
theorem dX7_bestStrength_55 : decode cX7_bestStrength 55 = .ok (.bipush (-4), 2) := by decide +kernel
theorem dX7_bestStrength_57 : decode cX7_bestStrength 57 = .ok (.ireturn, 1) := by decide +kernel
theorem dX7_bestStrength_58 : decode cX7_bestStrength 58 = .ok (.bipush (-4), 2) := by decide +kernel
theorem dX7_bestStrength_60 : decode cX7_bestStrength 60 = .ok (.istore 6, 2) := by decide +kernel
theorem dX7_bestStrength_62 : decode cX7_bestStrength 62 = .ok (.ldc_w 365, 3) := by decide +kernel
theorem dX7_bestStrength_65 : decode cX7_bestStrength 65 = .ok (.istore 7, 2) := by decide +kernel
theorem dX7_bestStrength_67 : decode cX7_bestStrength 67 = .ok (.iconst 1, 1) := by decide +kernel
theorem dX7_bestStrength_68 : decode cX7_bestStrength 68 = .ok (.istore 8, 2) := by decide +kernel
theorem dX7_bestStrength_70 : decode cX7_bestStrength 70 = .ok (.iload 8, 2) := by decide +kernel
theorem dX7_bestStrength_72 : decode cX7_bestStrength 72 = .ok (.bipush 20, 2) := by decide +kernel
theorem dX7_bestStrength_74 : decode cX7_bestStrength 74 = .ok (.if_icmp .gt 64, 3) := by decide +kernel
theorem dX7_bestStrength_77 : decode cX7_bestStrength 77 = .ok (.aload_n 0, 1) := by decide +kernel
theorem dX7_bestStrength_78 : decode cX7_bestStrength 78 = .ok (.getfield 12, 3) := by decide +kernel
theorem dX7_bestStrength_81 : decode cX7_bestStrength 81 = .ok (.iload_n 1, 1) := by decide +kernel
theorem dX7_bestStrength_82 : decode cX7_bestStrength 82 = .ok (.iload_n 2, 1) := by decide +kernel
theorem dX7_bestStrength_83 : decode cX7_bestStrength 83 = .ok (.iload_n 3, 1) := by decide +kernel
theorem dX7_bestStrength_84 : decode cX7_bestStrength 84 = .ok (.iload 8, 2) := by decide +kernel
theorem dX7_bestStrength_86 : decode cX7_bestStrength 86 = .ok (.iload 4, 2) := by decide +kernel
theorem dX7_bestStrength_88 : decode cX7_bestStrength 88 = .ok (.invokevirtual 217, 3) := by decide +kernel
theorem dX7_bestStrength_91 : decode cX7_bestStrength 91 = .ok (.istore 9, 2) := by decide +kernel
theorem dX7_bestStrength_93 : decode cX7_bestStrength 93 = .ok (.iload 9, 2) := by decide +kernel
theorem dX7_bestStrength_95 : decode cX7_bestStrength 95 = .ok (.bipush (-4), 2) := by decide +kernel
theorem dX7_bestStrength_97 : decode cX7_bestStrength 97 = .ok (.if_icmp .eq 35, 3) := by decide +kernel
theorem dX7_bestStrength_100 : decode cX7_bestStrength 100 = .ok (.aload 5, 2) := by decide +kernel
theorem dX7_bestStrength_102 : decode cX7_bestStrength 102 = .ok (.iload 9, 2) := by decide +kernel
theorem dX7_bestStrength_104 : decode cX7_bestStrength 104 = .ok (.bipush 100, 2) := by decide +kernel
theorem dX7_bestStrength_106 : decode cX7_bestStrength 106 = .ok (.idiv, 1) := by decide +kernel
theorem dX7_bestStrength_107 : decode cX7_bestStrength 107 = .ok (.iload 9, 2) := by decide +kernel
theorem dX7_bestStrength_109 : decode cX7_bestStrength 109 = .ok (.bipush 100, 2) := by decide +kernel
theorem dX7_bestStrength_111 : decode cX7_bestStrength 111 = .ok (.irem, 1) := by decide +kernel
theorem dX7_bestStrength_112 : decode cX7_bestStrength 112 = .ok (.invokevirtual 243, 3) := by decide +kernel
theorem dX7_bestStrength_115 : decode cX7_bestStrength 115 = .ok (.istore 10, 2) := by decide +kernel
theorem dX7_bestStrength_117 : decode cX7_bestStrength 117 = .ok (.iload 10, 2) := by decide +kernel
theorem dX7_bestStrength_119 : decode cX7_bestStrength 119 = .ok (.iload 7, 2) := by decide +kernel
theorem dX7_bestStrength_121 : decode cX7_bestStrength 121 = .ok (.if_icmp .ge 11, 3) := by decide +kernel
theorem dX7_bestStrength_124 : decode cX7_bestStrength 124 = .ok (.iload 10, 2) := by decide +kernel
theorem dX7_bestStrength_126 : decode cX7_bestStrength 126 = .ok (.istore 7, 2) := by decide +kernel
theorem dX7_bestStrength_128 : decode cX7_bestStrength 128 = .ok (.iload 8, 2) := by decide +kernel
theorem dX7_bestStrength_130 : decode cX7_bestStrength 130 = .ok (.istore 6, 2) := by decide +kernel
theorem dX7_bestStrength_132 : decode cX7_bestStrength 132 = .ok (.iinc 8 1, 3) := by decide +kernel
theorem dX7_bestStrength_135 : decode cX7_bestStrength 135 = .ok (.goto (-65), 3) := by decide +kernel
theorem dX7_bestStrength_138 : decode cX7_bestStrength 138 = .ok (.iload 6, 2) := by decide +kernel
theorem dX7_bestStrength_140 : decode cX7_bestStrength 140 = .ok (.ireturn, 1) := by decide +kernel
theorem dX7_wetIn_0 : decode cX7_wetIn 0 = .ok (.aload_n 0, 1) := by decide +kernel
theorem dX7_wetIn_1 : decode cX7_wetIn 1 = .ok (.getfield 12, 3) := by decide +kernel
theorem dX7_wetIn_4 : decode cX7_wetIn 4 = .ok (.iload_n 1, 1) := by decide +kernel
theorem dX7_wetIn_5 : decode cX7_wetIn 5 = .ok (.invokevirtual 179, 3) := by decide +kernel
theorem dX7_wetIn_8 : decode cX7_wetIn 8 = .ok (.ifCond .ne 5, 3) := by decide +kernel
theorem dX7_wetIn_11 : decode cX7_wetIn 11 = .ok (.iconst (-1), 1) := by decide +kernel
theorem dX7_wetIn_12 : decode cX7_wetIn 12 = .ok (.ireturn, 1) := by decide +kernel
theorem dX7_wetIn_13 : decode cX7_wetIn 13 = .ok (.iload_n 2, 1) := by decide +kernel
theorem dX7_wetIn_14 : decode cX7_wetIn 14 = .ok (.ifCond .lt 9, 3) := by decide +kernel
theorem dX7_wetIn_17 : decode cX7_wetIn 17 = .ok (.iload_n 2, 1) := by decide +kernel
theorem dX7_wetIn_18 : decode cX7_wetIn 18 = .ok (.bipush 40, 2) := by decide +kernel
theorem dX7_wetIn_20 : decode cX7_wetIn 20 = .ok (.if_icmp .le 6, 3) := by decide +kernel
theorem dX7_wetIn_23 : decode cX7_wetIn 23 = .ok (.bipush (-2), 2) := by decide +kernel
theorem dX7_wetIn_25 : decode cX7_wetIn 25 = .ok (.ireturn, 1) := by decide +kernel
theorem dX7_wetIn_26 : decode cX7_wetIn 26 = .ok (.aload_n 0, 1) := by decide +kernel
theorem dX7_wetIn_27 : decode cX7_wetIn 27 = .ok (.getfield 12, 3) := by decide +kernel
theorem dX7_wetIn_30 : decode cX7_wetIn 30 = .ok (.iload_n 1, 1) := by decide +kernel
theorem dX7_wetIn_31 : decode cX7_wetIn 31 = .ok (.iload_n 2, 1) := by decide +kernel
theorem dX7_wetIn_32 : decode cX7_wetIn 32 = .ok (.invokevirtual 366, 3) := by decide +kernel
theorem dX7_wetIn_35 : decode cX7_wetIn 35 = .ok (.ireturn, 1) := by decide +kernel
theorem dX7_castsIn_0 : decode cX7_castsIn 0 = .ok (.aload_n 0, 1) := by decide +kernel
theorem dX7_castsIn_1 : decode cX7_castsIn 1 = .ok (.getfield 12, 3) := by decide +kernel
theorem dX7_castsIn_4 : decode cX7_castsIn 4 = .ok (.iload_n 1, 1) := by decide +kernel
theorem dX7_castsIn_5 : decode cX7_castsIn 5 = .ok (.invokevirtual 179, 3) := by decide +kernel
theorem dX7_castsIn_8 : decode cX7_castsIn 8 = .ok (.ifCond .ne 5, 3) := by decide +kernel
theorem dX7_castsIn_11 : decode cX7_castsIn 11 = .ok (.iconst (-1), 1) := by decide +kernel
theorem dX7_castsIn_12 : decode cX7_castsIn 12 = .ok (.ireturn, 1) := by decide +kernel
theorem dX7_castsIn_13 : decode cX7_castsIn 13 = .ok (.iload_n 2, 1) := by decide +kernel
theorem dX7_castsIn_14 : decode cX7_castsIn 14 = .ok (.ifCond .lt 9, 3) := by decide +kernel
theorem dX7_castsIn_17 : decode cX7_castsIn 17 = .ok (.iload_n 2, 1) := by decide +kernel
theorem dX7_castsIn_18 : decode cX7_castsIn 18 = .ok (.bipush 40, 2) := by decide +kernel
theorem dX7_castsIn_20 : decode cX7_castsIn 20 = .ok (.if_icmp .le 6, 3) := by decide +kernel
theorem dX7_castsIn_23 : decode cX7_castsIn 23 = .ok (.bipush (-2), 2) := by decide +kernel
theorem dX7_castsIn_25 : decode cX7_castsIn 25 = .ok (.ireturn, 1) := by decide +kernel
theorem dX7_castsIn_26 : decode cX7_castsIn 26 = .ok (.aload_n 0, 1) := by decide +kernel
theorem dX7_castsIn_27 : decode cX7_castsIn 27 = .ok (.getfield 12, 3) := by decide +kernel
theorem dX7_castsIn_30 : decode cX7_castsIn 30 = .ok (.iload_n 1, 1) := by decide +kernel
theorem dX7_castsIn_31 : decode cX7_castsIn 31 = .ok (.iload_n 2, 1) := by decide +kernel
theorem dX7_castsIn_32 : decode cX7_castsIn 32 = .ok (.invokevirtual 369, 3) := by decide +kernel
theorem dX7_castsIn_35 : decode cX7_castsIn 35 = .ok (.ireturn, 1) := by decide +kernel
theorem dX7_dryIn_0 : decode cX7_dryIn 0 = .ok (.aload_n 0, 1) := by decide +kernel
theorem dX7_dryIn_1 : decode cX7_dryIn 1 = .ok (.getfield 12, 3) := by decide +kernel
theorem dX7_dryIn_4 : decode cX7_dryIn 4 = .ok (.iload_n 1, 1) := by decide +kernel
theorem dX7_dryIn_5 : decode cX7_dryIn 5 = .ok (.invokevirtual 179, 3) := by decide +kernel
theorem dX7_dryIn_8 : decode cX7_dryIn 8 = .ok (.ifCond .ne 5, 3) := by decide +kernel
theorem dX7_dryIn_11 : decode cX7_dryIn 11 = .ok (.iconst (-1), 1) := by decide +kernel
theorem dX7_dryIn_12 : decode cX7_dryIn 12 = .ok (.ireturn, 1) := by decide +kernel
theorem dX7_dryIn_13 : decode cX7_dryIn 13 = .ok (.aload_n 0, 1) := by decide +kernel
theorem dX7_dryIn_14 : decode cX7_dryIn 14 = .ok (.getfield 12, 3) := by decide +kernel
theorem dX7_dryIn_17 : decode cX7_dryIn 17 = .ok (.iload_n 1, 1) := by decide +kernel
theorem dX7_dryIn_18 : decode cX7_dryIn 18 = .ok (.invokevirtual 192, 3) := by decide +kernel
theorem dX7_dryIn_21 : decode cX7_dryIn 21 = .ok (.istore_n 2, 1) := by decide +kernel
theorem dX7_dryIn_22 : decode cX7_dryIn 22 = .ok (.iload_n 2, 1) := by decide +kernel
theorem dX7_dryIn_23 : decode cX7_dryIn 23 = .ok (.iconst (-1), 1) := by decide +kernel
theorem dX7_dryIn_24 : decode cX7_dryIn 24 = .ok (.if_icmp .ne 8, 3) := by decide +kernel
theorem dX7_dryIn_27 : decode cX7_dryIn 27 = .ok (.bipush (-4), 2) := by decide +kernel
theorem dX7_dryIn_29 : decode cX7_dryIn 29 = .ok (.goto 4, 3) := by decide +kernel
theorem dX7_dryIn_32 : decode cX7_dryIn 32 = .ok (.iload_n 2, 1) := by decide +kernel
theorem dX7_dryIn_33 : decode cX7_dryIn 33 = .ok (.ireturn, 1) := by decide +kernel
theorem dX7_leader_0 : decode cX7_leader 0 = .ok (.aload_n 0, 1) := by decide +kernel
theorem dX7_leader_1 : decode cX7_leader 1 = .ok (.getfield 12, 3) := by decide +kernel
theorem dX7_leader_4 : decode cX7_leader 4 = .ok (.getfield 251, 3) := by decide +kernel
theorem dX7_leader_7 : decode cX7_leader 7 = .ok (.iconst 0, 1) := by decide +kernel
theorem dX7_leader_8 : decode cX7_leader 8 = .ok (.aaload, 1) := by decide +kernel
theorem dX7_leader_9 : decode cX7_leader 9 = .ok (.astore_n 1, 1) := by decide +kernel
theorem dX7_leader_10 : decode cX7_leader 10 = .ok (.aload_n 0, 1) := by decide +kernel
theorem dX7_leader_11 : decode cX7_leader 11 = .ok (.getfield 12, 3) := by decide +kernel
theorem dX7_leader_14 : decode cX7_leader 14 = .ok (.getfield 251, 3) := by decide +kernel
theorem dX7_leader_17 : decode cX7_leader 17 = .ok (.iconst 1, 1) := by decide +kernel
theorem dX7_leader_18 : decode cX7_leader 18 = .ok (.aaload, 1) := by decide +kernel
theorem dX7_leader_19 : decode cX7_leader 19 = .ok (.astore_n 2, 1) := by decide +kernel
theorem dX7_leader_20 : decode cX7_leader 20 = .ok (.aload_n 1, 1) := by decide +kernel
theorem dX7_leader_21 : decode cX7_leader 21 = .ok (.getfield 255, 3) := by decide +kernel
theorem dX7_leader_24 : decode cX7_leader 24 = .ok (.aload_n 2, 1) := by decide +kernel
theorem dX7_leader_25 : decode cX7_leader 25 = .ok (.getfield 255, 3) := by decide +kernel
theorem dX7_leader_28 : decode cX7_leader 28 = .ok (.if_icmp .eq 20, 3) := by decide +kernel
theorem dX7_leader_31 : decode cX7_leader 31 = .ok (.aload_n 1, 1) := by decide +kernel
theorem dX7_leader_32 : decode cX7_leader 32 = .ok (.getfield 255, 3) := by decide +kernel
theorem dX7_leader_35 : decode cX7_leader 35 = .ok (.aload_n 2, 1) := by decide +kernel
theorem dX7_leader_36 : decode cX7_leader 36 = .ok (.getfield 255, 3) := by decide +kernel
theorem dX7_leader_39 : decode cX7_leader 39 = .ok (.if_icmp .le 7, 3) := by decide +kernel
theorem dX7_leader_42 : decode cX7_leader 42 = .ok (.iconst 0, 1) := by decide +kernel
theorem dX7_leader_43 : decode cX7_leader 43 = .ok (.goto 4, 3) := by decide +kernel
theorem dX7_leader_46 : decode cX7_leader 46 = .ok (.iconst 1, 1) := by decide +kernel
theorem dX7_leader_47 : decode cX7_leader 47 = .ok (.ireturn, 1) := by decide +kernel
theorem dX7_leader_48 : decode cX7_leader 48 = .ok (.aload_n 1, 1) := by decide +kernel
theorem dX7_leader_49 : decode cX7_leader 49 = .ok (.getfield 260, 3) := by decide +kernel
theorem dX7_leader_52 : decode cX7_leader 52 = .ok (.aload_n 2, 1) := by decide +kernel
theorem dX7_leader_53 : decode cX7_leader 53 = .ok (.getfield 260, 3) := by decide +kernel
theorem dX7_leader_56 : decode cX7_leader 56 = .ok (.if_icmp .eq 20, 3) := by decide +kernel
theorem dX7_leader_59 : decode cX7_leader 59 = .ok (.aload_n 1, 1) := by decide +kernel
theorem dX7_leader_60 : decode cX7_leader 60 = .ok (.getfield 260, 3) := by decide +kernel
theorem dX7_leader_63 : decode cX7_leader 63 = .ok (.aload_n 2, 1) := by decide +kernel
theorem dX7_leader_64 : decode cX7_leader 64 = .ok (.getfield 260, 3) := by decide +kernel
theorem dX7_leader_67 : decode cX7_leader 67 = .ok (.if_icmp .le 7, 3) := by decide +kernel
theorem dX7_leader_70 : decode cX7_leader 70 = .ok (.iconst 0, 1) := by decide +kernel
theorem dX7_leader_71 : decode cX7_leader 71 = .ok (.goto 4, 3) := by decide +kernel
theorem dX7_leader_74 : decode cX7_leader 74 = .ok (.iconst 1, 1) := by decide +kernel
theorem dX7_leader_75 : decode cX7_leader 75 = .ok (.ireturn, 1) := by decide +kernel
theorem dX7_leader_76 : decode cX7_leader 76 = .ok (.bipush (-4), 2) := by decide +kernel
theorem dX7_leader_78 : decode cX7_leader 78 = .ok (.ireturn, 1) := by decide +kernel
theorem dX7_describe_0 : decode cX7_describe 0 = .ok (.aload_n 0, 1) := by decide +kernel
theorem dX7_describe_1 : decode cX7_describe 1 = .ok (.getfield 12, 3) := by decide +kernel
theorem dX7_describe_4 : decode cX7_describe 4 = .ok (.iload_n 1, 1) := by decide +kernel
theorem dX7_describe_5 : decode cX7_describe 5 = .ok (.invokevirtual 179, 3) := by decide +kernel
theorem dX7_describe_8 : decode cX7_describe 8 = .ok (.ifCond .ne 5, 3) := by decide +kernel
theorem dX7_describe_11 : decode cX7_describe 11 = .ok (.iconst (-1), 1) := by decide +kernel
theorem dX7_describe_12 : decode cX7_describe 12 = .ok (.ireturn, 1) := by decide +kernel
theorem dX7_describe_13 : decode cX7_describe 13 = .ok (.aload_n 0, 1) := by decide +kernel
theorem dX7_describe_14 : decode cX7_describe 14 = .ok (.getfield 12, 3) := by decide +kernel
theorem dX7_describe_17 : decode cX7_describe 17 = .ok (.getfield 155, 3) := by decide +kernel
theorem dX7_describe_20 : decode cX7_describe 20 = .ok (.iload_n 1, 1) := by decide +kernel
theorem dX7_describe_21 : decode cX7_describe 21 = .ok (.aaload, 1) := by decide +kernel
theorem dX7_describe_22 : decode cX7_describe 22 = .ok (.astore_n 2, 1) := by decide +kernel
theorem dX7_describe_23 : decode cX7_describe 23 = .ok (.aload_n 0, 1) := by decide +kernel
theorem dX7_describe_24 : decode cX7_describe 24 = .ok (.getfield 55, 3) := by decide +kernel
theorem dX7_describe_27 : decode cX7_describe 27 = .ok (.iconst 0, 1) := by decide +kernel
theorem dX7_describe_28 : decode cX7_describe 28 = .ok (.invokevirtual 128, 3) := by decide +kernel
theorem dX7_describe_31 : decode cX7_describe 31 = .ok (.aload_n 0, 1) := by decide +kernel
theorem dX7_describe_32 : decode cX7_describe 32 = .ok (.getfield 55, 3) := by decide +kernel
theorem dX7_describe_35 : decode cX7_describe 35 = .ok (.aload_n 2, 1) := by decide +kernel
theorem dX7_describe_36 : decode cX7_describe 36 = .ok (.getfield 335, 3) := by decide +kernel
theorem dX7_describe_39 : decode cX7_describe 39 = .ok (.invokevirtual 372, 3) := by decide +kernel
theorem dX7_describe_42 : decode cX7_describe 42 = .ok (.bipush 45, 2) := by decide +kernel
theorem dX7_describe_44 : decode cX7_describe 44 = .ok (.invokevirtual 71, 3) := by decide +kernel
theorem dX7_describe_47 : decode cX7_describe 47 = .ok (.aload_n 2, 1) := by decide +kernel
theorem dX7_describe_48 : decode cX7_describe 48 = .ok (.getfield 338, 3) := by decide +kernel
theorem dX7_describe_51 : decode cX7_describe 51 = .ok (.invokevirtual 372, 3) := by decide +kernel
theorem dX7_describe_54 : decode cX7_describe 54 = .ok (.ldc_w 375, 3) := by decide +kernel
theorem dX7_describe_57 : decode cX7_describe 57 = .ok (.invokevirtual 377, 3) := by decide +kernel
theorem dX7_describe_60 : decode cX7_describe 60 = .ok (.pop, 1) := by decide +kernel
theorem dX7_describe_61 : decode cX7_describe 61 = .ok (.aload_n 2, 1) := by decide +kernel
theorem dX7_describe_62 : decode cX7_describe 62 = .ok (.getfield 189, 3) := by decide +kernel
theorem dX7_describe_65 : decode cX7_describe 65 = .ok (.ifCond .ne 17, 3) := by decide +kernel
theorem dX7_describe_68 : decode cX7_describe 68 = .ok (.aload_n 0, 1) := by decide +kernel
theorem dX7_describe_69 : decode cX7_describe 69 = .ok (.getfield 55, 3) := by decide +kernel
theorem dX7_describe_72 : decode cX7_describe 72 = .ok (.ldc_w 380, 3) := by decide +kernel
theorem dX7_describe_75 : decode cX7_describe 75 = .ok (.invokevirtual 377, 3) := by decide +kernel
theorem dX7_describe_78 : decode cX7_describe 78 = .ok (.pop, 1) := by decide +kernel
theorem dX7_describe_79 : decode cX7_describe 79 = .ok (.goto 21, 3) := by decide +kernel
theorem dX7_describe_82 : decode cX7_describe 82 = .ok (.aload_n 0, 1) := by decide +kernel
theorem dX7_describe_83 : decode cX7_describe 83 = .ok (.getfield 55, 3) := by decide +kernel
theorem dX7_describe_86 : decode cX7_describe 86 = .ok (.ldc_w 382, 3) := by decide +kernel
theorem dX7_describe_89 : decode cX7_describe 89 = .ok (.invokevirtual 377, 3) := by decide +kernel
theorem dX7_describe_92 : decode cX7_describe 92 = .ok (.aload_n 2, 1) := by decide +kernel
theorem dX7_describe_93 : decode cX7_describe 93 = .ok (.getfield 189, 3) := by decide +kernel
theorem dX7_describe_96 : decode cX7_describe 96 = .ok (.invokevirtual 372, 3) := by decide +kernel
theorem dX7_describe_99 : decode cX7_describe 99 = .ok (.pop, 1) := by decide +kernel
theorem dX7_describe_100 : decode cX7_describe 100 = .ok (.aload_n 2, 1) := by decide +kernel
theorem dX7_describe_101 : decode cX7_describe 101 = .ok (.invokevirtual 182, 3) := by decide +kernel
theorem dX7_describe_104 : decode cX7_describe 104 = .ok (.ifCond .eq 21, 3) := by decide +kernel
theorem dX7_describe_107 : decode cX7_describe 107 = .ok (.aload_n 0, 1) := by decide +kernel
theorem dX7_describe_108 : decode cX7_describe 108 = .ok (.getfield 55, 3) := by decide +kernel
theorem dX7_describe_111 : decode cX7_describe 111 = .ok (.ldc_w 384, 3) := by decide +kernel
theorem dX7_describe_114 : decode cX7_describe 114 = .ok (.invokevirtual 377, 3) := by decide +kernel
theorem dX7_describe_117 : decode cX7_describe 117 = .ok (.aload_n 2, 1) := by decide +kernel
theorem dX7_describe_118 : decode cX7_describe 118 = .ok (.getfield 186, 3) := by decide +kernel
theorem dX7_describe_121 : decode cX7_describe 121 = .ok (.invokevirtual 372, 3) := by decide +kernel
theorem dX7_describe_124 : decode cX7_describe 124 = .ok (.pop, 1) := by decide +kernel
theorem dX7_describe_125 : decode cX7_describe 125 = .ok (.aload_n 0, 1) := by decide +kernel
theorem dX7_describe_126 : decode cX7_describe 126 = .ok (.getfield 12, 3) := by decide +kernel
theorem dX7_describe_129 : decode cX7_describe 129 = .ok (.iload_n 1, 1) := by decide +kernel
theorem dX7_describe_130 : decode cX7_describe 130 = .ok (.iconst 1, 1) := by decide +kernel
theorem dX7_describe_131 : decode cX7_describe 131 = .ok (.invokevirtual 341, 3) := by decide +kernel
theorem dX7_describe_134 : decode cX7_describe 134 = .ok (.istore_n 3, 1) := by decide +kernel
theorem dX7_describe_135 : decode cX7_describe 135 = .ok (.iconst 0, 1) := by decide +kernel
theorem dX7_describe_136 : decode cX7_describe 136 = .ok (.istore 4, 2) := by decide +kernel
theorem dX7_describe_138 : decode cX7_describe 138 = .ok (.iload 4, 2) := by decide +kernel
theorem dX7_describe_140 : decode cX7_describe 140 = .ok (.iload_n 3, 1) := by decide +kernel
theorem dX7_describe_141 : decode cX7_describe 141 = .ok (.if_icmp .ge 23, 3) := by decide +kernel
theorem dX7_describe_144 : decode cX7_describe 144 = .ok (.aload_n 0, 1) := by decide +kernel
theorem dX7_describe_145 : decode cX7_describe 145 = .ok (.aload_n 0, 1) := by decide +kernel
theorem dX7_describe_146 : decode cX7_describe 146 = .ok (.getfield 12, 3) := by decide +kernel
theorem dX7_describe_149 : decode cX7_describe 149 = .ok (.iload_n 1, 1) := by decide +kernel
theorem dX7_describe_150 : decode cX7_describe 150 = .ok (.iload 4, 2) := by decide +kernel
theorem dX7_describe_152 : decode cX7_describe 152 = .ok (.invokevirtual 359, 3) := by decide +kernel
theorem dX7_describe_155 : decode cX7_describe 155 = .ok (.invokevirtual 386, 3) := by decide +kernel
theorem dX7_describe_158 : decode cX7_describe 158 = .ok (.iinc 4 1, 3) := by decide +kernel
theorem dX7_describe_161 : decode cX7_describe 161 = .ok (.goto (-23), 3) := by decide +kernel
theorem dX7_describe_164 : decode cX7_describe 164 = .ok (.aload_n 0, 1) := by decide +kernel
theorem dX7_describe_165 : decode cX7_describe 165 = .ok (.getfield 55, 3) := by decide +kernel
theorem dX7_describe_168 : decode cX7_describe 168 = .ok (.invokevirtual 67, 3) := by decide +kernel
theorem dX7_describe_171 : decode cX7_describe 171 = .ok (.ireturn, 1) := by decide +kernel
theorem dX7_writeWood_0 : decode cX7_writeWood 0 = .ok (.aload_n 0, 1) := by decide +kernel
theorem dX7_writeWood_1 : decode cX7_writeWood 1 = .ok (.getfield 12, 3) := by decide +kernel
theorem dX7_writeWood_4 : decode cX7_writeWood 4 = .ok (.iload_n 1, 1) := by decide +kernel
theorem dX7_writeWood_5 : decode cX7_writeWood 5 = .ok (.invokevirtual 204, 3) := by decide +kernel
theorem dX7_writeWood_8 : decode cX7_writeWood 8 = .ok (.ifCond .eq 37, 3) := by decide +kernel
theorem dX7_writeWood_11 : decode cX7_writeWood 11 = .ok (.aload_n 0, 1) := by decide +kernel
theorem dX7_writeWood_12 : decode cX7_writeWood 12 = .ok (.getfield 55, 3) := by decide +kernel
theorem dX7_writeWood_15 : decode cX7_writeWood 15 = .ok (.bipush 32, 2) := by decide +kernel
theorem dX7_writeWood_17 : decode cX7_writeWood 17 = .ok (.invokevirtual 71, 3) := by decide +kernel
theorem dX7_writeWood_20 : decode cX7_writeWood 20 = .ok (.iload_n 1, 1) := by decide +kernel
theorem dX7_writeWood_21 : decode cX7_writeWood 21 = .ok (.invokevirtual 372, 3) := by decide +kernel
theorem dX7_writeWood_24 : decode cX7_writeWood 24 = .ok (.bipush 47, 2) := by decide +kernel
theorem dX7_writeWood_26 : decode cX7_writeWood 26 = .ok (.invokevirtual 71, 3) := by decide +kernel
theorem dX7_writeWood_29 : decode cX7_writeWood 29 = .ok (.aload_n 0, 1) := by decide +kernel
theorem dX7_writeWood_30 : decode cX7_writeWood 30 = .ok (.getfield 12, 3) := by decide +kernel
theorem dX7_writeWood_33 : decode cX7_writeWood 33 = .ok (.getfield 170, 3) := by decide +kernel
theorem dX7_writeWood_36 : decode cX7_writeWood 36 = .ok (.iload_n 1, 1) := by decide +kernel
theorem dX7_writeWood_37 : decode cX7_writeWood 37 = .ok (.aaload, 1) := by decide +kernel
theorem dX7_writeWood_38 : decode cX7_writeWood 38 = .ok (.getfield 246, 3) := by decide +kernel
theorem dX7_writeWood_41 : decode cX7_writeWood 41 = .ok (.invokevirtual 372, 3) := by decide +kernel
theorem dX7_writeWood_44 : decode cX7_writeWood 44 = .ok (.pop, 1) := by decide +kernel
theorem dX7_writeWood_45 : decode cX7_writeWood 45 = .ok (.return_, 1) := by decide +kernel
theorem dX7_written_0 : decode cX7_written 0 = .ok (.iload_n 1, 1) := by decide +kernel
theorem dX7_written_1 : decode cX7_written 1 = .ok (.ifCond .lt 14, 3) := by decide +kernel
theorem dX7_written_4 : decode cX7_written 4 = .ok (.iload_n 1, 1) := by decide +kernel
theorem dX7_written_5 : decode cX7_written 5 = .ok (.aload_n 0, 1) := by decide +kernel
theorem dX7_written_6 : decode cX7_written 6 = .ok (.getfield 55, 3) := by decide +kernel
theorem dX7_written_9 : decode cX7_written 9 = .ok (.invokevirtual 67, 3) := by decide +kernel
theorem dX7_written_12 : decode cX7_written 12 = .ok (.if_icmp .lt 5, 3) := by decide +kernel
theorem dX7_written_15 : decode cX7_written 15 = .ok (.iconst (-1), 1) := by decide +kernel
theorem dX7_written_16 : decode cX7_written 16 = .ok (.ireturn, 1) := by decide +kernel
theorem dX7_written_17 : decode cX7_written 17 = .ok (.aload_n 0, 1) := by decide +kernel
theorem dX7_written_18 : decode cX7_written 18 = .ok (.getfield 55, 3) := by decide +kernel
theorem dX7_written_21 : decode cX7_written 21 = .ok (.iload_n 1, 1) := by decide +kernel
theorem dX7_written_22 : decode cX7_written 22 = .ok (.invokevirtual 389, 3) := by decide +kernel
theorem dX7_written_25 : decode cX7_written 25 = .ok (.ireturn, 1) := by decide +kernel
theorem dX7_meanWet_0 : decode cX7_meanWet 0 = .ok (.aload_n 0, 1) := by decide +kernel
theorem dX7_meanWet_1 : decode cX7_meanWet 1 = .ok (.getfield 12, 3) := by decide +kernel
theorem dX7_meanWet_4 : decode cX7_meanWet 4 = .ok (.getfield 146, 3) := by decide +kernel
theorem dX7_meanWet_7 : decode cX7_meanWet 7 = .ok (.ifCond .ne 5, 3) := by decide +kernel
theorem dX7_meanWet_10 : decode cX7_meanWet 10 = .ok (.fconst 0, 1) := by decide +kernel
theorem dX7_meanWet_11 : decode cX7_meanWet 11 = .ok (.freturn, 1) := by decide +kernel
theorem dX7_meanWet_12 : decode cX7_meanWet 12 = .ok (.aload_n 0, 1) := by decide +kernel
theorem dX7_meanWet_13 : decode cX7_meanWet 13 = .ok (.getfield 12, 3) := by decide +kernel
theorem dX7_meanWet_16 : decode cX7_meanWet 16 = .ok (.invokevirtual 393, 3) := by decide +kernel
theorem dX7_meanWet_19 : decode cX7_meanWet 19 = .ok (.i2f, 1) := by decide +kernel
theorem dX7_meanWet_20 : decode cX7_meanWet 20 = .ok (.aload_n 0, 1) := by decide +kernel
theorem dX7_meanWet_21 : decode cX7_meanWet 21 = .ok (.getfield 12, 3) := by decide +kernel
theorem dX7_meanWet_24 : decode cX7_meanWet 24 = .ok (.getfield 146, 3) := by decide +kernel
theorem dX7_meanWet_27 : decode cX7_meanWet 27 = .ok (.i2f, 1) := by decide +kernel
theorem dX7_meanWet_28 : decode cX7_meanWet 28 = .ok (.fdiv, 1) := by decide +kernel
theorem dX7_meanWet_29 : decode cX7_meanWet 29 = .ok (.freturn, 1) := by decide +kernel
theorem dX7_winShare_0 : decode cX7_winShare 0 = .ok (.aload_n 0, 1) := by decide +kernel
theorem dX7_winShare_1 : decode cX7_winShare 1 = .ok (.getfield 12, 3) := by decide +kernel
theorem dX7_winShare_4 : decode cX7_winShare 4 = .ok (.invokevirtual 396, 3) := by decide +kernel
theorem dX7_winShare_7 : decode cX7_winShare 7 = .ok (.istore_n 1, 1) := by decide +kernel
theorem dX7_winShare_8 : decode cX7_winShare 8 = .ok (.iload_n 1, 1) := by decide +kernel
theorem dX7_winShare_9 : decode cX7_winShare 9 = .ok (.ifCond .ne 5, 3) := by decide +kernel
theorem dX7_winShare_12 : decode cX7_winShare 12 = .ok (.dconst 0, 1) := by decide +kernel
theorem dX7_winShare_13 : decode cX7_winShare 13 = .ok (.dreturn, 1) := by decide +kernel
theorem dX7_winShare_14 : decode cX7_winShare 14 = .ok (.aload_n 0, 1) := by decide +kernel
theorem dX7_winShare_15 : decode cX7_winShare 15 = .ok (.getfield 12, 3) := by decide +kernel
theorem dX7_winShare_18 : decode cX7_winShare 18 = .ok (.getfield 251, 3) := by decide +kernel
theorem dX7_winShare_21 : decode cX7_winShare 21 = .ok (.iconst 0, 1) := by decide +kernel
theorem dX7_winShare_22 : decode cX7_winShare 22 = .ok (.aaload, 1) := by decide +kernel
theorem dX7_winShare_23 : decode cX7_winShare 23 = .ok (.getfield 260, 3) := by decide +kernel
theorem dX7_winShare_26 : decode cX7_winShare 26 = .ok (.aload_n 0, 1) := by decide +kernel
theorem dX7_winShare_27 : decode cX7_winShare 27 = .ok (.getfield 12, 3) := by decide +kernel
theorem dX7_winShare_30 : decode cX7_winShare 30 = .ok (.getfield 251, 3) := by decide +kernel
theorem dX7_winShare_33 : decode cX7_winShare 33 = .ok (.iconst 1, 1) := by decide +kernel
theorem dX7_winShare_34 : decode cX7_winShare 34 = .ok (.aaload, 1) := by decide +kernel
theorem dX7_winShare_35 : decode cX7_winShare 35 = .ok (.getfield 260, 3) := by decide +kernel
theorem dX7_winShare_38 : decode cX7_winShare 38 = .ok (.iadd, 1) := by decide +kernel
theorem dX7_winShare_39 : decode cX7_winShare 39 = .ok (.i2d, 1) := by decide +kernel
theorem dX7_winShare_40 : decode cX7_winShare 40 = .ok (.iload_n 1, 1) := by decide +kernel
theorem dX7_winShare_41 : decode cX7_winShare 41 = .ok (.i2d, 1) := by decide +kernel
theorem dX7_winShare_42 : decode cX7_winShare 42 = .ok (.ddiv, 1) := by decide +kernel
theorem dX7_winShare_43 : decode cX7_winShare 43 = .ok (.dreturn, 1) := by decide +kernel
theorem dX7_account_0 : decode cX7_account 0 = .ok (.iload_n 1, 1) := by decide +kernel
theorem dX7_account_1 : decode cX7_account 1 = .ok (.tableswitch 195 0 14 #[75, 83, 91, 99, 107, 115, 123, 131, 139, 147, 155, 163, 171, 179, 187], 75) := by decide +kernel
theorem dX7_account_76 : decode cX7_account 76 = .ok (.aload_n 0, 1) := by decide +kernel
theorem dX7_account_77 : decode cX7_account 77 = .ok (.getfield 12, 3) := by decide +kernel
theorem dX7_account_80 : decode cX7_account 80 = .ok (.getfield 58, 3) := by decide +kernel
theorem dX7_account_83 : decode cX7_account 83 = .ok (.ireturn, 1) := by decide +kernel
theorem dX7_account_84 : decode cX7_account 84 = .ok (.aload_n 0, 1) := by decide +kernel
theorem dX7_account_85 : decode cX7_account 85 = .ok (.getfield 12, 3) := by decide +kernel
theorem dX7_account_88 : decode cX7_account 88 = .ok (.getfield 287, 3) := by decide +kernel
theorem dX7_account_91 : decode cX7_account 91 = .ok (.ireturn, 1) := by decide +kernel
theorem dX7_account_92 : decode cX7_account 92 = .ok (.aload_n 0, 1) := by decide +kernel
theorem dX7_account_93 : decode cX7_account 93 = .ok (.getfield 12, 3) := by decide +kernel
theorem dX7_account_96 : decode cX7_account 96 = .ok (.getfield 290, 3) := by decide +kernel
theorem dX7_account_99 : decode cX7_account 99 = .ok (.ireturn, 1) := by decide +kernel
theorem dX7_account_100 : decode cX7_account 100 = .ok (.aload_n 0, 1) := by decide +kernel
theorem dX7_account_101 : decode cX7_account 101 = .ok (.getfield 12, 3) := by decide +kernel
theorem dX7_account_104 : decode cX7_account 104 = .ok (.getfield 146, 3) := by decide +kernel
theorem dX7_account_107 : decode cX7_account 107 = .ok (.ireturn, 1) := by decide +kernel
theorem dX7_account_108 : decode cX7_account 108 = .ok (.aload_n 0, 1) := by decide +kernel
theorem dX7_account_109 : decode cX7_account 109 = .ok (.getfield 12, 3) := by decide +kernel
theorem dX7_account_112 : decode cX7_account 112 = .ok (.getfield 167, 3) := by decide +kernel
theorem dX7_account_115 : decode cX7_account 115 = .ok (.ireturn, 1) := by decide +kernel
theorem dX7_account_116 : decode cX7_account 116 = .ok (.aload_n 0, 1) := by decide +kernel
theorem dX7_account_117 : decode cX7_account 117 = .ok (.getfield 12, 3) := by decide +kernel
theorem dX7_account_120 : decode cX7_account 120 = .ok (.invokevirtual 399, 3) := by decide +kernel
theorem dX7_account_123 : decode cX7_account 123 = .ok (.ireturn, 1) := by decide +kernel
theorem dX7_account_124 : decode cX7_account 124 = .ok (.aload_n 0, 1) := by decide +kernel
theorem dX7_account_125 : decode cX7_account 125 = .ok (.getfield 12, 3) := by decide +kernel
theorem dX7_account_128 : decode cX7_account 128 = .ok (.invokevirtual 396, 3) := by decide +kernel
theorem dX7_account_131 : decode cX7_account 131 = .ok (.ireturn, 1) := by decide +kernel
theorem dX7_account_132 : decode cX7_account 132 = .ok (.aload_n 0, 1) := by decide +kernel
theorem dX7_account_133 : decode cX7_account 133 = .ok (.getfield 12, 3) := by decide +kernel
theorem dX7_account_136 : decode cX7_account 136 = .ok (.invokevirtual 402, 3) := by decide +kernel
theorem dX7_account_139 : decode cX7_account 139 = .ok (.ireturn, 1) := by decide +kernel
theorem dX7_account_140 : decode cX7_account 140 = .ok (.aload_n 0, 1) := by decide +kernel
theorem dX7_account_141 : decode cX7_account 141 = .ok (.getfield 12, 3) := by decide +kernel
theorem dX7_account_144 : decode cX7_account 144 = .ok (.getfield 275, 3) := by decide +kernel
theorem dX7_account_147 : decode cX7_account 147 = .ok (.ireturn, 1) := by decide +kernel
theorem dX7_account_148 : decode cX7_account 148 = .ok (.aload_n 0, 1) := by decide +kernel
theorem dX7_account_149 : decode cX7_account 149 = .ok (.getfield 12, 3) := by decide +kernel
theorem dX7_account_152 : decode cX7_account 152 = .ok (.getfield 405, 3) := by decide +kernel
theorem dX7_account_155 : decode cX7_account 155 = .ok (.ireturn, 1) := by decide +kernel
theorem dX7_account_156 : decode cX7_account 156 = .ok (.aload_n 0, 1) := by decide +kernel
theorem dX7_account_157 : decode cX7_account 157 = .ok (.getfield 12, 3) := by decide +kernel
theorem dX7_account_160 : decode cX7_account 160 = .ok (.invokevirtual 307, 3) := by decide +kernel
theorem dX7_account_163 : decode cX7_account 163 = .ok (.ireturn, 1) := by decide +kernel
theorem dX7_account_164 : decode cX7_account 164 = .ok (.aload_n 0, 1) := by decide +kernel
theorem dX7_account_165 : decode cX7_account 165 = .ok (.getfield 12, 3) := by decide +kernel
theorem dX7_account_168 : decode cX7_account 168 = .ok (.getfield 281, 3) := by decide +kernel
theorem dX7_account_171 : decode cX7_account 171 = .ok (.ireturn, 1) := by decide +kernel
theorem dX7_account_172 : decode cX7_account 172 = .ok (.aload_n 0, 1) := by decide +kernel
theorem dX7_account_173 : decode cX7_account 173 = .ok (.getfield 12, 3) := by decide +kernel
theorem dX7_account_176 : decode cX7_account 176 = .ok (.invokevirtual 408, 3) := by decide +kernel
theorem dX7_account_179 : decode cX7_account 179 = .ok (.ireturn, 1) := by decide +kernel
theorem dX7_account_180 : decode cX7_account 180 = .ok (.aload_n 0, 1) := by decide +kernel
theorem dX7_account_181 : decode cX7_account 181 = .ok (.getfield 33, 3) := by decide +kernel
theorem dX7_account_184 : decode cX7_account 184 = .ok (.invokevirtual 67, 3) := by decide +kernel
theorem dX7_account_187 : decode cX7_account 187 = .ok (.ireturn, 1) := by decide +kernel
theorem dX7_account_188 : decode cX7_account 188 = .ok (.aload_n 0, 1) := by decide +kernel
theorem dX7_account_189 : decode cX7_account 189 = .ok (.getfield 26, 3) := by decide +kernel
theorem dX7_account_192 : decode cX7_account 192 = .ok (.getfield 411, 3) := by decide +kernel
theorem dX7_account_195 : decode cX7_account 195 = .ok (.ireturn, 1) := by decide +kernel
theorem dX7_account_196 : decode cX7_account 196 = .ok (.bipush (-2), 2) := by decide +kernel
theorem dX7_account_198 : decode cX7_account 198 = .ok (.ireturn, 1) := by decide +kernel
theorem dX7_undo_0 : decode cX7_undo 0 = .ok (.aload_n 0, 1) := by decide +kernel
theorem dX7_undo_1 : decode cX7_undo 1 = .ok (.getfield 26, 3) := by decide +kernel
theorem dX7_undo_4 : decode cX7_undo 4 = .ok (.getfield 411, 3) := by decide +kernel
theorem dX7_undo_7 : decode cX7_undo 7 = .ok (.ifCond .ne 6, 3) := by decide +kernel
theorem dX7_undo_10 : decode cX7_undo 10 = .ok (.bipush (-4), 2) := by decide +kernel
theorem dX7_undo_12 : decode cX7_undo 12 = .ok (.ireturn, 1) := by decide +kernel
theorem dX7_undo_13 : decode cX7_undo 13 = .ok (.aload_n 0, 1) := by decide +kernel
theorem dX7_undo_14 : decode cX7_undo 14 = .ok (.getfield 26, 3) := by decide +kernel
theorem dX7_undo_17 : decode cX7_undo 17 = .ok (.aload_n 0, 1) := by decide +kernel
theorem dX7_undo_18 : decode cX7_undo 18 = .ok (.getfield 12, 3) := by decide +kernel
theorem dX7_undo_21 : decode cX7_undo 21 = .ok (.invokevirtual 412, 3) := by decide +kernel
theorem dX7_undo_24 : decode cX7_undo 24 = .ok (.aload_n 0, 1) := by decide +kernel
theorem dX7_undo_25 : decode cX7_undo 25 = .ok (.getfield 26, 3) := by decide +kernel
theorem dX7_undo_28 : decode cX7_undo 28 = .ok (.getfield 411, 3) := by decide +kernel
theorem dX7_undo_31 : decode cX7_undo 31 = .ok (.ireturn, 1) := by decide +kernel
theorem dX7_save_0 : decode cX7_save 0 = .ok (.aload_n 0, 1) := by decide +kernel
theorem dX7_save_1 : decode cX7_save 1 = .ok (.getfield 16, 3) := by decide +kernel
theorem dX7_save_4 : decode cX7_save 4 = .ok (.aload_n 0, 1) := by decide +kernel
theorem dX7_save_5 : decode cX7_save 5 = .ok (.getfield 12, 3) := by decide +kernel
theorem dX7_save_8 : decode cX7_save 8 = .ok (.invokevirtual 415, 3) := by decide +kernel
theorem dX7_save_11 : decode cX7_save 11 = .ok (.aload_n 0, 1) := by decide +kernel
theorem dX7_save_12 : decode cX7_save 12 = .ok (.iconst 1, 1) := by decide +kernel
theorem dX7_save_13 : decode cX7_save 13 = .ok (.putfield 19, 3) := by decide +kernel
theorem dX7_save_16 : decode cX7_save 16 = .ok (.aload_n 0, 1) := by decide +kernel
theorem dX7_save_17 : decode cX7_save 17 = .ok (.getfield 12, 3) := by decide +kernel
theorem dX7_save_20 : decode cX7_save 20 = .ok (.getfield 58, 3) := by decide +kernel
theorem dX7_save_23 : decode cX7_save 23 = .ok (.ireturn, 1) := by decide +kernel
theorem dX7_restore_0 : decode cX7_restore 0 = .ok (.aload_n 0, 1) := by decide +kernel
theorem dX7_restore_1 : decode cX7_restore 1 = .ok (.getfield 19, 3) := by decide +kernel
theorem dX7_restore_4 : decode cX7_restore 4 = .ok (.ifCond .ne 6, 3) := by decide +kernel
theorem dX7_restore_7 : decode cX7_restore 7 = .ok (.bipush (-4), 2) := by decide +kernel
theorem dX7_restore_9 : decode cX7_restore 9 = .ok (.ireturn, 1) := by decide +kernel
theorem dX7_restore_10 : decode cX7_restore 10 = .ok (.aload_n 0, 1) := by decide +kernel
theorem dX7_restore_11 : decode cX7_restore 11 = .ok (.getfield 12, 3) := by decide +kernel
theorem dX7_restore_14 : decode cX7_restore 14 = .ok (.aload_n 0, 1) := by decide +kernel
theorem dX7_restore_15 : decode cX7_restore 15 = .ok (.getfield 16, 3) := by decide +kernel
theorem dX7_restore_18 : decode cX7_restore 18 = .ok (.invokevirtual 415, 3) := by decide +kernel
theorem dX7_restore_21 : decode cX7_restore 21 = .ok (.aload_n 0, 1) := by decide +kernel
theorem dX7_restore_22 : decode cX7_restore 22 = .ok (.getfield 26, 3) := by decide +kernel
theorem dX7_restore_25 : decode cX7_restore 25 = .ok (.invokevirtual 64, 3) := by decide +kernel
theorem dX7_restore_28 : decode cX7_restore 28 = .ok (.aload_n 0, 1) := by decide +kernel
theorem dX7_restore_29 : decode cX7_restore 29 = .ok (.getfield 12, 3) := by decide +kernel
theorem dX7_restore_32 : decode cX7_restore 32 = .ok (.getfield 58, 3) := by decide +kernel
theorem dX7_restore_35 : decode cX7_restore 35 = .ok (.ireturn, 1) := by decide +kernel
theorem dX7_isClub_0 : decode cX7_isClub 0 = .ok (.iload_n 0, 1) := by decide +kernel
theorem dX7_isClub_1 : decode cX7_isClub 1 = .ok (.ifCond .lt 12, 3) := by decide +kernel
theorem dX7_isClub_4 : decode cX7_isClub 4 = .ok (.iload_n 0, 1) := by decide +kernel
theorem dX7_isClub_5 : decode cX7_isClub 5 = .ok (.iconst 2, 1) := by decide +kernel
theorem dX7_isClub_6 : decode cX7_isClub 6 = .ok (.if_icmp .ge 7, 3) := by decide +kernel
theorem dX7_isClub_9 : decode cX7_isClub 9 = .ok (.iconst 1, 1) := by decide +kernel
theorem dX7_isClub_10 : decode cX7_isClub 10 = .ok (.goto 4, 3) := by decide +kernel
theorem dX7_isClub_13 : decode cX7_isClub 13 = .ok (.iconst 0, 1) := by decide +kernel
theorem dX7_isClub_14 : decode cX7_isClub 14 = .ok (.ireturn, 1) := by decide +kernel
theorem dX7_otherClub_0 : decode cX7_otherClub 0 = .ok (.iconst 1, 1) := by decide +kernel
theorem dX7_otherClub_1 : decode cX7_otherClub 1 = .ok (.iload_n 0, 1) := by decide +kernel
theorem dX7_otherClub_2 : decode cX7_otherClub 2 = .ok (.isub, 1) := by decide +kernel
theorem dX7_otherClub_3 : decode cX7_otherClub 3 = .ok (.ireturn, 1) := by decide +kernel
theorem dX7_isStrength_0 : decode cX7_isStrength 0 = .ok (.iload_n 0, 1) := by decide +kernel
theorem dX7_isStrength_1 : decode cX7_isStrength 1 = .ok (.iconst 1, 1) := by decide +kernel
theorem dX7_isStrength_2 : decode cX7_isStrength 2 = .ok (.if_icmp .lt 13, 3) := by decide +kernel
theorem dX7_isStrength_5 : decode cX7_isStrength 5 = .ok (.iload_n 0, 1) := by decide +kernel
theorem dX7_isStrength_6 : decode cX7_isStrength 6 = .ok (.bipush 20, 2) := by decide +kernel
theorem dX7_isStrength_8 : decode cX7_isStrength 8 = .ok (.if_icmp .gt 7, 3) := by decide +kernel
theorem dX7_isStrength_11 : decode cX7_isStrength 11 = .ok (.iconst 1, 1) := by decide +kernel
theorem dX7_isStrength_12 : decode cX7_isStrength 12 = .ok (.goto 4, 3) := by decide +kernel
theorem dX7_isStrength_15 : decode cX7_isStrength 15 = .ok (.iconst 0, 1) := by decide +kernel
theorem dX7_isStrength_16 : decode cX7_isStrength 16 = .ok (.ireturn, 1) := by decide +kernel
theorem dX7_isWeather_0 : decode cX7_isWeather 0 = .ok (.iload_n 0, 1) := by decide +kernel
theorem dX7_isWeather_1 : decode cX7_isWeather 1 = .ok (.ifCond .lt 13, 3) := by decide +kernel
theorem dX7_isWeather_4 : decode cX7_isWeather 4 = .ok (.iload_n 0, 1) := by decide +kernel
theorem dX7_isWeather_5 : decode cX7_isWeather 5 = .ok (.bipush 9, 2) := by decide +kernel
theorem dX7_isWeather_7 : decode cX7_isWeather 7 = .ok (.if_icmp .gt 7, 3) := by decide +kernel
theorem dX7_isWeather_10 : decode cX7_isWeather 10 = .ok (.iconst 1, 1) := by decide +kernel
theorem dX7_isWeather_11 : decode cX7_isWeather 11 = .ok (.goto 4, 3) := by decide +kernel
theorem dX7_isWeather_14 : decode cX7_isWeather 14 = .ok (.iconst 0, 1) := by decide +kernel
theorem dX7_isWeather_15 : decode cX7_isWeather 15 = .ok (.ireturn, 1) := by decide +kernel
theorem dX8_init_0 : decode cX8_init 0 = .ok (.aload_n 0, 1) := by decide +kernel
theorem dX8_init_1 : decode cX8_init 1 = .ok (.invokespecial 3, 3) := by decide +kernel
theorem dX8_init_4 : decode cX8_init 4 = .ok (.aload_n 0, 1) := by decide +kernel
theorem dX8_init_5 : decode cX8_init 5 = .ok (.sipush 169, 3) := by decide +kernel
theorem dX8_init_8 : decode cX8_init 8 = .ok (.newarray .int, 2) := by decide +kernel
theorem dX8_init_10 : decode cX8_init 10 = .ok (.putfield 9, 3) := by decide +kernel
theorem dX8_init_13 : decode cX8_init 13 = .ok (.aload_n 0, 1) := by decide +kernel
theorem dX8_init_14 : decode cX8_init 14 = .ok (.sipush 169, 3) := by decide +kernel
theorem dX8_init_17 : decode cX8_init 17 = .ok (.newarray .int, 2) := by decide +kernel
theorem dX8_init_19 : decode cX8_init 19 = .ok (.putfield 13, 3) := by decide +kernel
theorem dX8_init_22 : decode cX8_init 22 = .ok (.aload_n 0, 1) := by decide +kernel
theorem dX8_init_23 : decode cX8_init 23 = .ok (.sipush 1352, 3) := by decide +kernel
theorem dX8_init_26 : decode cX8_init 26 = .ok (.newarray .int, 2) := by decide +kernel
theorem dX8_init_28 : decode cX8_init 28 = .ok (.putfield 16, 3) := by decide +kernel
theorem dX8_init_31 : decode cX8_init 31 = .ok (.aload_n 0, 1) := by decide +kernel
theorem dX8_init_32 : decode cX8_init 32 = .ok (.sipush 169, 3) := by decide +kernel
theorem dX8_init_35 : decode cX8_init 35 = .ok (.newarray .int, 2) := by decide +kernel
theorem dX8_init_37 : decode cX8_init 37 = .ok (.putfield 19, 3) := by decide +kernel
theorem dX8_init_40 : decode cX8_init 40 = .ok (.aload_n 0, 1) := by decide +kernel
theorem dX8_init_41 : decode cX8_init 41 = .ok (.bipush 110, 2) := by decide +kernel
theorem dX8_init_43 : decode cX8_init 43 = .ok (.newarray .int, 2) := by decide +kernel
theorem dX8_init_45 : decode cX8_init 45 = .ok (.putfield 22, 3) := by decide +kernel
theorem dX8_init_48 : decode cX8_init 48 = .ok (.aload_n 0, 1) := by decide +kernel
theorem dX8_init_49 : decode cX8_init 49 = .ok (.bipush 60, 2) := by decide +kernel
theorem dX8_init_51 : decode cX8_init 51 = .ok (.newarray .char, 2) := by decide +kernel
theorem dX8_init_53 : decode cX8_init 53 = .ok (.putfield 25, 3) := by decide +kernel
theorem dX8_init_56 : decode cX8_init 56 = .ok (.aload_n 0, 1) := by decide +kernel
theorem dX8_init_57 : decode cX8_init 57 = .ok (.iconst 4, 1) := by decide +kernel
theorem dX8_init_58 : decode cX8_init 58 = .ok (.newarray .int, 2) := by decide +kernel
theorem dX8_init_60 : decode cX8_init 60 = .ok (.putfield 29, 3) := by decide +kernel
theorem dX8_init_63 : decode cX8_init 63 = .ok (.aload_n 0, 1) := by decide +kernel
theorem dX8_init_64 : decode cX8_init 64 = .ok (.bipush (-4), 2) := by decide +kernel
theorem dX8_init_66 : decode cX8_init 66 = .ok (.putfield 32, 3) := by decide +kernel
theorem dX8_init_69 : decode cX8_init 69 = .ok (.aload_n 0, 1) := by decide +kernel
theorem dX8_init_70 : decode cX8_init 70 = .ok (.bipush 6, 2) := by decide +kernel
theorem dX8_init_72 : decode cX8_init 72 = .ok (.newarray .int, 2) := by decide +kernel
theorem dX8_init_74 : decode cX8_init 74 = .ok (.putfield 36, 3) := by decide +kernel
theorem dX8_init_77 : decode cX8_init 77 = .ok (.aload_n 0, 1) := by decide +kernel
theorem dX8_init_78 : decode cX8_init 78 = .ok (.invokevirtual 39, 3) := by decide +kernel
theorem dX8_init_81 : decode cX8_init 81 = .ok (.return_, 1) := by decide +kernel
theorem dX8_begins_0 : decode cX8_begins 0 = .ok (.iconst 0, 1) := by decide +kernel
theorem dX8_begins_1 : decode cX8_begins 1 = .ok (.istore_n 1, 1) := by decide +kernel
theorem dX8_begins_2 : decode cX8_begins 2 = .ok (.iload_n 1, 1) := by decide +kernel
theorem dX8_begins_3 : decode cX8_begins 3 = .ok (.sipush 169, 3) := by decide +kernel
theorem dX8_begins_6 : decode cX8_begins 6 = .ok (.if_icmp .ge 16, 3) := by decide +kernel
theorem dX8_begins_9 : decode cX8_begins 9 = .ok (.aload_n 0, 1) := by decide +kernel
theorem dX8_begins_10 : decode cX8_begins 10 = .ok (.getfield 9, 3) := by decide +kernel
theorem dX8_begins_13 : decode cX8_begins 13 = .ok (.iload_n 1, 1) := by decide +kernel
theorem dX8_begins_14 : decode cX8_begins 14 = .ok (.iconst 0, 1) := by decide +kernel
theorem dX8_begins_15 : decode cX8_begins 15 = .ok (.iastore, 1) := by decide +kernel
theorem dX8_begins_16 : decode cX8_begins 16 = .ok (.iinc 1 1, 3) := by decide +kernel
theorem dX8_begins_19 : decode cX8_begins 19 = .ok (.goto (-17), 3) := by decide +kernel
theorem dX8_begins_22 : decode cX8_begins 22 = .ok (.aload_n 0, 1) := by decide +kernel
theorem dX8_begins_23 : decode cX8_begins 23 = .ok (.getfield 9, 3) := by decide +kernel
theorem dX8_begins_26 : decode cX8_begins 26 = .ok (.iconst 1, 1) := by decide +kernel
theorem dX8_begins_27 : decode cX8_begins 27 = .ok (.iconst 1, 1) := by decide +kernel
theorem dX8_begins_28 : decode cX8_begins 28 = .ok (.iastore, 1) := by decide +kernel
theorem dX8_begins_29 : decode cX8_begins 29 = .ok (.aload_n 0, 1) := by decide +kernel
theorem dX8_begins_30 : decode cX8_begins 30 = .ok (.getfield 9, 3) := by decide +kernel
theorem dX8_begins_33 : decode cX8_begins 33 = .ok (.iconst 2, 1) := by decide +kernel
theorem dX8_begins_34 : decode cX8_begins 34 = .ok (.iconst 2, 1) := by decide +kernel
theorem dX8_begins_35 : decode cX8_begins 35 = .ok (.iastore, 1) := by decide +kernel
theorem dX8_begins_36 : decode cX8_begins 36 = .ok (.aload_n 0, 1) := by decide +kernel
theorem dX8_begins_37 : decode cX8_begins 37 = .ok (.getfield 9, 3) := by decide +kernel
theorem dX8_begins_40 : decode cX8_begins 40 = .ok (.bipush 6, 2) := by decide +kernel
theorem dX8_begins_42 : decode cX8_begins 42 = .ok (.bipush 12, 2) := by decide +kernel
theorem dX8_begins_44 : decode cX8_begins 44 = .ok (.iastore, 1) := by decide +kernel
theorem dX8_begins_45 : decode cX8_begins 45 = .ok (.aload_n 0, 1) := by decide +kernel
theorem dX8_begins_46 : decode cX8_begins 46 = .ok (.getfield 9, 3) := by decide +kernel
theorem dX8_begins_49 : decode cX8_begins 49 = .ok (.bipush 11, 2) := by decide +kernel
theorem dX8_begins_51 : decode cX8_begins 51 = .ok (.bipush 10, 2) := by decide +kernel
theorem dX8_begins_53 : decode cX8_begins 53 = .ok (.iastore, 1) := by decide +kernel
theorem dX8_begins_54 : decode cX8_begins 54 = .ok (.aload_n 0, 1) := by decide +kernel
theorem dX8_begins_55 : decode cX8_begins 55 = .ok (.getfield 9, 3) := by decide +kernel
theorem dX8_begins_58 : decode cX8_begins 58 = .ok (.bipush 15, 2) := by decide +kernel
theorem dX8_begins_60 : decode cX8_begins 60 = .ok (.bipush 10, 2) := by decide +kernel
theorem dX8_begins_62 : decode cX8_begins 62 = .ok (.iastore, 1) := by decide +kernel
theorem dX8_begins_63 : decode cX8_begins 63 = .ok (.return_, 1) := by decide +kernel
theorem dX8_in_0 : decode cX8_in 0 = .ok (.iload_n 0, 1) := by decide +kernel
theorem dX8_in_1 : decode cX8_in 1 = .ok (.iload_n 1, 1) := by decide +kernel
theorem dX8_in_2 : decode cX8_in 2 = .ok (.if_icmp .lt 12, 3) := by decide +kernel
theorem dX8_in_5 : decode cX8_in 5 = .ok (.iload_n 0, 1) := by decide +kernel
theorem dX8_in_6 : decode cX8_in 6 = .ok (.iload_n 2, 1) := by decide +kernel
theorem dX8_in_7 : decode cX8_in 7 = .ok (.if_icmp .gt 7, 3) := by decide +kernel
theorem dX8_in_10 : decode cX8_in 10 = .ok (.iconst 1, 1) := by decide +kernel
theorem dX8_in_11 : decode cX8_in 11 = .ok (.goto 4, 3) := by decide +kernel
theorem dX8_in_14 : decode cX8_in 14 = .ok (.iconst 0, 1) := by decide +kernel
theorem dX8_in_15 : decode cX8_in 15 = .ok (.ireturn, 1) := by decide +kernel
theorem dX8_tries_0 : decode cX8_tries 0 = .ok (.iconst 0, 1) := by decide +kernel
theorem dX8_tries_1 : decode cX8_tries 1 = .ok (.istore_n 1, 1) := by decide +kernel
theorem dX8_tries_2 : decode cX8_tries 2 = .ok (.iload_n 1, 1) := by decide +kernel
theorem dX8_tries_3 : decode cX8_tries 3 = .ok (.sipush 169, 3) := by decide +kernel
theorem dX8_tries_6 : decode cX8_tries 6 = .ok (.if_icmp .ge 21, 3) := by decide +kernel
theorem dX8_tries_9 : decode cX8_tries 9 = .ok (.aload_n 0, 1) := by decide +kernel
theorem dX8_tries_10 : decode cX8_tries 10 = .ok (.getfield 13, 3) := by decide +kernel
theorem dX8_tries_13 : decode cX8_tries 13 = .ok (.iload_n 1, 1) := by decide +kernel
theorem dX8_tries_14 : decode cX8_tries 14 = .ok (.aload_n 0, 1) := by decide +kernel
theorem dX8_tries_15 : decode cX8_tries 15 = .ok (.getfield 9, 3) := by decide +kernel
theorem dX8_tries_18 : decode cX8_tries 18 = .ok (.iload_n 1, 1) := by decide +kernel
theorem dX8_tries_19 : decode cX8_tries 19 = .ok (.iaload, 1) := by decide +kernel
theorem dX8_tries_20 : decode cX8_tries 20 = .ok (.iastore, 1) := by decide +kernel
theorem dX8_tries_21 : decode cX8_tries 21 = .ok (.iinc 1 1, 3) := by decide +kernel
theorem dX8_tries_24 : decode cX8_tries 24 = .ok (.goto (-22), 3) := by decide +kernel
theorem dX8_tries_27 : decode cX8_tries 27 = .ok (.return_, 1) := by decide +kernel
theorem dX8_comesBack_0 : decode cX8_comesBack 0 = .ok (.iconst 0, 1) := by decide +kernel
theorem dX8_comesBack_1 : decode cX8_comesBack 1 = .ok (.istore_n 1, 1) := by decide +kernel
theorem dX8_comesBack_2 : decode cX8_comesBack 2 = .ok (.iload_n 1, 1) := by decide +kernel
theorem dX8_comesBack_3 : decode cX8_comesBack 3 = .ok (.sipush 169, 3) := by decide +kernel
theorem dX8_comesBack_6 : decode cX8_comesBack 6 = .ok (.if_icmp .ge 21, 3) := by decide +kernel
theorem dX8_comesBack_9 : decode cX8_comesBack 9 = .ok (.aload_n 0, 1) := by decide +kernel
theorem dX8_comesBack_10 : decode cX8_comesBack 10 = .ok (.getfield 9, 3) := by decide +kernel
theorem dX8_comesBack_13 : decode cX8_comesBack 13 = .ok (.iload_n 1, 1) := by decide +kernel
theorem dX8_comesBack_14 : decode cX8_comesBack 14 = .ok (.aload_n 0, 1) := by decide +kernel
theorem dX8_comesBack_15 : decode cX8_comesBack 15 = .ok (.getfield 13, 3) := by decide +kernel
theorem dX8_comesBack_18 : decode cX8_comesBack 18 = .ok (.iload_n 1, 1) := by decide +kernel
theorem dX8_comesBack_19 : decode cX8_comesBack 19 = .ok (.iaload, 1) := by decide +kernel
theorem dX8_comesBack_20 : decode cX8_comesBack 20 = .ok (.iastore, 1) := by decide +kernel
theorem dX8_comesBack_21 : decode cX8_comesBack 21 = .ok (.iinc 1 1, 3) := by decide +kernel
theorem dX8_comesBack_24 : decode cX8_comesBack 24 = .ok (.goto (-22), 3) := by decide +kernel
theorem dX8_comesBack_27 : decode cX8_comesBack 27 = .ok (.return_, 1) := by decide +kernel
theorem dX8_keeps_0 : decode cX8_keeps 0 = .ok (.aload_n 0, 1) := by decide +kernel
theorem dX8_keeps_1 : decode cX8_keeps 1 = .ok (.getfield 42, 3) := by decide +kernel
theorem dX8_keeps_4 : decode cX8_keeps 4 = .ok (.bipush 8, 2) := by decide +kernel
theorem dX8_keeps_6 : decode cX8_keeps 6 = .ok (.if_icmp .ne 44, 3) := by decide +kernel
theorem dX8_keeps_9 : decode cX8_keeps 9 = .ok (.iconst 0, 1) := by decide +kernel
theorem dX8_keeps_10 : decode cX8_keeps 10 = .ok (.istore_n 2, 1) := by decide +kernel
theorem dX8_keeps_11 : decode cX8_keeps 11 = .ok (.iload_n 2, 1) := by decide +kernel
theorem dX8_keeps_12 : decode cX8_keeps 12 = .ok (.sipush 1183, 3) := by decide +kernel
theorem dX8_keeps_15 : decode cX8_keeps 15 = .ok (.if_icmp .ge 25, 3) := by decide +kernel
theorem dX8_keeps_18 : decode cX8_keeps 18 = .ok (.aload_n 0, 1) := by decide +kernel
theorem dX8_keeps_19 : decode cX8_keeps 19 = .ok (.getfield 16, 3) := by decide +kernel
theorem dX8_keeps_22 : decode cX8_keeps 22 = .ok (.iload_n 2, 1) := by decide +kernel
theorem dX8_keeps_23 : decode cX8_keeps 23 = .ok (.aload_n 0, 1) := by decide +kernel
theorem dX8_keeps_24 : decode cX8_keeps 24 = .ok (.getfield 16, 3) := by decide +kernel
theorem dX8_keeps_27 : decode cX8_keeps 27 = .ok (.sipush 169, 3) := by decide +kernel
theorem dX8_keeps_30 : decode cX8_keeps 30 = .ok (.iload_n 2, 1) := by decide +kernel
theorem dX8_keeps_31 : decode cX8_keeps 31 = .ok (.iadd, 1) := by decide +kernel
theorem dX8_keeps_32 : decode cX8_keeps 32 = .ok (.iaload, 1) := by decide +kernel
theorem dX8_keeps_33 : decode cX8_keeps 33 = .ok (.iastore, 1) := by decide +kernel
theorem dX8_keeps_34 : decode cX8_keeps 34 = .ok (.iinc 2 1, 3) := by decide +kernel
theorem dX8_keeps_37 : decode cX8_keeps 37 = .ok (.goto (-26), 3) := by decide +kernel
theorem dX8_keeps_40 : decode cX8_keeps 40 = .ok (.aload_n 0, 1) := by decide +kernel
theorem dX8_keeps_41 : decode cX8_keeps 41 = .ok (.dup, 1) := by decide +kernel
theorem dX8_keeps_42 : decode cX8_keeps 42 = .ok (.getfield 42, 3) := by decide +kernel
theorem dX8_keeps_45 : decode cX8_keeps 45 = .ok (.iconst 1, 1) := by decide +kernel
theorem dX8_keeps_46 : decode cX8_keeps 46 = .ok (.isub, 1) := by decide +kernel
theorem dX8_keeps_47 : decode cX8_keeps 47 = .ok (.putfield 42, 3) := by decide +kernel
theorem dX8_keeps_50 : decode cX8_keeps 50 = .ok (.iconst 0, 1) := by decide +kernel
theorem dX8_keeps_51 : decode cX8_keeps 51 = .ok (.istore_n 2, 1) := by decide +kernel
theorem dX8_keeps_52 : decode cX8_keeps 52 = .ok (.iload_n 2, 1) := by decide +kernel
theorem dX8_keeps_53 : decode cX8_keeps 53 = .ok (.sipush 169, 3) := by decide +kernel
theorem dX8_keeps_56 : decode cX8_keeps 56 = .ok (.if_icmp .ge 30, 3) := by decide +kernel
theorem dX8_keeps_59 : decode cX8_keeps 59 = .ok (.aload_n 0, 1) := by decide +kernel
theorem dX8_keeps_60 : decode cX8_keeps 60 = .ok (.getfield 16, 3) := by decide +kernel
theorem dX8_keeps_63 : decode cX8_keeps 63 = .ok (.sipush 169, 3) := by decide +kernel
theorem dX8_keeps_66 : decode cX8_keeps 66 = .ok (.aload_n 0, 1) := by decide +kernel
theorem dX8_keeps_67 : decode cX8_keeps 67 = .ok (.getfield 42, 3) := by decide +kernel
theorem dX8_keeps_70 : decode cX8_keeps 70 = .ok (.imul, 1) := by decide +kernel
theorem dX8_keeps_71 : decode cX8_keeps 71 = .ok (.iload_n 2, 1) := by decide +kernel
theorem dX8_keeps_72 : decode cX8_keeps 72 = .ok (.iadd, 1) := by decide +kernel
theorem dX8_keeps_73 : decode cX8_keeps 73 = .ok (.aload_n 0, 1) := by decide +kernel
theorem dX8_keeps_74 : decode cX8_keeps 74 = .ok (.getfield 13, 3) := by decide +kernel
theorem dX8_keeps_77 : decode cX8_keeps 77 = .ok (.iload_n 2, 1) := by decide +kernel
theorem dX8_keeps_78 : decode cX8_keeps 78 = .ok (.iaload, 1) := by decide +kernel
theorem dX8_keeps_79 : decode cX8_keeps 79 = .ok (.iastore, 1) := by decide +kernel
theorem dX8_keeps_80 : decode cX8_keeps 80 = .ok (.iinc 2 1, 3) := by decide +kernel
theorem dX8_keeps_83 : decode cX8_keeps 83 = .ok (.goto (-31), 3) := by decide +kernel
theorem dX8_keeps_86 : decode cX8_keeps 86 = .ok (.aload_n 0, 1) := by decide +kernel
theorem dX8_keeps_87 : decode cX8_keeps 87 = .ok (.dup, 1) := by decide +kernel
theorem dX8_keeps_88 : decode cX8_keeps 88 = .ok (.getfield 42, 3) := by decide +kernel
theorem dX8_keeps_91 : decode cX8_keeps 91 = .ok (.iconst 1, 1) := by decide +kernel
theorem dX8_keeps_92 : decode cX8_keeps 92 = .ok (.iadd, 1) := by decide +kernel
theorem dX8_keeps_93 : decode cX8_keeps 93 = .ok (.putfield 42, 3) := by decide +kernel
theorem dX8_keeps_96 : decode cX8_keeps 96 = .ok (.iload_n 1, 1) := by decide +kernel
theorem dX8_keeps_97 : decode cX8_keeps 97 = .ok (.ireturn, 1) := by decide +kernel
theorem dX8_refuses_0 : decode cX8_refuses 0 = .ok (.aload_n 0, 1) := by decide +kernel
theorem dX8_refuses_1 : decode cX8_refuses 1 = .ok (.getfield 36, 3) := by decide +kernel
theorem dX8_refuses_4 : decode cX8_refuses 4 = .ok (.iconst 0, 1) := by decide +kernel
theorem dX8_refuses_5 : decode cX8_refuses 5 = .ok (.iload_n 1, 1) := by decide +kernel
theorem dX8_refuses_6 : decode cX8_refuses 6 = .ok (.iastore, 1) := by decide +kernel
theorem dX8_refuses_7 : decode cX8_refuses 7 = .ok (.aload_n 0, 1) := by decide +kernel
theorem dX8_refuses_8 : decode cX8_refuses 8 = .ok (.getfield 36, 3) := by decide +kernel
theorem dX8_refuses_11 : decode cX8_refuses 11 = .ok (.iconst 1, 1) := by decide +kernel
theorem dX8_refuses_12 : decode cX8_refuses 12 = .ok (.iload_n 2, 1) := by decide +kernel
theorem dX8_refuses_13 : decode cX8_refuses 13 = .ok (.iastore, 1) := by decide +kernel
theorem dX8_refuses_14 : decode cX8_refuses 14 = .ok (.aload_n 0, 1) := by decide +kernel
theorem dX8_refuses_15 : decode cX8_refuses 15 = .ok (.iconst 1, 1) := by decide +kernel
theorem dX8_refuses_16 : decode cX8_refuses 16 = .ok (.putfield 45, 3) := by decide +kernel
theorem dX8_refuses_19 : decode cX8_refuses 19 = .ok (.bipush (-3), 2) := by decide +kernel
theorem dX8_refuses_21 : decode cX8_refuses 21 = .ok (.ireturn, 1) := by decide +kernel
theorem dX8_refusesBy_0 : decode cX8_refusesBy 0 = .ok (.iconst 2, 1) := by decide +kernel
theorem dX8_refusesBy_1 : decode cX8_refusesBy 1 = .ok (.aload_n 0, 1) := by decide +kernel
theorem dX8_refusesBy_2 : decode cX8_refusesBy 2 = .ok (.getfield 45, 3) := by decide +kernel
theorem dX8_refusesBy_5 : decode cX8_refusesBy 5 = .ok (.imul, 1) := by decide +kernel
theorem dX8_refusesBy_6 : decode cX8_refusesBy 6 = .ok (.iconst 1, 1) := by decide +kernel
theorem dX8_refusesBy_7 : decode cX8_refusesBy 7 = .ok (.isub, 1) := by decide +kernel
theorem dX8_refusesBy_8 : decode cX8_refusesBy 8 = .ok (.istore_n 3, 1) := by decide +kernel
theorem dX8_refusesBy_9 : decode cX8_refusesBy 9 = .ok (.iload_n 3, 1) := by decide +kernel
theorem dX8_refusesBy_10 : decode cX8_refusesBy 10 = .ok (.ifCond .lt 23, 3) := by decide +kernel
theorem dX8_refusesBy_13 : decode cX8_refusesBy 13 = .ok (.aload_n 0, 1) := by decide +kernel
theorem dX8_refusesBy_14 : decode cX8_refusesBy 14 = .ok (.getfield 36, 3) := by decide +kernel
theorem dX8_refusesBy_17 : decode cX8_refusesBy 17 = .ok (.iload_n 3, 1) := by decide +kernel
theorem dX8_refusesBy_18 : decode cX8_refusesBy 18 = .ok (.iconst 2, 1) := by decide +kernel
theorem dX8_refusesBy_19 : decode cX8_refusesBy 19 = .ok (.iadd, 1) := by decide +kernel
theorem dX8_refusesBy_20 : decode cX8_refusesBy 20 = .ok (.aload_n 0, 1) := by decide +kernel
theorem dX8_refusesBy_21 : decode cX8_refusesBy 21 = .ok (.getfield 36, 3) := by decide +kernel
theorem dX8_refusesBy_24 : decode cX8_refusesBy 24 = .ok (.iload_n 3, 1) := by decide +kernel
theorem dX8_refusesBy_25 : decode cX8_refusesBy 25 = .ok (.iaload, 1) := by decide +kernel
theorem dX8_refusesBy_26 : decode cX8_refusesBy 26 = .ok (.iastore, 1) := by decide +kernel
theorem dX8_refusesBy_27 : decode cX8_refusesBy 27 = .ok (.iinc 3 (-1), 3) := by decide +kernel
theorem dX8_refusesBy_30 : decode cX8_refusesBy 30 = .ok (.goto (-21), 3) := by decide +kernel
theorem dX8_refusesBy_33 : decode cX8_refusesBy 33 = .ok (.aload_n 0, 1) := by decide +kernel
theorem dX8_refusesBy_34 : decode cX8_refusesBy 34 = .ok (.getfield 36, 3) := by decide +kernel
theorem dX8_refusesBy_37 : decode cX8_refusesBy 37 = .ok (.iconst 0, 1) := by decide +kernel
theorem dX8_refusesBy_38 : decode cX8_refusesBy 38 = .ok (.iload_n 1, 1) := by decide +kernel
theorem dX8_refusesBy_39 : decode cX8_refusesBy 39 = .ok (.iastore, 1) := by decide +kernel
theorem dX8_refusesBy_40 : decode cX8_refusesBy 40 = .ok (.aload_n 0, 1) := by decide +kernel
theorem dX8_refusesBy_41 : decode cX8_refusesBy 41 = .ok (.getfield 36, 3) := by decide +kernel
theorem dX8_refusesBy_44 : decode cX8_refusesBy 44 = .ok (.iconst 1, 1) := by decide +kernel
theorem dX8_refusesBy_45 : decode cX8_refusesBy 45 = .ok (.iload_n 2, 1) := by decide +kernel
theorem dX8_refusesBy_46 : decode cX8_refusesBy 46 = .ok (.iastore, 1) := by decide +kernel
theorem dX8_refusesBy_47 : decode cX8_refusesBy 47 = .ok (.aload_n 0, 1) := by decide +kernel
theorem dX8_refusesBy_48 : decode cX8_refusesBy 48 = .ok (.dup, 1) := by decide +kernel
theorem dX8_refusesBy_49 : decode cX8_refusesBy 49 = .ok (.getfield 45, 3) := by decide +kernel
theorem dX8_refusesBy_52 : decode cX8_refusesBy 52 = .ok (.iconst 1, 1) := by decide +kernel
theorem dX8_refusesBy_53 : decode cX8_refusesBy 53 = .ok (.iadd, 1) := by decide +kernel
theorem dX8_refusesBy_54 : decode cX8_refusesBy 54 = .ok (.putfield 45, 3) := by decide +kernel
theorem dX8_refusesBy_57 : decode cX8_refusesBy 57 = .ok (.bipush (-3), 2) := by decide +kernel
theorem dX8_refusesBy_59 : decode cX8_refusesBy 59 = .ok (.ireturn, 1) := by decide +kernel
theorem dX8_does_0 : decode cX8_does 0 = .ok (.aload_n 0, 1) := by decide +kernel
theorem dX8_does_1 : decode cX8_does 1 = .ok (.iload_n 1, 1) := by decide +kernel
theorem dX8_does_2 : decode cX8_does 2 = .ok (.putfield 48, 3) := by decide +kernel
theorem dX8_does_5 : decode cX8_does 5 = .ok (.iconst 0, 1) := by decide +kernel
theorem dX8_does_6 : decode cX8_does 6 = .ok (.ireturn, 1) := by decide +kernel
theorem dX8_ends_0 : decode cX8_ends 0 = .ok (.iload_n 1, 1) := by decide +kernel
theorem dX8_ends_1 : decode cX8_ends 1 = .ok (.ifCond .ne 14, 3) := by decide +kernel
theorem dX8_ends_4 : decode cX8_ends 4 = .ok (.aload_n 0, 1) := by decide +kernel
theorem dX8_ends_5 : decode cX8_ends 5 = .ok (.aload_n 0, 1) := by decide +kernel
theorem dX8_ends_6 : decode cX8_ends 6 = .ok (.getfield 48, 3) := by decide +kernel
theorem dX8_ends_9 : decode cX8_ends 9 = .ok (.invokevirtual 51, 3) := by decide +kernel
theorem dX8_ends_12 : decode cX8_ends 12 = .ok (.goto 4, 3) := by decide +kernel
theorem dX8_ends_15 : decode cX8_ends 15 = .ok (.iload_n 1, 1) := by decide +kernel
theorem dX8_ends_16 : decode cX8_ends 16 = .ok (.ireturn, 1) := by decide +kernel
theorem dX8_isRink_0 : decode cX8_isRink 0 = .ok (.iload_n 1, 1) := by decide +kernel
theorem dX8_isRink_1 : decode cX8_isRink 1 = .ok (.iconst 0, 1) := by decide +kernel
theorem dX8_isRink_2 : decode cX8_isRink 2 = .ok (.aload_n 0, 1) := by decide +kernel
theorem dX8_isRink_3 : decode cX8_isRink 3 = .ok (.getfield 9, 3) := by decide +kernel
theorem dX8_isRink_6 : decode cX8_isRink 6 = .ok (.iconst 3, 1) := by decide +kernel
theorem dX8_isRink_7 : decode cX8_isRink 7 = .ok (.iaload, 1) := by decide +kernel
theorem dX8_isRink_8 : decode cX8_isRink 8 = .ok (.iconst 1, 1) := by decide +kernel
theorem dX8_isRink_9 : decode cX8_isRink 9 = .ok (.isub, 1) := by decide +kernel
theorem dX8_isRink_10 : decode cX8_isRink 10 = .ok (.invokestatic 55, 3) := by decide +kernel
theorem dX8_isRink_13 : decode cX8_isRink 13 = .ok (.ireturn, 1) := by decide +kernel
theorem dX8_isWood_0 : decode cX8_isWood 0 = .ok (.iload_n 1, 1) := by decide +kernel
theorem dX8_isWood_1 : decode cX8_isWood 1 = .ok (.iconst 0, 1) := by decide +kernel
theorem dX8_isWood_2 : decode cX8_isWood 2 = .ok (.aload_n 0, 1) := by decide +kernel
theorem dX8_isWood_3 : decode cX8_isWood 3 = .ok (.getfield 9, 3) := by decide +kernel
theorem dX8_isWood_6 : decode cX8_isWood 6 = .ok (.iconst 4, 1) := by decide +kernel
theorem dX8_isWood_7 : decode cX8_isWood 7 = .ok (.iaload, 1) := by decide +kernel
theorem dX8_isWood_8 : decode cX8_isWood 8 = .ok (.iconst 1, 1) := by decide +kernel
theorem dX8_isWood_9 : decode cX8_isWood 9 = .ok (.isub, 1) := by decide +kernel
theorem dX8_isWood_10 : decode cX8_isWood 10 = .ok (.invokestatic 55, 3) := by decide +kernel
theorem dX8_isWood_13 : decode cX8_isWood 13 = .ok (.ireturn, 1) := by decide +kernel
theorem dX8_ofRink_0 : decode cX8_ofRink 0 = .ok (.aload_n 0, 1) := by decide +kernel
theorem dX8_ofRink_1 : decode cX8_ofRink 1 = .ok (.getfield 9, 3) := by decide +kernel
theorem dX8_ofRink_4 : decode cX8_ofRink 4 = .ok (.bipush 17, 2) := by decide +kernel
theorem dX8_ofRink_6 : decode cX8_ofRink 6 = .ok (.bipush 10, 2) := by decide +kernel
theorem dX8_ofRink_8 : decode cX8_ofRink 8 = .ok (.iload_n 1, 1) := by decide +kernel
theorem dX8_ofRink_9 : decode cX8_ofRink 9 = .ok (.imul, 1) := by decide +kernel
theorem dX8_ofRink_10 : decode cX8_ofRink 10 = .ok (.iadd, 1) := by decide +kernel
theorem dX8_ofRink_11 : decode cX8_ofRink 11 = .ok (.iload_n 2, 1) := by decide +kernel
theorem dX8_ofRink_12 : decode cX8_ofRink 12 = .ok (.iadd, 1) := by decide +kernel
theorem dX8_ofRink_13 : decode cX8_ofRink 13 = .ok (.iaload, 1) := by decide +kernel
theorem dX8_ofRink_14 : decode cX8_ofRink 14 = .ok (.ireturn, 1) := by decide +kernel
theorem dX8_setsRink_0 : decode cX8_setsRink 0 = .ok (.aload_n 0, 1) := by decide +kernel
theorem dX8_setsRink_1 : decode cX8_setsRink 1 = .ok (.getfield 9, 3) := by decide +kernel
theorem dX8_setsRink_4 : decode cX8_setsRink 4 = .ok (.bipush 17, 2) := by decide +kernel
theorem dX8_setsRink_6 : decode cX8_setsRink 6 = .ok (.bipush 10, 2) := by decide +kernel
theorem dX8_setsRink_8 : decode cX8_setsRink 8 = .ok (.iload_n 1, 1) := by decide +kernel
theorem dX8_setsRink_9 : decode cX8_setsRink 9 = .ok (.imul, 1) := by decide +kernel
theorem dX8_setsRink_10 : decode cX8_setsRink 10 = .ok (.iadd, 1) := by decide +kernel
theorem dX8_setsRink_11 : decode cX8_setsRink 11 = .ok (.iload_n 2, 1) := by decide +kernel
theorem dX8_setsRink_12 : decode cX8_setsRink 12 = .ok (.iadd, 1) := by decide +kernel
theorem dX8_setsRink_13 : decode cX8_setsRink 13 = .ok (.iload_n 3, 1) := by decide +kernel
theorem dX8_setsRink_14 : decode cX8_setsRink 14 = .ok (.iastore, 1) := by decide +kernel
theorem dX8_setsRink_15 : decode cX8_setsRink 15 = .ok (.return_, 1) := by decide +kernel
theorem dX8_ofWood_0 : decode cX8_ofWood 0 = .ok (.aload_n 0, 1) := by decide +kernel
theorem dX8_ofWood_1 : decode cX8_ofWood 1 = .ok (.getfield 9, 3) := by decide +kernel
theorem dX8_ofWood_4 : decode cX8_ofWood 4 = .ok (.bipush 57, 2) := by decide +kernel
theorem dX8_ofWood_6 : decode cX8_ofWood 6 = .ok (.bipush 7, 2) := by decide +kernel
theorem dX8_ofWood_8 : decode cX8_ofWood 8 = .ok (.iload_n 1, 1) := by decide +kernel
theorem dX8_ofWood_9 : decode cX8_ofWood 9 = .ok (.imul, 1) := by decide +kernel
theorem dX8_ofWood_10 : decode cX8_ofWood 10 = .ok (.iadd, 1) := by decide +kernel
theorem dX8_ofWood_11 : decode cX8_ofWood 11 = .ok (.iload_n 2, 1) := by decide +kernel
theorem dX8_ofWood_12 : decode cX8_ofWood 12 = .ok (.iadd, 1) := by decide +kernel
theorem dX8_ofWood_13 : decode cX8_ofWood 13 = .ok (.iaload, 1) := by decide +kernel
theorem dX8_ofWood_14 : decode cX8_ofWood 14 = .ok (.ireturn, 1) := by decide +kernel
theorem dX8_setsWood_0 : decode cX8_setsWood 0 = .ok (.aload_n 0, 1) := by decide +kernel
theorem dX8_setsWood_1 : decode cX8_setsWood 1 = .ok (.getfield 9, 3) := by decide +kernel
theorem dX8_setsWood_4 : decode cX8_setsWood 4 = .ok (.bipush 57, 2) := by decide +kernel
theorem dX8_setsWood_6 : decode cX8_setsWood 6 = .ok (.bipush 7, 2) := by decide +kernel
theorem dX8_setsWood_8 : decode cX8_setsWood 8 = .ok (.iload_n 1, 1) := by decide +kernel
theorem dX8_setsWood_9 : decode cX8_setsWood 9 = .ok (.imul, 1) := by decide +kernel
theorem dX8_setsWood_10 : decode cX8_setsWood 10 = .ok (.iadd, 1) := by decide +kernel
theorem dX8_setsWood_11 : decode cX8_setsWood 11 = .ok (.iload_n 2, 1) := by decide +kernel
theorem dX8_setsWood_12 : decode cX8_setsWood 12 = .ok (.iadd, 1) := by decide +kernel
theorem dX8_setsWood_13 : decode cX8_setsWood 13 = .ok (.iload_n 3, 1) := by decide +kernel
theorem dX8_setsWood_14 : decode cX8_setsWood 14 = .ok (.iastore, 1) := by decide +kernel
theorem dX8_setsWood_15 : decode cX8_setsWood 15 = .ok (.return_, 1) := by decide +kernel
theorem dX8_clear_0 : decode cX8_clear 0 = .ok (.aload_n 0, 1) := by decide +kernel
theorem dX8_clear_1 : decode cX8_clear 1 = .ok (.getfield 9, 3) := by decide +kernel
theorem dX8_clear_4 : decode cX8_clear 4 = .ok (.iconst 0, 1) := by decide +kernel
theorem dX8_clear_5 : decode cX8_clear 5 = .ok (.iaload, 1) := by decide +kernel
theorem dX8_clear_6 : decode cX8_clear 6 = .ok (.istore_n 1, 1) := by decide +kernel
theorem dX8_clear_7 : decode cX8_clear 7 = .ok (.aload_n 0, 1) := by decide +kernel
theorem dX8_clear_8 : decode cX8_clear 8 = .ok (.invokevirtual 39, 3) := by decide +kernel
theorem dX8_clear_11 : decode cX8_clear 11 = .ok (.aload_n 0, 1) := by decide +kernel
theorem dX8_clear_12 : decode cX8_clear 12 = .ok (.iconst 0, 1) := by decide +kernel
theorem dX8_clear_13 : decode cX8_clear 13 = .ok (.putfield 42, 3) := by decide +kernel
theorem dX8_clear_16 : decode cX8_clear 16 = .ok (.iload_n 1, 1) := by decide +kernel
theorem dX8_clear_17 : decode cX8_clear 17 = .ok (.ireturn, 1) := by decide +kernel
theorem dX8_append_0 : decode cX8_append 0 = .ok (.iload_n 1, 1) := by decide +kernel
theorem dX8_append_1 : decode cX8_append 1 = .ok (.bipush 32, 2) := by decide +kernel
theorem dX8_append_3 : decode cX8_append 3 = .ok (.bipush 126, 2) := by decide +kernel
theorem dX8_append_5 : decode cX8_append 5 = .ok (.invokestatic 55, 3) := by decide +kernel
theorem dX8_append_8 : decode cX8_append 8 = .ok (.ifCond .eq 12, 3) := by decide +kernel
theorem dX8_append_11 : decode cX8_append 11 = .ok (.aload_n 0, 1) := by decide +kernel
theorem dX8_append_12 : decode cX8_append 12 = .ok (.getfield 59, 3) := by decide +kernel
theorem dX8_append_15 : decode cX8_append 15 = .ok (.bipush 60, 2) := by decide +kernel
theorem dX8_append_17 : decode cX8_append 17 = .ok (.if_icmp .ne 6, 3) := by decide +kernel
theorem dX8_append_20 : decode cX8_append 20 = .ok (.bipush (-2), 2) := by decide +kernel
theorem dX8_append_22 : decode cX8_append 22 = .ok (.ireturn, 1) := by decide +kernel
theorem dX8_append_23 : decode cX8_append 23 = .ok (.aload_n 0, 1) := by decide +kernel
theorem dX8_append_24 : decode cX8_append 24 = .ok (.getfield 25, 3) := by decide +kernel
theorem dX8_append_27 : decode cX8_append 27 = .ok (.aload_n 0, 1) := by decide +kernel
theorem dX8_append_28 : decode cX8_append 28 = .ok (.dup, 1) := by decide +kernel
theorem dX8_append_29 : decode cX8_append 29 = .ok (.getfield 59, 3) := by decide +kernel
theorem dX8_append_32 : decode cX8_append 32 = .ok (.dup_x1, 1) := by decide +kernel
theorem dX8_append_33 : decode cX8_append 33 = .ok (.iconst 1, 1) := by decide +kernel
theorem dX8_append_34 : decode cX8_append 34 = .ok (.iadd, 1) := by decide +kernel
theorem dX8_append_35 : decode cX8_append 35 = .ok (.putfield 59, 3) := by decide +kernel
theorem dX8_append_38 : decode cX8_append 38 = .ok (.iload_n 1, 1) := by decide +kernel
theorem dX8_append_39 : decode cX8_append 39 = .ok (.castore, 1) := by decide +kernel
theorem dX8_append_40 : decode cX8_append 40 = .ok (.aload_n 0, 1) := by decide +kernel
theorem dX8_append_41 : decode cX8_append 41 = .ok (.getfield 59, 3) := by decide +kernel
theorem dX8_append_44 : decode cX8_append 44 = .ok (.ireturn, 1) := by decide +kernel
theorem dX8_rink_0 : decode cX8_rink 0 = .ok (.aload_n 0, 1) := by decide +kernel
theorem dX8_rink_1 : decode cX8_rink 1 = .ok (.invokevirtual 62, 3) := by decide +kernel
theorem dX8_rink_4 : decode cX8_rink 4 = .ok (.iload_n 1, 1) := by decide +kernel
theorem dX8_rink_5 : decode cX8_rink 5 = .ok (.iconst 0, 1) := by decide +kernel
theorem dX8_rink_6 : decode cX8_rink 6 = .ok (.bipush 29, 2) := by decide +kernel
theorem dX8_rink_8 : decode cX8_rink 8 = .ok (.invokestatic 55, 3) := by decide +kernel
theorem dX8_rink_11 : decode cX8_rink 11 = .ok (.ifCond .eq 27, 3) := by decide +kernel
theorem dX8_rink_14 : decode cX8_rink 14 = .ok (.iload_n 2, 1) := by decide +kernel
theorem dX8_rink_15 : decode cX8_rink 15 = .ok (.iconst 0, 1) := by decide +kernel
theorem dX8_rink_16 : decode cX8_rink 16 = .ok (.bipush 29, 2) := by decide +kernel
theorem dX8_rink_18 : decode cX8_rink 18 = .ok (.invokestatic 55, 3) := by decide +kernel
theorem dX8_rink_21 : decode cX8_rink 21 = .ok (.ifCond .eq 17, 3) := by decide +kernel
theorem dX8_rink_24 : decode cX8_rink 24 = .ok (.iload_n 2, 1) := by decide +kernel
theorem dX8_rink_25 : decode cX8_rink 25 = .ok (.iload_n 1, 1) := by decide +kernel
theorem dX8_rink_26 : decode cX8_rink 26 = .ok (.isub, 1) := by decide +kernel
theorem dX8_rink_27 : decode cX8_rink 27 = .ok (.iconst 1, 1) := by decide +kernel
theorem dX8_rink_28 : decode cX8_rink 28 = .ok (.iadd, 1) := by decide +kernel
theorem dX8_rink_29 : decode cX8_rink 29 = .ok (.iconst 3, 1) := by decide +kernel
theorem dX8_rink_30 : decode cX8_rink 30 = .ok (.bipush 10, 2) := by decide +kernel
theorem dX8_rink_32 : decode cX8_rink 32 = .ok (.invokestatic 55, 3) := by decide +kernel
theorem dX8_rink_35 : decode cX8_rink 35 = .ok (.ifCond .ne 6, 3) := by decide +kernel
theorem dX8_rink_38 : decode cX8_rink 38 = .ok (.bipush (-2), 2) := by decide +kernel
theorem dX8_rink_40 : decode cX8_rink 40 = .ok (.ireturn, 1) := by decide +kernel
theorem dX8_rink_41 : decode cX8_rink 41 = .ok (.aload_n 0, 1) := by decide +kernel
theorem dX8_rink_42 : decode cX8_rink 42 = .ok (.getfield 9, 3) := by decide +kernel
theorem dX8_rink_45 : decode cX8_rink 45 = .ok (.iconst 3, 1) := by decide +kernel
theorem dX8_rink_46 : decode cX8_rink 46 = .ok (.iaload, 1) := by decide +kernel
theorem dX8_rink_47 : decode cX8_rink 47 = .ok (.istore_n 3, 1) := by decide +kernel
theorem dX8_rink_48 : decode cX8_rink 48 = .ok (.iload_n 3, 1) := by decide +kernel
theorem dX8_rink_49 : decode cX8_rink 49 = .ok (.iconst 4, 1) := by decide +kernel
theorem dX8_rink_50 : decode cX8_rink 50 = .ok (.if_icmp .ne 10, 3) := by decide +kernel
theorem dX8_rink_53 : decode cX8_rink 53 = .ok (.aload_n 0, 1) := by decide +kernel
theorem dX8_rink_54 : decode cX8_rink 54 = .ok (.iconst 1, 1) := by decide +kernel
theorem dX8_rink_55 : decode cX8_rink 55 = .ok (.iconst 4, 1) := by decide +kernel
theorem dX8_rink_56 : decode cX8_rink 56 = .ok (.invokevirtual 65, 3) := by decide +kernel
theorem dX8_rink_59 : decode cX8_rink 59 = .ok (.ireturn, 1) := by decide +kernel
theorem dX8_rink_60 : decode cX8_rink 60 = .ok (.iconst 0, 1) := by decide +kernel
theorem dX8_rink_61 : decode cX8_rink 61 = .ok (.istore 4, 2) := by decide +kernel
theorem dX8_rink_63 : decode cX8_rink 63 = .ok (.iload 4, 2) := by decide +kernel
theorem dX8_rink_65 : decode cX8_rink 65 = .ok (.iload_n 3, 1) := by decide +kernel
theorem dX8_rink_66 : decode cX8_rink 66 = .ok (.if_icmp .ge 39, 3) := by decide +kernel
theorem dX8_rink_69 : decode cX8_rink 69 = .ok (.iload_n 1, 1) := by decide +kernel
theorem dX8_rink_70 : decode cX8_rink 70 = .ok (.aload_n 0, 1) := by decide +kernel
theorem dX8_rink_71 : decode cX8_rink 71 = .ok (.iload 4, 2) := by decide +kernel
theorem dX8_rink_73 : decode cX8_rink 73 = .ok (.iconst 1, 1) := by decide +kernel
theorem dX8_rink_74 : decode cX8_rink 74 = .ok (.invokevirtual 69, 3) := by decide +kernel
theorem dX8_rink_77 : decode cX8_rink 77 = .ok (.if_icmp .gt 22, 3) := by decide +kernel
theorem dX8_rink_80 : decode cX8_rink 80 = .ok (.aload_n 0, 1) := by decide +kernel
theorem dX8_rink_81 : decode cX8_rink 81 = .ok (.iload 4, 2) := by decide +kernel
theorem dX8_rink_83 : decode cX8_rink 83 = .ok (.iconst 0, 1) := by decide +kernel
theorem dX8_rink_84 : decode cX8_rink 84 = .ok (.invokevirtual 69, 3) := by decide +kernel
theorem dX8_rink_87 : decode cX8_rink 87 = .ok (.iload_n 2, 1) := by decide +kernel
theorem dX8_rink_88 : decode cX8_rink 88 = .ok (.if_icmp .gt 11, 3) := by decide +kernel
theorem dX8_rink_91 : decode cX8_rink 91 = .ok (.aload_n 0, 1) := by decide +kernel
theorem dX8_rink_92 : decode cX8_rink 92 = .ok (.iconst 2, 1) := by decide +kernel
theorem dX8_rink_93 : decode cX8_rink 93 = .ok (.iload 4, 2) := by decide +kernel
theorem dX8_rink_95 : decode cX8_rink 95 = .ok (.invokevirtual 65, 3) := by decide +kernel
theorem dX8_rink_98 : decode cX8_rink 98 = .ok (.ireturn, 1) := by decide +kernel
theorem dX8_rink_99 : decode cX8_rink 99 = .ok (.iinc 4 1, 3) := by decide +kernel
theorem dX8_rink_102 : decode cX8_rink 102 = .ok (.goto (-39), 3) := by decide +kernel
theorem dX8_rink_105 : decode cX8_rink 105 = .ok (.aload_n 0, 1) := by decide +kernel
theorem dX8_rink_106 : decode cX8_rink 106 = .ok (.getfield 9, 3) := by decide +kernel
theorem dX8_rink_109 : decode cX8_rink 109 = .ok (.iconst 3, 1) := by decide +kernel
theorem dX8_rink_110 : decode cX8_rink 110 = .ok (.dup2, 1) := by decide +kernel
theorem dX8_rink_111 : decode cX8_rink 111 = .ok (.iaload, 1) := by decide +kernel
theorem dX8_rink_112 : decode cX8_rink 112 = .ok (.iconst 1, 1) := by decide +kernel
theorem dX8_rink_113 : decode cX8_rink 113 = .ok (.iadd, 1) := by decide +kernel
theorem dX8_rink_114 : decode cX8_rink 114 = .ok (.iastore, 1) := by decide +kernel
theorem dX8_rink_115 : decode cX8_rink 115 = .ok (.iconst 0, 1) := by decide +kernel
theorem dX8_rink_116 : decode cX8_rink 116 = .ok (.istore 4, 2) := by decide +kernel
theorem dX8_rink_118 : decode cX8_rink 118 = .ok (.iload 4, 2) := by decide +kernel
theorem dX8_rink_120 : decode cX8_rink 120 = .ok (.bipush 10, 2) := by decide +kernel
theorem dX8_rink_122 : decode cX8_rink 122 = .ok (.if_icmp .ge 17, 3) := by decide +kernel
theorem dX8_rink_125 : decode cX8_rink 125 = .ok (.aload_n 0, 1) := by decide +kernel
theorem dX8_rink_126 : decode cX8_rink 126 = .ok (.iload_n 3, 1) := by decide +kernel
theorem dX8_rink_127 : decode cX8_rink 127 = .ok (.iload 4, 2) := by decide +kernel
theorem dX8_rink_129 : decode cX8_rink 129 = .ok (.iconst 0, 1) := by decide +kernel
theorem dX8_rink_130 : decode cX8_rink 130 = .ok (.invokevirtual 72, 3) := by decide +kernel
theorem dX8_rink_133 : decode cX8_rink 133 = .ok (.iinc 4 1, 3) := by decide +kernel
theorem dX8_rink_136 : decode cX8_rink 136 = .ok (.goto (-18), 3) := by decide +kernel
theorem dX8_rink_139 : decode cX8_rink 139 = .ok (.aload_n 0, 1) := by decide +kernel
theorem dX8_rink_140 : decode cX8_rink 140 = .ok (.iload_n 3, 1) := by decide +kernel
theorem dX8_rink_141 : decode cX8_rink 141 = .ok (.iconst 0, 1) := by decide +kernel
theorem dX8_rink_142 : decode cX8_rink 142 = .ok (.iload_n 1, 1) := by decide +kernel
theorem dX8_rink_143 : decode cX8_rink 143 = .ok (.invokevirtual 72, 3) := by decide +kernel
theorem dX8_rink_146 : decode cX8_rink 146 = .ok (.aload_n 0, 1) := by decide +kernel
theorem dX8_rink_147 : decode cX8_rink 147 = .ok (.iload_n 3, 1) := by decide +kernel
theorem dX8_rink_148 : decode cX8_rink 148 = .ok (.iconst 1, 1) := by decide +kernel
theorem dX8_rink_149 : decode cX8_rink 149 = .ok (.iload_n 2, 1) := by decide +kernel
theorem dX8_rink_150 : decode cX8_rink 150 = .ok (.invokevirtual 72, 3) := by decide +kernel
theorem dX8_rink_153 : decode cX8_rink 153 = .ok (.aload_n 0, 1) := by decide +kernel
theorem dX8_rink_154 : decode cX8_rink 154 = .ok (.iload_n 3, 1) := by decide +kernel
theorem dX8_rink_155 : decode cX8_rink 155 = .ok (.invokevirtual 51, 3) := by decide +kernel
theorem dX8_rink_158 : decode cX8_rink 158 = .ok (.ireturn, 1) := by decide +kernel
theorem dX8_wood_0 : decode cX8_wood 0 = .ok (.aload_n 0, 1) := by decide +kernel
theorem dX8_wood_1 : decode cX8_wood 1 = .ok (.invokevirtual 62, 3) := by decide +kernel
theorem dX8_wood_4 : decode cX8_wood 4 = .ok (.iload_n 1, 1) := by decide +kernel
theorem dX8_wood_5 : decode cX8_wood 5 = .ok (.iconst 0, 1) := by decide +kernel
theorem dX8_wood_6 : decode cX8_wood 6 = .ok (.iconst 1, 1) := by decide +kernel
theorem dX8_wood_7 : decode cX8_wood 7 = .ok (.invokestatic 55, 3) := by decide +kernel
theorem dX8_wood_10 : decode cX8_wood 10 = .ok (.ifCond .ne 5, 3) := by decide +kernel
theorem dX8_wood_13 : decode cX8_wood 13 = .ok (.iconst (-1), 1) := by decide +kernel
theorem dX8_wood_14 : decode cX8_wood 14 = .ok (.ireturn, 1) := by decide +kernel
theorem dX8_wood_15 : decode cX8_wood 15 = .ok (.iload_n 2, 1) := by decide +kernel
theorem dX8_wood_16 : decode cX8_wood 16 = .ok (.iconst 0, 1) := by decide +kernel
theorem dX8_wood_17 : decode cX8_wood 17 = .ok (.bipush 9, 2) := by decide +kernel
theorem dX8_wood_19 : decode cX8_wood 19 = .ok (.invokestatic 55, 3) := by decide +kernel
theorem dX8_wood_22 : decode cX8_wood 22 = .ok (.ifCond .ne 6, 3) := by decide +kernel
theorem dX8_wood_25 : decode cX8_wood 25 = .ok (.bipush (-2), 2) := by decide +kernel
theorem dX8_wood_27 : decode cX8_wood 27 = .ok (.ireturn, 1) := by decide +kernel
theorem dX8_wood_28 : decode cX8_wood 28 = .ok (.aload_n 0, 1) := by decide +kernel
theorem dX8_wood_29 : decode cX8_wood 29 = .ok (.getfield 9, 3) := by decide +kernel
theorem dX8_wood_32 : decode cX8_wood 32 = .ok (.iconst 4, 1) := by decide +kernel
theorem dX8_wood_33 : decode cX8_wood 33 = .ok (.iaload, 1) := by decide +kernel
theorem dX8_wood_34 : decode cX8_wood 34 = .ok (.istore_n 3, 1) := by decide +kernel
theorem dX8_wood_35 : decode cX8_wood 35 = .ok (.iload_n 3, 1) := by decide +kernel
theorem dX8_wood_36 : decode cX8_wood 36 = .ok (.bipush 16, 2) := by decide +kernel
theorem dX8_wood_38 : decode cX8_wood 38 = .ok (.if_icmp .ne 11, 3) := by decide +kernel
theorem dX8_wood_41 : decode cX8_wood 41 = .ok (.aload_n 0, 1) := by decide +kernel
theorem dX8_wood_42 : decode cX8_wood 42 = .ok (.iconst 1, 1) := by decide +kernel
theorem dX8_wood_43 : decode cX8_wood 43 = .ok (.bipush 16, 2) := by decide +kernel
theorem dX8_wood_45 : decode cX8_wood 45 = .ok (.invokevirtual 65, 3) := by decide +kernel
theorem dX8_wood_48 : decode cX8_wood 48 = .ok (.ireturn, 1) := by decide +kernel
theorem dX8_wood_49 : decode cX8_wood 49 = .ok (.aload_n 0, 1) := by decide +kernel
theorem dX8_wood_50 : decode cX8_wood 50 = .ok (.getfield 9, 3) := by decide +kernel
theorem dX8_wood_53 : decode cX8_wood 53 = .ok (.iconst 4, 1) := by decide +kernel
theorem dX8_wood_54 : decode cX8_wood 54 = .ok (.dup2, 1) := by decide +kernel
theorem dX8_wood_55 : decode cX8_wood 55 = .ok (.iaload, 1) := by decide +kernel
theorem dX8_wood_56 : decode cX8_wood 56 = .ok (.iconst 1, 1) := by decide +kernel
theorem dX8_wood_57 : decode cX8_wood 57 = .ok (.iadd, 1) := by decide +kernel
theorem dX8_wood_58 : decode cX8_wood 58 = .ok (.iastore, 1) := by decide +kernel
theorem dX8_wood_59 : decode cX8_wood 59 = .ok (.iconst 0, 1) := by decide +kernel
theorem dX8_wood_60 : decode cX8_wood 60 = .ok (.istore 4, 2) := by decide +kernel
theorem dX8_wood_62 : decode cX8_wood 62 = .ok (.iload 4, 2) := by decide +kernel
theorem dX8_wood_64 : decode cX8_wood 64 = .ok (.bipush 7, 2) := by decide +kernel
theorem dX8_wood_66 : decode cX8_wood 66 = .ok (.if_icmp .ge 17, 3) := by decide +kernel
theorem dX8_wood_69 : decode cX8_wood 69 = .ok (.aload_n 0, 1) := by decide +kernel
theorem dX8_wood_70 : decode cX8_wood 70 = .ok (.iload_n 3, 1) := by decide +kernel
theorem dX8_wood_71 : decode cX8_wood 71 = .ok (.iload 4, 2) := by decide +kernel
theorem dX8_wood_73 : decode cX8_wood 73 = .ok (.iconst 0, 1) := by decide +kernel
theorem dX8_wood_74 : decode cX8_wood 74 = .ok (.invokevirtual 76, 3) := by decide +kernel
theorem dX8_wood_77 : decode cX8_wood 77 = .ok (.iinc 4 1, 3) := by decide +kernel
theorem dX8_wood_80 : decode cX8_wood 80 = .ok (.goto (-18), 3) := by decide +kernel
theorem dX8_wood_83 : decode cX8_wood 83 = .ok (.aload_n 0, 1) := by decide +kernel
theorem dX8_wood_84 : decode cX8_wood 84 = .ok (.iload_n 3, 1) := by decide +kernel
theorem dX8_wood_85 : decode cX8_wood 85 = .ok (.iconst 0, 1) := by decide +kernel
theorem dX8_wood_86 : decode cX8_wood 86 = .ok (.iload_n 1, 1) := by decide +kernel
theorem dX8_wood_87 : decode cX8_wood 87 = .ok (.invokevirtual 76, 3) := by decide +kernel
theorem dX8_wood_90 : decode cX8_wood 90 = .ok (.aload_n 0, 1) := by decide +kernel
theorem dX8_wood_91 : decode cX8_wood 91 = .ok (.iload_n 3, 1) := by decide +kernel
theorem dX8_wood_92 : decode cX8_wood 92 = .ok (.iconst 1, 1) := by decide +kernel
theorem dX8_wood_93 : decode cX8_wood 93 = .ok (.iload_n 2, 1) := by decide +kernel
theorem dX8_wood_94 : decode cX8_wood 94 = .ok (.invokevirtual 76, 3) := by decide +kernel
theorem dX8_wood_97 : decode cX8_wood 97 = .ok (.aload_n 0, 1) := by decide +kernel
theorem dX8_wood_98 : decode cX8_wood 98 = .ok (.iload_n 3, 1) := by decide +kernel
theorem dX8_wood_99 : decode cX8_wood 99 = .ok (.invokevirtual 51, 3) := by decide +kernel
theorem dX8_wood_102 : decode cX8_wood 102 = .ok (.ireturn, 1) := by decide +kernel
theorem dX8_changed_0 : decode cX8_changed 0 = .ok (.iconst 0, 1) := by decide +kernel
theorem dX8_changed_1 : decode cX8_changed 1 = .ok (.bipush 20, 2) := by decide +kernel
theorem dX8_changed_3 : decode cX8_changed 3 = .ok (.iload_n 1, 1) := by decide +kernel
theorem dX8_changed_4 : decode cX8_changed 4 = .ok (.aload_n 0, 1) := by decide +kernel
theorem dX8_changed_5 : decode cX8_changed 5 = .ok (.getfield 9, 3) := by decide +kernel
theorem dX8_changed_8 : decode cX8_changed 8 = .ok (.iconst 1, 1) := by decide +kernel
theorem dX8_changed_9 : decode cX8_changed 9 = .ok (.iaload, 1) := by decide +kernel
theorem dX8_changed_10 : decode cX8_changed 10 = .ok (.iadd, 1) := by decide +kernel
theorem dX8_changed_11 : decode cX8_changed 11 = .ok (.aload_n 0, 1) := by decide +kernel
theorem dX8_changed_12 : decode cX8_changed 12 = .ok (.getfield 9, 3) := by decide +kernel
theorem dX8_changed_15 : decode cX8_changed 15 = .ok (.iconst 2, 1) := by decide +kernel
theorem dX8_changed_16 : decode cX8_changed 16 = .ok (.iaload, 1) := by decide +kernel
theorem dX8_changed_17 : decode cX8_changed 17 = .ok (.isub, 1) := by decide +kernel
theorem dX8_changed_18 : decode cX8_changed 18 = .ok (.invokestatic 79, 3) := by decide +kernel
theorem dX8_changed_21 : decode cX8_changed 21 = .ok (.invokestatic 84, 3) := by decide +kernel
theorem dX8_changed_24 : decode cX8_changed 24 = .ok (.ireturn, 1) := by decide +kernel
theorem dX8_hoursToDry_0 : decode cX8_hoursToDry 0 = .ok (.aload_n 0, 1) := by decide +kernel
theorem dX8_hoursToDry_1 : decode cX8_hoursToDry 1 = .ok (.iload_n 1, 1) := by decide +kernel
theorem dX8_hoursToDry_2 : decode cX8_hoursToDry 2 = .ok (.iconst 2, 1) := by decide +kernel
theorem dX8_hoursToDry_3 : decode cX8_hoursToDry 3 = .ok (.invokevirtual 69, 3) := by decide +kernel
theorem dX8_hoursToDry_6 : decode cX8_hoursToDry 6 = .ok (.istore_n 2, 1) := by decide +kernel
theorem dX8_hoursToDry_7 : decode cX8_hoursToDry 7 = .ok (.iconst 0, 1) := by decide +kernel
theorem dX8_hoursToDry_8 : decode cX8_hoursToDry 8 = .ok (.istore_n 3, 1) := by decide +kernel
theorem dX8_hoursToDry_9 : decode cX8_hoursToDry 9 = .ok (.iload_n 3, 1) := by decide +kernel
theorem dX8_hoursToDry_10 : decode cX8_hoursToDry 10 = .ok (.bipush 40, 2) := by decide +kernel
theorem dX8_hoursToDry_12 : decode cX8_hoursToDry 12 = .ok (.if_icmp .gt 21, 3) := by decide +kernel
theorem dX8_hoursToDry_15 : decode cX8_hoursToDry 15 = .ok (.iload_n 2, 1) := by decide +kernel
theorem dX8_hoursToDry_16 : decode cX8_hoursToDry 16 = .ok (.bipush 8, 2) := by decide +kernel
theorem dX8_hoursToDry_18 : decode cX8_hoursToDry 18 = .ok (.if_icmp .lt 15, 3) := by decide +kernel
theorem dX8_hoursToDry_21 : decode cX8_hoursToDry 21 = .ok (.aload_n 0, 1) := by decide +kernel
theorem dX8_hoursToDry_22 : decode cX8_hoursToDry 22 = .ok (.iload_n 2, 1) := by decide +kernel
theorem dX8_hoursToDry_23 : decode cX8_hoursToDry 23 = .ok (.invokevirtual 87, 3) := by decide +kernel
theorem dX8_hoursToDry_26 : decode cX8_hoursToDry 26 = .ok (.istore_n 2, 1) := by decide +kernel
theorem dX8_hoursToDry_27 : decode cX8_hoursToDry 27 = .ok (.iinc 3 1, 3) := by decide +kernel
theorem dX8_hoursToDry_30 : decode cX8_hoursToDry 30 = .ok (.goto (-21), 3) := by decide +kernel
theorem dX8_hoursToDry_33 : decode cX8_hoursToDry 33 = .ok (.iload_n 3, 1) := by decide +kernel
theorem dX8_hoursToDry_34 : decode cX8_hoursToDry 34 = .ok (.bipush 40, 2) := by decide +kernel
theorem dX8_hoursToDry_36 : decode cX8_hoursToDry 36 = .ok (.if_icmp .gt 7, 3) := by decide +kernel
theorem dX8_hoursToDry_39 : decode cX8_hoursToDry 39 = .ok (.iload_n 3, 1) := by decide +kernel
theorem dX8_hoursToDry_40 : decode cX8_hoursToDry 40 = .ok (.goto 4, 3) := by decide +kernel
theorem dX8_hoursToDry_43 : decode cX8_hoursToDry 43 = .ok (.iconst (-1), 1) := by decide +kernel
theorem dX8_hoursToDry_44 : decode cX8_hoursToDry 44 = .ok (.ireturn, 1) := by decide +kernel
theorem dX8_starts_0 : decode cX8_starts 0 = .ok (.aload_n 0, 1) := by decide +kernel
theorem dX8_starts_1 : decode cX8_starts 1 = .ok (.iload_n 1, 1) := by decide +kernel
theorem dX8_starts_2 : decode cX8_starts 2 = .ok (.invokevirtual 90, 3) := by decide +kernel
theorem dX8_starts_5 : decode cX8_starts 5 = .ok (.ifCond .ne 5, 3) := by decide +kernel
theorem dX8_starts_8 : decode cX8_starts 8 = .ok (.iconst (-1), 1) := by decide +kernel
theorem dX8_starts_9 : decode cX8_starts 9 = .ok (.ireturn, 1) := by decide +kernel
theorem dX8_starts_10 : decode cX8_starts 10 = .ok (.iload_n 2, 1) := by decide +kernel
theorem dX8_starts_11 : decode cX8_starts 11 = .ok (.bipush 20, 2) := by decide +kernel
theorem dX8_starts_13 : decode cX8_starts 13 = .ok (.bipush 40, 2) := by decide +kernel
theorem dX8_starts_15 : decode cX8_starts 15 = .ok (.invokestatic 55, 3) := by decide +kernel
theorem dX8_starts_18 : decode cX8_starts 18 = .ok (.ifCond .ne 6, 3) := by decide +kernel
theorem dX8_starts_21 : decode cX8_starts 21 = .ok (.bipush (-2), 2) := by decide +kernel
theorem dX8_starts_23 : decode cX8_starts 23 = .ok (.ireturn, 1) := by decide +kernel
theorem dX8_starts_24 : decode cX8_starts 24 = .ok (.aload_n 0, 1) := by decide +kernel
theorem dX8_starts_25 : decode cX8_starts 25 = .ok (.iload_n 1, 1) := by decide +kernel
theorem dX8_starts_26 : decode cX8_starts 26 = .ok (.iconst 4, 1) := by decide +kernel
theorem dX8_starts_27 : decode cX8_starts 27 = .ok (.invokevirtual 69, 3) := by decide +kernel
theorem dX8_starts_30 : decode cX8_starts 30 = .ok (.ifCond .le 15, 3) := by decide +kernel
theorem dX8_starts_33 : decode cX8_starts 33 = .ok (.aload_n 0, 1) := by decide +kernel
theorem dX8_starts_34 : decode cX8_starts 34 = .ok (.iconst 4, 1) := by decide +kernel
theorem dX8_starts_35 : decode cX8_starts 35 = .ok (.aload_n 0, 1) := by decide +kernel
theorem dX8_starts_36 : decode cX8_starts 36 = .ok (.iload_n 1, 1) := by decide +kernel
theorem dX8_starts_37 : decode cX8_starts 37 = .ok (.iconst 4, 1) := by decide +kernel
theorem dX8_starts_38 : decode cX8_starts 38 = .ok (.invokevirtual 69, 3) := by decide +kernel
theorem dX8_starts_41 : decode cX8_starts 41 = .ok (.invokevirtual 65, 3) := by decide +kernel
theorem dX8_starts_44 : decode cX8_starts 44 = .ok (.ireturn, 1) := by decide +kernel
theorem dX8_starts_45 : decode cX8_starts 45 = .ok (.aload_n 0, 1) := by decide +kernel
theorem dX8_starts_46 : decode cX8_starts 46 = .ok (.iload_n 1, 1) := by decide +kernel
theorem dX8_starts_47 : decode cX8_starts 47 = .ok (.iconst 2, 1) := by decide +kernel
theorem dX8_starts_48 : decode cX8_starts 48 = .ok (.invokevirtual 69, 3) := by decide +kernel
theorem dX8_starts_51 : decode cX8_starts 51 = .ok (.bipush 8, 2) := by decide +kernel
theorem dX8_starts_53 : decode cX8_starts 53 = .ok (.if_icmp .lt 27, 3) := by decide +kernel
theorem dX8_starts_56 : decode cX8_starts 56 = .ok (.aload_n 0, 1) := by decide +kernel
theorem dX8_starts_57 : decode cX8_starts 57 = .ok (.bipush 13, 2) := by decide +kernel
theorem dX8_starts_59 : decode cX8_starts 59 = .ok (.aload_n 0, 1) := by decide +kernel
theorem dX8_starts_60 : decode cX8_starts 60 = .ok (.iload_n 1, 1) := by decide +kernel
theorem dX8_starts_61 : decode cX8_starts 61 = .ok (.invokevirtual 94, 3) := by decide +kernel
theorem dX8_starts_64 : decode cX8_starts 64 = .ok (.invokevirtual 65, 3) := by decide +kernel
theorem dX8_starts_67 : decode cX8_starts 67 = .ok (.istore_n 3, 1) := by decide +kernel
theorem dX8_starts_68 : decode cX8_starts 68 = .ok (.aload_n 0, 1) := by decide +kernel
theorem dX8_starts_69 : decode cX8_starts 69 = .ok (.iconst 3, 1) := by decide +kernel
theorem dX8_starts_70 : decode cX8_starts 70 = .ok (.aload_n 0, 1) := by decide +kernel
theorem dX8_starts_71 : decode cX8_starts 71 = .ok (.iload_n 1, 1) := by decide +kernel
theorem dX8_starts_72 : decode cX8_starts 72 = .ok (.iconst 2, 1) := by decide +kernel
theorem dX8_starts_73 : decode cX8_starts 73 = .ok (.invokevirtual 69, 3) := by decide +kernel
theorem dX8_starts_76 : decode cX8_starts 76 = .ok (.invokevirtual 97, 3) := by decide +kernel
theorem dX8_starts_79 : decode cX8_starts 79 = .ok (.ireturn, 1) := by decide +kernel
theorem dX8_starts_80 : decode cX8_starts 80 = .ok (.aload_n 0, 1) := by decide +kernel
theorem dX8_starts_81 : decode cX8_starts 81 = .ok (.iload_n 1, 1) := by decide +kernel
theorem dX8_starts_82 : decode cX8_starts 82 = .ok (.iconst 4, 1) := by decide +kernel
theorem dX8_starts_83 : decode cX8_starts 83 = .ok (.iload_n 2, 1) := by decide +kernel
theorem dX8_starts_84 : decode cX8_starts 84 = .ok (.invokevirtual 72, 3) := by decide +kernel
theorem dX8_starts_87 : decode cX8_starts 87 = .ok (.aload_n 0, 1) := by decide +kernel
theorem dX8_starts_88 : decode cX8_starts 88 = .ok (.iload_n 1, 1) := by decide +kernel
theorem dX8_starts_89 : decode cX8_starts 89 = .ok (.iconst 5, 1) := by decide +kernel
theorem dX8_starts_90 : decode cX8_starts 90 = .ok (.aload_n 0, 1) := by decide +kernel
theorem dX8_starts_91 : decode cX8_starts 91 = .ok (.iload_n 1, 1) := by decide +kernel
theorem dX8_starts_92 : decode cX8_starts 92 = .ok (.bipush 6, 2) := by decide +kernel
theorem dX8_starts_94 : decode cX8_starts 94 = .ok (.invokevirtual 69, 3) := by decide +kernel
theorem dX8_starts_97 : decode cX8_starts 97 = .ok (.invokevirtual 72, 3) := by decide +kernel
theorem dX8_starts_100 : decode cX8_starts 100 = .ok (.aload_n 0, 1) := by decide +kernel
theorem dX8_starts_101 : decode cX8_starts 101 = .ok (.iload_n 1, 1) := by decide +kernel
theorem dX8_starts_102 : decode cX8_starts 102 = .ok (.bipush 7, 2) := by decide +kernel
theorem dX8_starts_104 : decode cX8_starts 104 = .ok (.iconst 0, 1) := by decide +kernel
theorem dX8_starts_105 : decode cX8_starts 105 = .ok (.invokevirtual 72, 3) := by decide +kernel
theorem dX8_starts_108 : decode cX8_starts 108 = .ok (.aload_n 0, 1) := by decide +kernel
theorem dX8_starts_109 : decode cX8_starts 109 = .ok (.iload_n 1, 1) := by decide +kernel
theorem dX8_starts_110 : decode cX8_starts 110 = .ok (.bipush 8, 2) := by decide +kernel
theorem dX8_starts_112 : decode cX8_starts 112 = .ok (.iconst 0, 1) := by decide +kernel
theorem dX8_starts_113 : decode cX8_starts 113 = .ok (.invokevirtual 72, 3) := by decide +kernel
theorem dX8_starts_116 : decode cX8_starts 116 = .ok (.aload_n 0, 1) := by decide +kernel
theorem dX8_starts_117 : decode cX8_starts 117 = .ok (.aload_n 0, 1) := by decide +kernel
theorem dX8_starts_118 : decode cX8_starts 118 = .ok (.iload_n 1, 1) := by decide +kernel
theorem dX8_starts_119 : decode cX8_starts 119 = .ok (.iconst 5, 1) := by decide +kernel
theorem dX8_starts_120 : decode cX8_starts 120 = .ok (.invokevirtual 69, 3) := by decide +kernel
theorem dX8_starts_123 : decode cX8_starts 123 = .ok (.invokevirtual 100, 3) := by decide +kernel
theorem dX8_starts_126 : decode cX8_starts 126 = .ok (.ireturn, 1) := by decide +kernel
theorem dX8_begin_0 : decode cX8_begin 0 = .ok (.aload_n 0, 1) := by decide +kernel
theorem dX8_begin_1 : decode cX8_begin 1 = .ok (.invokevirtual 62, 3) := by decide +kernel
theorem dX8_begin_4 : decode cX8_begin 4 = .ok (.aload_n 0, 1) := by decide +kernel
theorem dX8_begin_5 : decode cX8_begin 5 = .ok (.aload_n 0, 1) := by decide +kernel
theorem dX8_begin_6 : decode cX8_begin 6 = .ok (.iload_n 1, 1) := by decide +kernel
theorem dX8_begin_7 : decode cX8_begin 7 = .ok (.iload_n 2, 1) := by decide +kernel
theorem dX8_begin_8 : decode cX8_begin 8 = .ok (.invokevirtual 103, 3) := by decide +kernel
theorem dX8_begin_11 : decode cX8_begin 11 = .ok (.invokevirtual 106, 3) := by decide +kernel
theorem dX8_begin_14 : decode cX8_begin 14 = .ok (.ireturn, 1) := by decide +kernel
theorem dX8_isTaken_0 : decode cX8_isTaken 0 = .ok (.iconst 0, 1) := by decide +kernel
theorem dX8_isTaken_1 : decode cX8_isTaken 1 = .ok (.istore 5, 2) := by decide +kernel
theorem dX8_isTaken_3 : decode cX8_isTaken 3 = .ok (.iload 5, 2) := by decide +kernel
theorem dX8_isTaken_5 : decode cX8_isTaken 5 = .ok (.aload_n 0, 1) := by decide +kernel
theorem dX8_isTaken_6 : decode cX8_isTaken 6 = .ok (.getfield 9, 3) := by decide +kernel
theorem dX8_isTaken_9 : decode cX8_isTaken 9 = .ok (.iconst 4, 1) := by decide +kernel
theorem dX8_isTaken_10 : decode cX8_isTaken 10 = .ok (.iaload, 1) := by decide +kernel
theorem dX8_isTaken_11 : decode cX8_isTaken 11 = .ok (.if_icmp .ge 62, 3) := by decide +kernel
theorem dX8_isTaken_14 : decode cX8_isTaken 14 = .ok (.iload 5, 2) := by decide +kernel
theorem dX8_isTaken_16 : decode cX8_isTaken 16 = .ok (.iload 4, 2) := by decide +kernel
theorem dX8_isTaken_18 : decode cX8_isTaken 18 = .ok (.if_icmp .eq 49, 3) := by decide +kernel
theorem dX8_isTaken_21 : decode cX8_isTaken 21 = .ok (.aload_n 0, 1) := by decide +kernel
theorem dX8_isTaken_22 : decode cX8_isTaken 22 = .ok (.iload 5, 2) := by decide +kernel
theorem dX8_isTaken_24 : decode cX8_isTaken 24 = .ok (.iconst 2, 1) := by decide +kernel
theorem dX8_isTaken_25 : decode cX8_isTaken 25 = .ok (.invokevirtual 109, 3) := by decide +kernel
theorem dX8_isTaken_28 : decode cX8_isTaken 28 = .ok (.iconst 1, 1) := by decide +kernel
theorem dX8_isTaken_29 : decode cX8_isTaken 29 = .ok (.if_icmp .ne 38, 3) := by decide +kernel
theorem dX8_isTaken_32 : decode cX8_isTaken 32 = .ok (.aload_n 0, 1) := by decide +kernel
theorem dX8_isTaken_33 : decode cX8_isTaken 33 = .ok (.iload 5, 2) := by decide +kernel
theorem dX8_isTaken_35 : decode cX8_isTaken 35 = .ok (.iconst 3, 1) := by decide +kernel
theorem dX8_isTaken_36 : decode cX8_isTaken 36 = .ok (.invokevirtual 109, 3) := by decide +kernel
theorem dX8_isTaken_39 : decode cX8_isTaken 39 = .ok (.iload_n 1, 1) := by decide +kernel
theorem dX8_isTaken_40 : decode cX8_isTaken 40 = .ok (.if_icmp .ne 27, 3) := by decide +kernel
theorem dX8_isTaken_43 : decode cX8_isTaken 43 = .ok (.aload_n 0, 1) := by decide +kernel
theorem dX8_isTaken_44 : decode cX8_isTaken 44 = .ok (.iload 5, 2) := by decide +kernel
theorem dX8_isTaken_46 : decode cX8_isTaken 46 = .ok (.iconst 4, 1) := by decide +kernel
theorem dX8_isTaken_47 : decode cX8_isTaken 47 = .ok (.invokevirtual 109, 3) := by decide +kernel
theorem dX8_isTaken_50 : decode cX8_isTaken 50 = .ok (.iload_n 2, 1) := by decide +kernel
theorem dX8_isTaken_51 : decode cX8_isTaken 51 = .ok (.if_icmp .ne 16, 3) := by decide +kernel
theorem dX8_isTaken_54 : decode cX8_isTaken 54 = .ok (.aload_n 0, 1) := by decide +kernel
theorem dX8_isTaken_55 : decode cX8_isTaken 55 = .ok (.iload 5, 2) := by decide +kernel
theorem dX8_isTaken_57 : decode cX8_isTaken 57 = .ok (.iconst 5, 1) := by decide +kernel
theorem dX8_isTaken_58 : decode cX8_isTaken 58 = .ok (.invokevirtual 109, 3) := by decide +kernel
theorem dX8_isTaken_61 : decode cX8_isTaken 61 = .ok (.iload_n 3, 1) := by decide +kernel
theorem dX8_isTaken_62 : decode cX8_isTaken 62 = .ok (.if_icmp .ne 5, 3) := by decide +kernel
theorem dX8_isTaken_65 : decode cX8_isTaken 65 = .ok (.iconst 1, 1) := by decide +kernel
theorem dX8_isTaken_66 : decode cX8_isTaken 66 = .ok (.ireturn, 1) := by decide +kernel
theorem dX8_isTaken_67 : decode cX8_isTaken 67 = .ok (.iinc 5 1, 3) := by decide +kernel
theorem dX8_isTaken_70 : decode cX8_isTaken 70 = .ok (.goto (-67), 3) := by decide +kernel
theorem dX8_isTaken_73 : decode cX8_isTaken 73 = .ok (.iconst 0, 1) := by decide +kernel
theorem dX8_isTaken_74 : decode cX8_isTaken 74 = .ok (.ireturn, 1) := by decide +kernel
theorem dX8_columnOf_0 : decode cX8_columnOf 0 = .ok (.aload_n 0, 1) := by decide +kernel
theorem dX8_columnOf_1 : decode cX8_columnOf 1 = .ok (.iload_n 1, 1) := by decide +kernel
theorem dX8_columnOf_2 : decode cX8_columnOf 2 = .ok (.iconst 1, 1) := by decide +kernel
theorem dX8_columnOf_3 : decode cX8_columnOf 3 = .ok (.invokevirtual 109, 3) := by decide +kernel
theorem dX8_columnOf_6 : decode cX8_columnOf 6 = .ok (.iload_n 3, 1) := by decide +kernel
theorem dX8_columnOf_7 : decode cX8_columnOf 7 = .ok (.imul, 1) := by decide +kernel
theorem dX8_columnOf_8 : decode cX8_columnOf 8 = .ok (.bipush 10, 2) := by decide +kernel
theorem dX8_columnOf_10 : decode cX8_columnOf 10 = .ok (.idiv, 1) := by decide +kernel
theorem dX8_columnOf_11 : decode cX8_columnOf 11 = .ok (.istore 5, 2) := by decide +kernel
theorem dX8_columnOf_13 : decode cX8_columnOf 13 = .ok (.iload 4, 2) := by decide +kernel
theorem dX8_columnOf_15 : decode cX8_columnOf 15 = .ok (.ifCond .eq 10, 3) := by decide +kernel
theorem dX8_columnOf_18 : decode cX8_columnOf 18 = .ok (.iload_n 2, 1) := by decide +kernel
theorem dX8_columnOf_19 : decode cX8_columnOf 19 = .ok (.iload 5, 2) := by decide +kernel
theorem dX8_columnOf_21 : decode cX8_columnOf 21 = .ok (.iadd, 1) := by decide +kernel
theorem dX8_columnOf_22 : decode cX8_columnOf 22 = .ok (.goto 7, 3) := by decide +kernel
theorem dX8_columnOf_25 : decode cX8_columnOf 25 = .ok (.iload_n 2, 1) := by decide +kernel
theorem dX8_columnOf_26 : decode cX8_columnOf 26 = .ok (.iload 5, 2) := by decide +kernel
theorem dX8_columnOf_28 : decode cX8_columnOf 28 = .ok (.isub, 1) := by decide +kernel
theorem dX8_columnOf_29 : decode cX8_columnOf 29 = .ok (.ireturn, 1) := by decide +kernel
theorem dX8_lengthOf_0 : decode cX8_lengthOf 0 = .ok (.iload_n 3, 1) := by decide +kernel
theorem dX8_lengthOf_1 : decode cX8_lengthOf 1 = .ok (.aload_n 0, 1) := by decide +kernel
theorem dX8_lengthOf_2 : decode cX8_lengthOf 2 = .ok (.iload_n 1, 1) := by decide +kernel
theorem dX8_lengthOf_3 : decode cX8_lengthOf 3 = .ok (.iconst 0, 1) := by decide +kernel
theorem dX8_lengthOf_4 : decode cX8_lengthOf 4 = .ok (.invokevirtual 69, 3) := by decide +kernel
theorem dX8_lengthOf_7 : decode cX8_lengthOf 7 = .ok (.aload_n 0, 1) := by decide +kernel
theorem dX8_lengthOf_8 : decode cX8_lengthOf 8 = .ok (.iload_n 1, 1) := by decide +kernel
theorem dX8_lengthOf_9 : decode cX8_lengthOf 9 = .ok (.iconst 1, 1) := by decide +kernel
theorem dX8_lengthOf_10 : decode cX8_lengthOf 10 = .ok (.invokevirtual 69, 3) := by decide +kernel
theorem dX8_lengthOf_13 : decode cX8_lengthOf 13 = .ok (.invokestatic 55, 3) := by decide +kernel
theorem dX8_lengthOf_16 : decode cX8_lengthOf 16 = .ok (.ifCond .ne 5, 3) := by decide +kernel
theorem dX8_lengthOf_19 : decode cX8_lengthOf 19 = .ok (.iconst (-1), 1) := by decide +kernel
theorem dX8_lengthOf_20 : decode cX8_lengthOf 20 = .ok (.ireturn, 1) := by decide +kernel
theorem dX8_lengthOf_21 : decode cX8_lengthOf 21 = .ok (.iconst 0, 1) := by decide +kernel
theorem dX8_lengthOf_22 : decode cX8_lengthOf 22 = .ok (.iconst 4, 1) := by decide +kernel
theorem dX8_lengthOf_23 : decode cX8_lengthOf 23 = .ok (.iconst 2, 1) := by decide +kernel
theorem dX8_lengthOf_24 : decode cX8_lengthOf 24 = .ok (.iload 4, 2) := by decide +kernel
theorem dX8_lengthOf_26 : decode cX8_lengthOf 26 = .ok (.imul, 1) := by decide +kernel
theorem dX8_lengthOf_27 : decode cX8_lengthOf 27 = .ok (.iadd, 1) := by decide +kernel
theorem dX8_lengthOf_28 : decode cX8_lengthOf 28 = .ok (.aload_n 0, 1) := by decide +kernel
theorem dX8_lengthOf_29 : decode cX8_lengthOf 29 = .ok (.iload_n 1, 1) := by decide +kernel
theorem dX8_lengthOf_30 : decode cX8_lengthOf 30 = .ok (.iconst 2, 1) := by decide +kernel
theorem dX8_lengthOf_31 : decode cX8_lengthOf 31 = .ok (.invokevirtual 69, 3) := by decide +kernel
theorem dX8_lengthOf_34 : decode cX8_lengthOf 34 = .ok (.iconst 2, 1) := by decide +kernel
theorem dX8_lengthOf_35 : decode cX8_lengthOf 35 = .ok (.idiv, 1) := by decide +kernel
theorem dX8_lengthOf_36 : decode cX8_lengthOf 36 = .ok (.isub, 1) := by decide +kernel
theorem dX8_lengthOf_37 : decode cX8_lengthOf 37 = .ok (.aload_n 0, 1) := by decide +kernel
theorem dX8_lengthOf_38 : decode cX8_lengthOf 38 = .ok (.iload_n 1, 1) := by decide +kernel
theorem dX8_lengthOf_39 : decode cX8_lengthOf 39 = .ok (.iconst 3, 1) := by decide +kernel
theorem dX8_lengthOf_40 : decode cX8_lengthOf 40 = .ok (.invokevirtual 69, 3) := by decide +kernel
theorem dX8_lengthOf_43 : decode cX8_lengthOf 43 = .ok (.isub, 1) := by decide +kernel
theorem dX8_lengthOf_44 : decode cX8_lengthOf 44 = .ok (.invokestatic 84, 3) := by decide +kernel
theorem dX8_lengthOf_47 : decode cX8_lengthOf 47 = .ok (.istore 5, 2) := by decide +kernel
theorem dX8_lengthOf_49 : decode cX8_lengthOf 49 = .ok (.iload 5, 2) := by decide +kernel
theorem dX8_lengthOf_51 : decode cX8_lengthOf 51 = .ok (.bipush 40, 2) := by decide +kernel
theorem dX8_lengthOf_53 : decode cX8_lengthOf 53 = .ok (.if_icmp .le 5, 3) := by decide +kernel
theorem dX8_lengthOf_56 : decode cX8_lengthOf 56 = .ok (.iconst (-1), 1) := by decide +kernel
theorem dX8_lengthOf_57 : decode cX8_lengthOf 57 = .ok (.ireturn, 1) := by decide +kernel
theorem dX8_lengthOf_58 : decode cX8_lengthOf 58 = .ok (.iload 5, 2) := by decide +kernel
theorem dX8_lengthOf_60 : decode cX8_lengthOf 60 = .ok (.ifCond .lt 21, 3) := by decide +kernel
theorem dX8_lengthOf_63 : decode cX8_lengthOf 63 = .ok (.aload_n 0, 1) := by decide +kernel
theorem dX8_lengthOf_64 : decode cX8_lengthOf 64 = .ok (.iload_n 1, 1) := by decide +kernel
theorem dX8_lengthOf_65 : decode cX8_lengthOf 65 = .ok (.iload_n 3, 1) := by decide +kernel
theorem dX8_lengthOf_66 : decode cX8_lengthOf 66 = .ok (.iload 5, 2) := by decide +kernel
theorem dX8_lengthOf_68 : decode cX8_lengthOf 68 = .ok (.iload_n 2, 1) := by decide +kernel
theorem dX8_lengthOf_69 : decode cX8_lengthOf 69 = .ok (.invokevirtual 112, 3) := by decide +kernel
theorem dX8_lengthOf_72 : decode cX8_lengthOf 72 = .ok (.ifCond .eq 9, 3) := by decide +kernel
theorem dX8_lengthOf_75 : decode cX8_lengthOf 75 = .ok (.iinc 5 (-1), 3) := by decide +kernel
theorem dX8_lengthOf_78 : decode cX8_lengthOf 78 = .ok (.goto (-20), 3) := by decide +kernel
theorem dX8_lengthOf_81 : decode cX8_lengthOf 81 = .ok (.iload 5, 2) := by decide +kernel
theorem dX8_lengthOf_83 : decode cX8_lengthOf 83 = .ok (.ireturn, 1) := by decide +kernel
theorem dX8_square_0 : decode cX8_square 0 = .ok (.iload_n 2, 1) := by decide +kernel
theorem dX8_square_1 : decode cX8_square 1 = .ok (.aload_n 0, 1) := by decide +kernel
theorem dX8_square_2 : decode cX8_square 2 = .ok (.iload_n 1, 1) := by decide +kernel
theorem dX8_square_3 : decode cX8_square 3 = .ok (.iconst 0, 1) := by decide +kernel
theorem dX8_square_4 : decode cX8_square 4 = .ok (.invokevirtual 69, 3) := by decide +kernel
theorem dX8_square_7 : decode cX8_square 7 = .ok (.aload_n 0, 1) := by decide +kernel
theorem dX8_square_8 : decode cX8_square 8 = .ok (.iload_n 1, 1) := by decide +kernel
theorem dX8_square_9 : decode cX8_square 9 = .ok (.iconst 1, 1) := by decide +kernel
theorem dX8_square_10 : decode cX8_square 10 = .ok (.invokevirtual 69, 3) := by decide +kernel
theorem dX8_square_13 : decode cX8_square 13 = .ok (.iadd, 1) := by decide +kernel
theorem dX8_square_14 : decode cX8_square 14 = .ok (.iconst 2, 1) := by decide +kernel
theorem dX8_square_15 : decode cX8_square 15 = .ok (.idiv, 1) := by decide +kernel
theorem dX8_square_16 : decode cX8_square 16 = .ok (.isub, 1) := by decide +kernel
theorem dX8_square_17 : decode cX8_square 17 = .ok (.istore 4, 2) := by decide +kernel
theorem dX8_square_19 : decode cX8_square 19 = .ok (.iload_n 3, 1) := by decide +kernel
theorem dX8_square_20 : decode cX8_square 20 = .ok (.aload_n 0, 1) := by decide +kernel
theorem dX8_square_21 : decode cX8_square 21 = .ok (.iload_n 1, 1) := by decide +kernel
theorem dX8_square_22 : decode cX8_square 22 = .ok (.iconst 4, 1) := by decide +kernel
theorem dX8_square_23 : decode cX8_square 23 = .ok (.invokevirtual 69, 3) := by decide +kernel
theorem dX8_square_26 : decode cX8_square 26 = .ok (.isub, 1) := by decide +kernel
theorem dX8_square_27 : decode cX8_square 27 = .ok (.istore 5, 2) := by decide +kernel
theorem dX8_square_29 : decode cX8_square 29 = .ok (.iload 4, 2) := by decide +kernel
theorem dX8_square_31 : decode cX8_square 31 = .ok (.iload 4, 2) := by decide +kernel
theorem dX8_square_33 : decode cX8_square 33 = .ok (.imul, 1) := by decide +kernel
theorem dX8_square_34 : decode cX8_square 34 = .ok (.iload 5, 2) := by decide +kernel
theorem dX8_square_36 : decode cX8_square 36 = .ok (.iload 5, 2) := by decide +kernel
theorem dX8_square_38 : decode cX8_square 38 = .ok (.imul, 1) := by decide +kernel
theorem dX8_square_39 : decode cX8_square 39 = .ok (.iadd, 1) := by decide +kernel
theorem dX8_square_40 : decode cX8_square 40 = .ok (.ireturn, 1) := by decide +kernel
theorem dX8_distance_0 : decode cX8_distance 0 = .ok (.aload_n 0, 1) := by decide +kernel
theorem dX8_distance_1 : decode cX8_distance 1 = .ok (.aload_n 0, 1) := by decide +kernel
theorem dX8_distance_2 : decode cX8_distance 2 = .ok (.iload_n 1, 1) := by decide +kernel
theorem dX8_distance_3 : decode cX8_distance 3 = .ok (.iconst 3, 1) := by decide +kernel
theorem dX8_distance_4 : decode cX8_distance 4 = .ok (.invokevirtual 109, 3) := by decide +kernel
theorem dX8_distance_7 : decode cX8_distance 7 = .ok (.aload_n 0, 1) := by decide +kernel
theorem dX8_distance_8 : decode cX8_distance 8 = .ok (.iload_n 1, 1) := by decide +kernel
theorem dX8_distance_9 : decode cX8_distance 9 = .ok (.iconst 4, 1) := by decide +kernel
theorem dX8_distance_10 : decode cX8_distance 10 = .ok (.invokevirtual 109, 3) := by decide +kernel
theorem dX8_distance_13 : decode cX8_distance 13 = .ok (.aload_n 0, 1) := by decide +kernel
theorem dX8_distance_14 : decode cX8_distance 14 = .ok (.iload_n 1, 1) := by decide +kernel
theorem dX8_distance_15 : decode cX8_distance 15 = .ok (.iconst 5, 1) := by decide +kernel
theorem dX8_distance_16 : decode cX8_distance 16 = .ok (.invokevirtual 109, 3) := by decide +kernel
theorem dX8_distance_19 : decode cX8_distance 19 = .ok (.invokevirtual 116, 3) := by decide +kernel
theorem dX8_distance_22 : decode cX8_distance 22 = .ok (.ireturn, 1) := by decide +kernel
theorem dX8_isBad_0 : decode cX8_isBad 0 = .ok (.iload_n 2, 1) := by decide +kernel
theorem dX8_isBad_1 : decode cX8_isBad 1 = .ok (.aload_n 0, 1) := by decide +kernel
theorem dX8_isBad_2 : decode cX8_isBad 2 = .ok (.iload_n 1, 1) := by decide +kernel
theorem dX8_isBad_3 : decode cX8_isBad 3 = .ok (.iconst 0, 1) := by decide +kernel
theorem dX8_isBad_4 : decode cX8_isBad 4 = .ok (.invokevirtual 69, 3) := by decide +kernel
theorem dX8_isBad_7 : decode cX8_isBad 7 = .ok (.aload_n 0, 1) := by decide +kernel
theorem dX8_isBad_8 : decode cX8_isBad 8 = .ok (.iload_n 1, 1) := by decide +kernel
theorem dX8_isBad_9 : decode cX8_isBad 9 = .ok (.iconst 1, 1) := by decide +kernel
theorem dX8_isBad_10 : decode cX8_isBad 10 = .ok (.invokevirtual 69, 3) := by decide +kernel
theorem dX8_isBad_13 : decode cX8_isBad 13 = .ok (.invokestatic 55, 3) := by decide +kernel
theorem dX8_isBad_16 : decode cX8_isBad 16 = .ok (.ifCond .ne 7, 3) := by decide +kernel
theorem dX8_isBad_19 : decode cX8_isBad 19 = .ok (.iconst 1, 1) := by decide +kernel
theorem dX8_isBad_20 : decode cX8_isBad 20 = .ok (.goto 4, 3) := by decide +kernel
theorem dX8_isBad_23 : decode cX8_isBad 23 = .ok (.iconst 0, 1) := by decide +kernel
theorem dX8_isBad_24 : decode cX8_isBad 24 = .ok (.ireturn, 1) := by decide +kernel
theorem dX8_bowls_0 : decode cX8_bowls 0 = .ok (.aload_n 0, 1) := by decide +kernel
theorem dX8_bowls_1 : decode cX8_bowls 1 = .ok (.iload_n 1, 1) := by decide +kernel
theorem dX8_bowls_2 : decode cX8_bowls 2 = .ok (.invokevirtual 90, 3) := by decide +kernel
theorem dX8_bowls_5 : decode cX8_bowls 5 = .ok (.ifCond .eq 11, 3) := by decide +kernel
theorem dX8_bowls_8 : decode cX8_bowls 8 = .ok (.aload_n 0, 1) := by decide +kernel
theorem dX8_bowls_9 : decode cX8_bowls 9 = .ok (.iload_n 2, 1) := by decide +kernel
theorem dX8_bowls_10 : decode cX8_bowls 10 = .ok (.invokevirtual 120, 3) := by decide +kernel
theorem dX8_bowls_13 : decode cX8_bowls 13 = .ok (.ifCond .ne 5, 3) := by decide +kernel
theorem dX8_bowls_16 : decode cX8_bowls 16 = .ok (.iconst (-1), 1) := by decide +kernel
theorem dX8_bowls_17 : decode cX8_bowls 17 = .ok (.ireturn, 1) := by decide +kernel
theorem dX8_bowls_18 : decode cX8_bowls 18 = .ok (.aload_n 0, 1) := by decide +kernel
theorem dX8_bowls_19 : decode cX8_bowls 19 = .ok (.iload_n 1, 1) := by decide +kernel
theorem dX8_bowls_20 : decode cX8_bowls 20 = .ok (.iload_n 3, 1) := by decide +kernel
theorem dX8_bowls_21 : decode cX8_bowls 21 = .ok (.invokevirtual 123, 3) := by decide +kernel
theorem dX8_bowls_24 : decode cX8_bowls 24 = .ok (.ifCond .ne 14, 3) := by decide +kernel
theorem dX8_bowls_27 : decode cX8_bowls 27 = .ok (.iload 4, 2) := by decide +kernel
theorem dX8_bowls_29 : decode cX8_bowls 29 = .ok (.iconst 1, 1) := by decide +kernel
theorem dX8_bowls_30 : decode cX8_bowls 30 = .ok (.bipush 20, 2) := by decide +kernel
theorem dX8_bowls_32 : decode cX8_bowls 32 = .ok (.invokestatic 55, 3) := by decide +kernel
theorem dX8_bowls_35 : decode cX8_bowls 35 = .ok (.ifCond .ne 6, 3) := by decide +kernel
theorem dX8_bowls_38 : decode cX8_bowls 38 = .ok (.bipush (-2), 2) := by decide +kernel
theorem dX8_bowls_40 : decode cX8_bowls 40 = .ok (.ireturn, 1) := by decide +kernel
theorem dX8_bowls_41 : decode cX8_bowls 41 = .ok (.aload_n 0, 1) := by decide +kernel
theorem dX8_bowls_42 : decode cX8_bowls 42 = .ok (.iload_n 1, 1) := by decide +kernel
theorem dX8_bowls_43 : decode cX8_bowls 43 = .ok (.iconst 4, 1) := by decide +kernel
theorem dX8_bowls_44 : decode cX8_bowls 44 = .ok (.invokevirtual 69, 3) := by decide +kernel
theorem dX8_bowls_47 : decode cX8_bowls 47 = .ok (.ifCond .ne 10, 3) := by decide +kernel
theorem dX8_bowls_50 : decode cX8_bowls 50 = .ok (.aload_n 0, 1) := by decide +kernel
theorem dX8_bowls_51 : decode cX8_bowls 51 = .ok (.iconst 5, 1) := by decide +kernel
theorem dX8_bowls_52 : decode cX8_bowls 52 = .ok (.iload_n 1, 1) := by decide +kernel
theorem dX8_bowls_53 : decode cX8_bowls 53 = .ok (.invokevirtual 65, 3) := by decide +kernel
theorem dX8_bowls_56 : decode cX8_bowls 56 = .ok (.ireturn, 1) := by decide +kernel
theorem dX8_bowls_57 : decode cX8_bowls 57 = .ok (.aload_n 0, 1) := by decide +kernel
theorem dX8_bowls_58 : decode cX8_bowls 58 = .ok (.iload_n 2, 1) := by decide +kernel
theorem dX8_bowls_59 : decode cX8_bowls 59 = .ok (.iconst 2, 1) := by decide +kernel
theorem dX8_bowls_60 : decode cX8_bowls 60 = .ok (.invokevirtual 109, 3) := by decide +kernel
theorem dX8_bowls_63 : decode cX8_bowls 63 = .ok (.ifCond .le 16, 3) := by decide +kernel
theorem dX8_bowls_66 : decode cX8_bowls 66 = .ok (.aload_n 0, 1) := by decide +kernel
theorem dX8_bowls_67 : decode cX8_bowls 67 = .ok (.bipush 7, 2) := by decide +kernel
theorem dX8_bowls_69 : decode cX8_bowls 69 = .ok (.aload_n 0, 1) := by decide +kernel
theorem dX8_bowls_70 : decode cX8_bowls 70 = .ok (.iload_n 2, 1) := by decide +kernel
theorem dX8_bowls_71 : decode cX8_bowls 71 = .ok (.iconst 3, 1) := by decide +kernel
theorem dX8_bowls_72 : decode cX8_bowls 72 = .ok (.invokevirtual 109, 3) := by decide +kernel
theorem dX8_bowls_75 : decode cX8_bowls 75 = .ok (.invokevirtual 65, 3) := by decide +kernel
theorem dX8_bowls_78 : decode cX8_bowls 78 = .ok (.ireturn, 1) := by decide +kernel
theorem dX8_bowls_79 : decode cX8_bowls 79 = .ok (.aload_n 0, 1) := by decide +kernel
theorem dX8_bowls_80 : decode cX8_bowls 80 = .ok (.iload_n 2, 1) := by decide +kernel
theorem dX8_bowls_81 : decode cX8_bowls 81 = .ok (.iconst 0, 1) := by decide +kernel
theorem dX8_bowls_82 : decode cX8_bowls 82 = .ok (.invokevirtual 109, 3) := by decide +kernel
theorem dX8_bowls_85 : decode cX8_bowls 85 = .ok (.istore 6, 2) := by decide +kernel
theorem dX8_bowls_87 : decode cX8_bowls 87 = .ok (.aload_n 0, 1) := by decide +kernel
theorem dX8_bowls_88 : decode cX8_bowls 88 = .ok (.iload_n 1, 1) := by decide +kernel
theorem dX8_bowls_89 : decode cX8_bowls 89 = .ok (.bipush 7, 2) := by decide +kernel
theorem dX8_bowls_91 : decode cX8_bowls 91 = .ok (.iload 6, 2) := by decide +kernel
theorem dX8_bowls_93 : decode cX8_bowls 93 = .ok (.iadd, 1) := by decide +kernel
theorem dX8_bowls_94 : decode cX8_bowls 94 = .ok (.invokevirtual 69, 3) := by decide +kernel
theorem dX8_bowls_97 : decode cX8_bowls 97 = .ok (.iconst 4, 1) := by decide +kernel
theorem dX8_bowls_98 : decode cX8_bowls 98 = .ok (.if_icmp .ne 11, 3) := by decide +kernel
theorem dX8_bowls_101 : decode cX8_bowls 101 = .ok (.aload_n 0, 1) := by decide +kernel
theorem dX8_bowls_102 : decode cX8_bowls 102 = .ok (.bipush 8, 2) := by decide +kernel
theorem dX8_bowls_104 : decode cX8_bowls 104 = .ok (.iconst 4, 1) := by decide +kernel
theorem dX8_bowls_105 : decode cX8_bowls 105 = .ok (.invokevirtual 65, 3) := by decide +kernel
theorem dX8_bowls_108 : decode cX8_bowls 108 = .ok (.ireturn, 1) := by decide +kernel
theorem dX8_bowls_109 : decode cX8_bowls 109 = .ok (.aload_n 0, 1) := by decide +kernel
theorem dX8_bowls_110 : decode cX8_bowls 110 = .ok (.iload_n 1, 1) := by decide +kernel
theorem dX8_bowls_111 : decode cX8_bowls 111 = .ok (.iconst 5, 1) := by decide +kernel
theorem dX8_bowls_112 : decode cX8_bowls 112 = .ok (.invokevirtual 69, 3) := by decide +kernel
theorem dX8_bowls_115 : decode cX8_bowls 115 = .ok (.iload 6, 2) := by decide +kernel
theorem dX8_bowls_117 : decode cX8_bowls 117 = .ok (.if_icmp .eq 14, 3) := by decide +kernel
theorem dX8_bowls_120 : decode cX8_bowls 120 = .ok (.aload_n 0, 1) := by decide +kernel
theorem dX8_bowls_121 : decode cX8_bowls 121 = .ok (.bipush 6, 2) := by decide +kernel
theorem dX8_bowls_123 : decode cX8_bowls 123 = .ok (.iconst 1, 1) := by decide +kernel
theorem dX8_bowls_124 : decode cX8_bowls 124 = .ok (.iload 6, 2) := by decide +kernel
theorem dX8_bowls_126 : decode cX8_bowls 126 = .ok (.isub, 1) := by decide +kernel
theorem dX8_bowls_127 : decode cX8_bowls 127 = .ok (.invokevirtual 65, 3) := by decide +kernel
theorem dX8_bowls_130 : decode cX8_bowls 130 = .ok (.ireturn, 1) := by decide +kernel
theorem dX8_bowls_131 : decode cX8_bowls 131 = .ok (.aload_n 0, 1) := by decide +kernel
theorem dX8_bowls_132 : decode cX8_bowls 132 = .ok (.iload_n 2, 1) := by decide +kernel
theorem dX8_bowls_133 : decode cX8_bowls 133 = .ok (.iload_n 3, 1) := by decide +kernel
theorem dX8_bowls_134 : decode cX8_bowls 134 = .ok (.iload 4, 2) := by decide +kernel
theorem dX8_bowls_136 : decode cX8_bowls 136 = .ok (.iload 5, 2) := by decide +kernel
theorem dX8_bowls_138 : decode cX8_bowls 138 = .ok (.invokevirtual 127, 3) := by decide +kernel
theorem dX8_bowls_141 : decode cX8_bowls 141 = .ok (.istore 7, 2) := by decide +kernel
theorem dX8_bowls_143 : decode cX8_bowls 143 = .ok (.aload_n 0, 1) := by decide +kernel
theorem dX8_bowls_144 : decode cX8_bowls 144 = .ok (.iload_n 1, 1) := by decide +kernel
theorem dX8_bowls_145 : decode cX8_bowls 145 = .ok (.iload_n 2, 1) := by decide +kernel
theorem dX8_bowls_146 : decode cX8_bowls 146 = .ok (.iload 7, 2) := by decide +kernel
theorem dX8_bowls_148 : decode cX8_bowls 148 = .ok (.iload 4, 2) := by decide +kernel
theorem dX8_bowls_150 : decode cX8_bowls 150 = .ok (.invokevirtual 131, 3) := by decide +kernel
theorem dX8_bowls_153 : decode cX8_bowls 153 = .ok (.istore 8, 2) := by decide +kernel
theorem dX8_bowls_155 : decode cX8_bowls 155 = .ok (.aload_n 0, 1) := by decide +kernel
theorem dX8_bowls_156 : decode cX8_bowls 156 = .ok (.iload_n 2, 1) := by decide +kernel
theorem dX8_bowls_157 : decode cX8_bowls 157 = .ok (.iconst 3, 1) := by decide +kernel
theorem dX8_bowls_158 : decode cX8_bowls 158 = .ok (.iload_n 1, 1) := by decide +kernel
theorem dX8_bowls_159 : decode cX8_bowls 159 = .ok (.invokevirtual 76, 3) := by decide +kernel
theorem dX8_bowls_162 : decode cX8_bowls 162 = .ok (.aload_n 0, 1) := by decide +kernel
theorem dX8_bowls_163 : decode cX8_bowls 163 = .ok (.iload_n 2, 1) := by decide +kernel
theorem dX8_bowls_164 : decode cX8_bowls 164 = .ok (.iconst 2, 1) := by decide +kernel
theorem dX8_bowls_165 : decode cX8_bowls 165 = .ok (.iload 8, 2) := by decide +kernel
theorem dX8_bowls_167 : decode cX8_bowls 167 = .ok (.ifCond .ge 7, 3) := by decide +kernel
theorem dX8_bowls_170 : decode cX8_bowls 170 = .ok (.iconst 2, 1) := by decide +kernel
theorem dX8_bowls_171 : decode cX8_bowls 171 = .ok (.goto 4, 3) := by decide +kernel
theorem dX8_bowls_174 : decode cX8_bowls 174 = .ok (.iconst 1, 1) := by decide +kernel
theorem dX8_bowls_175 : decode cX8_bowls 175 = .ok (.invokevirtual 76, 3) := by decide +kernel
theorem dX8_bowls_178 : decode cX8_bowls 178 = .ok (.aload_n 0, 1) := by decide +kernel
theorem dX8_bowls_179 : decode cX8_bowls 179 = .ok (.iload_n 2, 1) := by decide +kernel
theorem dX8_bowls_180 : decode cX8_bowls 180 = .ok (.iconst 4, 1) := by decide +kernel
theorem dX8_bowls_181 : decode cX8_bowls 181 = .ok (.iload 8, 2) := by decide +kernel
theorem dX8_bowls_183 : decode cX8_bowls 183 = .ok (.ifCond .ge 7, 3) := by decide +kernel
theorem dX8_bowls_186 : decode cX8_bowls 186 = .ok (.iconst 0, 1) := by decide +kernel
theorem dX8_bowls_187 : decode cX8_bowls 187 = .ok (.goto 5, 3) := by decide +kernel
theorem dX8_bowls_190 : decode cX8_bowls 190 = .ok (.iload 7, 2) := by decide +kernel
theorem dX8_bowls_192 : decode cX8_bowls 192 = .ok (.invokevirtual 76, 3) := by decide +kernel
theorem dX8_bowls_195 : decode cX8_bowls 195 = .ok (.aload_n 0, 1) := by decide +kernel
theorem dX8_bowls_196 : decode cX8_bowls 196 = .ok (.iload_n 2, 1) := by decide +kernel
theorem dX8_bowls_197 : decode cX8_bowls 197 = .ok (.iconst 5, 1) := by decide +kernel
theorem dX8_bowls_198 : decode cX8_bowls 198 = .ok (.iconst 0, 1) := by decide +kernel
theorem dX8_bowls_199 : decode cX8_bowls 199 = .ok (.iload 8, 2) := by decide +kernel
theorem dX8_bowls_201 : decode cX8_bowls 201 = .ok (.invokestatic 84, 3) := by decide +kernel
theorem dX8_bowls_204 : decode cX8_bowls 204 = .ok (.invokevirtual 76, 3) := by decide +kernel
theorem dX8_bowls_207 : decode cX8_bowls 207 = .ok (.aload_n 0, 1) := by decide +kernel
theorem dX8_bowls_208 : decode cX8_bowls 208 = .ok (.iload_n 2, 1) := by decide +kernel
theorem dX8_bowls_209 : decode cX8_bowls 209 = .ok (.bipush 6, 2) := by decide +kernel
theorem dX8_bowls_211 : decode cX8_bowls 211 = .ok (.aload_n 0, 1) := by decide +kernel
theorem dX8_bowls_212 : decode cX8_bowls 212 = .ok (.iload_n 2, 1) := by decide +kernel
theorem dX8_bowls_213 : decode cX8_bowls 213 = .ok (.bipush 6, 2) := by decide +kernel
theorem dX8_bowls_215 : decode cX8_bowls 215 = .ok (.invokevirtual 109, 3) := by decide +kernel
theorem dX8_bowls_218 : decode cX8_bowls 218 = .ok (.iconst 1, 1) := by decide +kernel
theorem dX8_bowls_219 : decode cX8_bowls 219 = .ok (.iadd, 1) := by decide +kernel
theorem dX8_bowls_220 : decode cX8_bowls 220 = .ok (.invokevirtual 76, 3) := by decide +kernel
theorem dX8_bowls_223 : decode cX8_bowls 223 = .ok (.aload_n 0, 1) := by decide +kernel
theorem dX8_bowls_224 : decode cX8_bowls 224 = .ok (.iload_n 1, 1) := by decide +kernel
theorem dX8_bowls_225 : decode cX8_bowls 225 = .ok (.bipush 7, 2) := by decide +kernel
theorem dX8_bowls_227 : decode cX8_bowls 227 = .ok (.iload 6, 2) := by decide +kernel
theorem dX8_bowls_229 : decode cX8_bowls 229 = .ok (.iadd, 1) := by decide +kernel
theorem dX8_bowls_230 : decode cX8_bowls 230 = .ok (.aload_n 0, 1) := by decide +kernel
theorem dX8_bowls_231 : decode cX8_bowls 231 = .ok (.iload_n 1, 1) := by decide +kernel
theorem dX8_bowls_232 : decode cX8_bowls 232 = .ok (.bipush 7, 2) := by decide +kernel
theorem dX8_bowls_234 : decode cX8_bowls 234 = .ok (.iload 6, 2) := by decide +kernel
theorem dX8_bowls_236 : decode cX8_bowls 236 = .ok (.iadd, 1) := by decide +kernel
theorem dX8_bowls_237 : decode cX8_bowls 237 = .ok (.invokevirtual 69, 3) := by decide +kernel
theorem dX8_bowls_240 : decode cX8_bowls 240 = .ok (.iconst 1, 1) := by decide +kernel
theorem dX8_bowls_241 : decode cX8_bowls 241 = .ok (.iadd, 1) := by decide +kernel
theorem dX8_bowls_242 : decode cX8_bowls 242 = .ok (.invokevirtual 72, 3) := by decide +kernel
theorem dX8_bowls_245 : decode cX8_bowls 245 = .ok (.aload_n 0, 1) := by decide +kernel
theorem dX8_bowls_246 : decode cX8_bowls 246 = .ok (.iload_n 1, 1) := by decide +kernel
theorem dX8_bowls_247 : decode cX8_bowls 247 = .ok (.iconst 5, 1) := by decide +kernel
theorem dX8_bowls_248 : decode cX8_bowls 248 = .ok (.iconst 1, 1) := by decide +kernel
theorem dX8_bowls_249 : decode cX8_bowls 249 = .ok (.iload 6, 2) := by decide +kernel
theorem dX8_bowls_251 : decode cX8_bowls 251 = .ok (.isub, 1) := by decide +kernel
theorem dX8_bowls_252 : decode cX8_bowls 252 = .ok (.invokevirtual 72, 3) := by decide +kernel
theorem dX8_bowls_255 : decode cX8_bowls 255 = .ok (.aload_n 0, 1) := by decide +kernel
theorem dX8_bowls_256 : decode cX8_bowls 256 = .ok (.getfield 9, 3) := by decide +kernel
theorem dX8_bowls_259 : decode cX8_bowls 259 = .ok (.iconst 5, 1) := by decide +kernel
theorem dX8_bowls_260 : decode cX8_bowls 260 = .ok (.dup2, 1) := by decide +kernel
theorem dX8_bowls_261 : decode cX8_bowls 261 = .ok (.iaload, 1) := by decide +kernel
theorem dX8_bowls_262 : decode cX8_bowls 262 = .ok (.iconst 1, 1) := by decide +kernel
theorem dX8_bowls_263 : decode cX8_bowls 263 = .ok (.iadd, 1) := by decide +kernel
theorem dX8_bowls_264 : decode cX8_bowls 264 = .ok (.iastore, 1) := by decide +kernel
theorem dX8_bowls_265 : decode cX8_bowls 265 = .ok (.aload_n 0, 1) := by decide +kernel
theorem dX8_bowls_266 : decode cX8_bowls 266 = .ok (.iload 8, 2) := by decide +kernel
theorem dX8_bowls_268 : decode cX8_bowls 268 = .ok (.ifCond .ge 8, 3) := by decide +kernel
theorem dX8_bowls_271 : decode cX8_bowls 271 = .ok (.bipush (-4), 2) := by decide +kernel
theorem dX8_bowls_273 : decode cX8_bowls 273 = .ok (.goto 8, 3) := by decide +kernel
theorem dX8_bowls_276 : decode cX8_bowls 276 = .ok (.aload_n 0, 1) := by decide +kernel
theorem dX8_bowls_277 : decode cX8_bowls 277 = .ok (.iload_n 2, 1) := by decide +kernel
theorem dX8_bowls_278 : decode cX8_bowls 278 = .ok (.invokevirtual 135, 3) := by decide +kernel
theorem dX8_bowls_281 : decode cX8_bowls 281 = .ok (.invokevirtual 100, 3) := by decide +kernel
theorem dX8_bowls_284 : decode cX8_bowls 284 = .ok (.ireturn, 1) := by decide +kernel
theorem dX8_bowl_0 : decode cX8_bowl 0 = .ok (.aload_n 0, 1) := by decide +kernel
theorem dX8_bowl_1 : decode cX8_bowl 1 = .ok (.invokevirtual 62, 3) := by decide +kernel
theorem dX8_bowl_4 : decode cX8_bowl 4 = .ok (.aload_n 0, 1) := by decide +kernel
theorem dX8_bowl_5 : decode cX8_bowl 5 = .ok (.aload_n 0, 1) := by decide +kernel
theorem dX8_bowl_6 : decode cX8_bowl 6 = .ok (.iload_n 1, 1) := by decide +kernel
theorem dX8_bowl_7 : decode cX8_bowl 7 = .ok (.iload_n 2, 1) := by decide +kernel
theorem dX8_bowl_8 : decode cX8_bowl 8 = .ok (.iload_n 3, 1) := by decide +kernel
theorem dX8_bowl_9 : decode cX8_bowl 9 = .ok (.iload 4, 2) := by decide +kernel
theorem dX8_bowl_11 : decode cX8_bowl 11 = .ok (.iload 5, 2) := by decide +kernel
theorem dX8_bowl_13 : decode cX8_bowl 13 = .ok (.invokevirtual 138, 3) := by decide +kernel
theorem dX8_bowl_16 : decode cX8_bowl 16 = .ok (.invokevirtual 106, 3) := by decide +kernel
theorem dX8_bowl_19 : decode cX8_bowl 19 = .ok (.ireturn, 1) := by decide +kernel
theorem dX8_liesOn_0 : decode cX8_liesOn 0 = .ok (.aload_n 0, 1) := by decide +kernel
theorem dX8_liesOn_1 : decode cX8_liesOn 1 = .ok (.iload_n 1, 1) := by decide +kernel
theorem dX8_liesOn_2 : decode cX8_liesOn 2 = .ok (.iconst 2, 1) := by decide +kernel
theorem dX8_liesOn_3 : decode cX8_liesOn 3 = .ok (.invokevirtual 109, 3) := by decide +kernel
theorem dX8_liesOn_6 : decode cX8_liesOn 6 = .ok (.iconst 1, 1) := by decide +kernel
theorem dX8_liesOn_7 : decode cX8_liesOn 7 = .ok (.if_icmp .ne 17, 3) := by decide +kernel
theorem dX8_liesOn_10 : decode cX8_liesOn 10 = .ok (.aload_n 0, 1) := by decide +kernel
theorem dX8_liesOn_11 : decode cX8_liesOn 11 = .ok (.iload_n 1, 1) := by decide +kernel
theorem dX8_liesOn_12 : decode cX8_liesOn 12 = .ok (.iconst 3, 1) := by decide +kernel
theorem dX8_liesOn_13 : decode cX8_liesOn 13 = .ok (.invokevirtual 109, 3) := by decide +kernel
theorem dX8_liesOn_16 : decode cX8_liesOn 16 = .ok (.iload_n 2, 1) := by decide +kernel
theorem dX8_liesOn_17 : decode cX8_liesOn 17 = .ok (.if_icmp .ne 7, 3) := by decide +kernel
theorem dX8_liesOn_20 : decode cX8_liesOn 20 = .ok (.iconst 1, 1) := by decide +kernel
theorem dX8_liesOn_21 : decode cX8_liesOn 21 = .ok (.goto 4, 3) := by decide +kernel
theorem dX8_liesOn_24 : decode cX8_liesOn 24 = .ok (.iconst 0, 1) := by decide +kernel
theorem dX8_liesOn_25 : decode cX8_liesOn 25 = .ok (.ireturn, 1) := by decide +kernel
theorem dX8_least_0 : decode cX8_least 0 = .ok (.ldc 144, 2) := by decide +kernel
theorem dX8_least_2 : decode cX8_least 2 = .ok (.istore_n 3, 1) := by decide +kernel
theorem dX8_least_3 : decode cX8_least 3 = .ok (.iconst 0, 1) := by decide +kernel
theorem dX8_least_4 : decode cX8_least 4 = .ok (.istore 4, 2) := by decide +kernel
theorem dX8_least_6 : decode cX8_least 6 = .ok (.iload 4, 2) := by decide +kernel
theorem dX8_least_8 : decode cX8_least 8 = .ok (.aload_n 0, 1) := by decide +kernel
theorem dX8_least_9 : decode cX8_least 9 = .ok (.getfield 9, 3) := by decide +kernel
theorem dX8_least_12 : decode cX8_least 12 = .ok (.iconst 4, 1) := by decide +kernel
theorem dX8_least_13 : decode cX8_least 13 = .ok (.iaload, 1) := by decide +kernel
theorem dX8_least_14 : decode cX8_least 14 = .ok (.if_icmp .ge 41, 3) := by decide +kernel
theorem dX8_least_17 : decode cX8_least 17 = .ok (.aload_n 0, 1) := by decide +kernel
theorem dX8_least_18 : decode cX8_least 18 = .ok (.iload 4, 2) := by decide +kernel
theorem dX8_least_20 : decode cX8_least 20 = .ok (.iload_n 1, 1) := by decide +kernel
theorem dX8_least_21 : decode cX8_least 21 = .ok (.invokevirtual 145, 3) := by decide +kernel
theorem dX8_least_24 : decode cX8_least 24 = .ok (.ifCond .eq 25, 3) := by decide +kernel
theorem dX8_least_27 : decode cX8_least 27 = .ok (.aload_n 0, 1) := by decide +kernel
theorem dX8_least_28 : decode cX8_least 28 = .ok (.iload 4, 2) := by decide +kernel
theorem dX8_least_30 : decode cX8_least 30 = .ok (.iconst 0, 1) := by decide +kernel
theorem dX8_least_31 : decode cX8_least 31 = .ok (.invokevirtual 109, 3) := by decide +kernel
theorem dX8_least_34 : decode cX8_least 34 = .ok (.iload_n 2, 1) := by decide +kernel
theorem dX8_least_35 : decode cX8_least 35 = .ok (.if_icmp .ne 14, 3) := by decide +kernel
theorem dX8_least_38 : decode cX8_least 38 = .ok (.iload_n 3, 1) := by decide +kernel
theorem dX8_least_39 : decode cX8_least 39 = .ok (.aload_n 0, 1) := by decide +kernel
theorem dX8_least_40 : decode cX8_least 40 = .ok (.iload 4, 2) := by decide +kernel
theorem dX8_least_42 : decode cX8_least 42 = .ok (.invokevirtual 135, 3) := by decide +kernel
theorem dX8_least_45 : decode cX8_least 45 = .ok (.invokestatic 79, 3) := by decide +kernel
theorem dX8_least_48 : decode cX8_least 48 = .ok (.istore_n 3, 1) := by decide +kernel
theorem dX8_least_49 : decode cX8_least 49 = .ok (.iinc 4 1, 3) := by decide +kernel
theorem dX8_least_52 : decode cX8_least 52 = .ok (.goto (-46), 3) := by decide +kernel
theorem dX8_least_55 : decode cX8_least 55 = .ok (.iload_n 3, 1) := by decide +kernel
theorem dX8_least_56 : decode cX8_least 56 = .ok (.ireturn, 1) := by decide +kernel
theorem dX8_counted_0 : decode cX8_counted 0 = .ok (.aload_n 0, 1) := by decide +kernel
theorem dX8_counted_1 : decode cX8_counted 1 = .ok (.iload_n 1, 1) := by decide +kernel
theorem dX8_counted_2 : decode cX8_counted 2 = .ok (.iconst 0, 1) := by decide +kernel
theorem dX8_counted_3 : decode cX8_counted 3 = .ok (.invokevirtual 148, 3) := by decide +kernel
theorem dX8_counted_6 : decode cX8_counted 6 = .ok (.istore_n 2, 1) := by decide +kernel
theorem dX8_counted_7 : decode cX8_counted 7 = .ok (.aload_n 0, 1) := by decide +kernel
theorem dX8_counted_8 : decode cX8_counted 8 = .ok (.iload_n 1, 1) := by decide +kernel
theorem dX8_counted_9 : decode cX8_counted 9 = .ok (.iconst 1, 1) := by decide +kernel
theorem dX8_counted_10 : decode cX8_counted 10 = .ok (.invokevirtual 148, 3) := by decide +kernel
theorem dX8_counted_13 : decode cX8_counted 13 = .ok (.istore_n 3, 1) := by decide +kernel
theorem dX8_counted_14 : decode cX8_counted 14 = .ok (.iload_n 2, 1) := by decide +kernel
theorem dX8_counted_15 : decode cX8_counted 15 = .ok (.iload_n 3, 1) := by decide +kernel
theorem dX8_counted_16 : decode cX8_counted 16 = .ok (.if_icmp .ne 5, 3) := by decide +kernel
theorem dX8_counted_19 : decode cX8_counted 19 = .ok (.iconst 0, 1) := by decide +kernel
theorem dX8_counted_20 : decode cX8_counted 20 = .ok (.ireturn, 1) := by decide +kernel
theorem dX8_counted_21 : decode cX8_counted 21 = .ok (.iload_n 2, 1) := by decide +kernel
theorem dX8_counted_22 : decode cX8_counted 22 = .ok (.iload_n 3, 1) := by decide +kernel
theorem dX8_counted_23 : decode cX8_counted 23 = .ok (.if_icmp .ge 7, 3) := by decide +kernel
theorem dX8_counted_26 : decode cX8_counted 26 = .ok (.iconst 0, 1) := by decide +kernel
theorem dX8_counted_27 : decode cX8_counted 27 = .ok (.goto 4, 3) := by decide +kernel
theorem dX8_counted_30 : decode cX8_counted 30 = .ok (.iconst 1, 1) := by decide +kernel
theorem dX8_counted_31 : decode cX8_counted 31 = .ok (.istore 4, 2) := by decide +kernel
theorem dX8_counted_33 : decode cX8_counted 33 = .ok (.iconst 0, 1) := by decide +kernel
theorem dX8_counted_34 : decode cX8_counted 34 = .ok (.istore 5, 2) := by decide +kernel
theorem dX8_counted_36 : decode cX8_counted 36 = .ok (.iconst 0, 1) := by decide +kernel
theorem dX8_counted_37 : decode cX8_counted 37 = .ok (.istore 6, 2) := by decide +kernel
theorem dX8_counted_39 : decode cX8_counted 39 = .ok (.iload 6, 2) := by decide +kernel
theorem dX8_counted_41 : decode cX8_counted 41 = .ok (.aload_n 0, 1) := by decide +kernel
theorem dX8_counted_42 : decode cX8_counted 42 = .ok (.getfield 9, 3) := by decide +kernel
theorem dX8_counted_45 : decode cX8_counted 45 = .ok (.iconst 4, 1) := by decide +kernel
theorem dX8_counted_46 : decode cX8_counted 46 = .ok (.iaload, 1) := by decide +kernel
theorem dX8_counted_47 : decode cX8_counted 47 = .ok (.if_icmp .ge 48, 3) := by decide +kernel
theorem dX8_counted_50 : decode cX8_counted 50 = .ok (.aload_n 0, 1) := by decide +kernel
theorem dX8_counted_51 : decode cX8_counted 51 = .ok (.iload 6, 2) := by decide +kernel
theorem dX8_counted_53 : decode cX8_counted 53 = .ok (.iload_n 1, 1) := by decide +kernel
theorem dX8_counted_54 : decode cX8_counted 54 = .ok (.invokevirtual 145, 3) := by decide +kernel
theorem dX8_counted_57 : decode cX8_counted 57 = .ok (.ifCond .eq 32, 3) := by decide +kernel
theorem dX8_counted_60 : decode cX8_counted 60 = .ok (.aload_n 0, 1) := by decide +kernel
theorem dX8_counted_61 : decode cX8_counted 61 = .ok (.iload 6, 2) := by decide +kernel
theorem dX8_counted_63 : decode cX8_counted 63 = .ok (.iconst 0, 1) := by decide +kernel
theorem dX8_counted_64 : decode cX8_counted 64 = .ok (.invokevirtual 109, 3) := by decide +kernel
theorem dX8_counted_67 : decode cX8_counted 67 = .ok (.iload 4, 2) := by decide +kernel
theorem dX8_counted_69 : decode cX8_counted 69 = .ok (.if_icmp .ne 20, 3) := by decide +kernel
theorem dX8_counted_72 : decode cX8_counted 72 = .ok (.aload_n 0, 1) := by decide +kernel
theorem dX8_counted_73 : decode cX8_counted 73 = .ok (.iload 6, 2) := by decide +kernel
theorem dX8_counted_75 : decode cX8_counted 75 = .ok (.invokevirtual 135, 3) := by decide +kernel
theorem dX8_counted_78 : decode cX8_counted 78 = .ok (.iload_n 2, 1) := by decide +kernel
theorem dX8_counted_79 : decode cX8_counted 79 = .ok (.iload_n 3, 1) := by decide +kernel
theorem dX8_counted_80 : decode cX8_counted 80 = .ok (.invokestatic 84, 3) := by decide +kernel
theorem dX8_counted_83 : decode cX8_counted 83 = .ok (.if_icmp .ge 6, 3) := by decide +kernel
theorem dX8_counted_86 : decode cX8_counted 86 = .ok (.iinc 5 1, 3) := by decide +kernel
theorem dX8_counted_89 : decode cX8_counted 89 = .ok (.iinc 6 1, 3) := by decide +kernel
theorem dX8_counted_92 : decode cX8_counted 92 = .ok (.goto (-53), 3) := by decide +kernel
theorem dX8_counted_95 : decode cX8_counted 95 = .ok (.iload 5, 2) := by decide +kernel
theorem dX8_counted_97 : decode cX8_counted 97 = .ok (.bipush 10, 2) := by decide +kernel
theorem dX8_counted_99 : decode cX8_counted 99 = .ok (.iload 4, 2) := by decide +kernel
theorem dX8_counted_101 : decode cX8_counted 101 = .ok (.imul, 1) := by decide +kernel
theorem dX8_counted_102 : decode cX8_counted 102 = .ok (.iadd, 1) := by decide +kernel
theorem dX8_counted_103 : decode cX8_counted 103 = .ok (.ireturn, 1) := by decide +kernel
theorem dX8_closes_0 : decode cX8_closes 0 = .ok (.aload_n 0, 1) := by decide +kernel
theorem dX8_closes_1 : decode cX8_closes 1 = .ok (.iload_n 1, 1) := by decide +kernel
theorem dX8_closes_2 : decode cX8_closes 2 = .ok (.invokevirtual 90, 3) := by decide +kernel
theorem dX8_closes_5 : decode cX8_closes 5 = .ok (.ifCond .ne 5, 3) := by decide +kernel
theorem dX8_closes_8 : decode cX8_closes 8 = .ok (.iconst (-1), 1) := by decide +kernel
theorem dX8_closes_9 : decode cX8_closes 9 = .ok (.ireturn, 1) := by decide +kernel
theorem dX8_closes_10 : decode cX8_closes 10 = .ok (.aload_n 0, 1) := by decide +kernel
theorem dX8_closes_11 : decode cX8_closes 11 = .ok (.iload_n 1, 1) := by decide +kernel
theorem dX8_closes_12 : decode cX8_closes 12 = .ok (.iconst 4, 1) := by decide +kernel
theorem dX8_closes_13 : decode cX8_closes 13 = .ok (.invokevirtual 69, 3) := by decide +kernel
theorem dX8_closes_16 : decode cX8_closes 16 = .ok (.ifCond .ne 10, 3) := by decide +kernel
theorem dX8_closes_19 : decode cX8_closes 19 = .ok (.aload_n 0, 1) := by decide +kernel
theorem dX8_closes_20 : decode cX8_closes 20 = .ok (.iconst 5, 1) := by decide +kernel
theorem dX8_closes_21 : decode cX8_closes 21 = .ok (.iload_n 1, 1) := by decide +kernel
theorem dX8_closes_22 : decode cX8_closes 22 = .ok (.invokevirtual 65, 3) := by decide +kernel
theorem dX8_closes_25 : decode cX8_closes 25 = .ok (.ireturn, 1) := by decide +kernel
theorem dX8_closes_26 : decode cX8_closes 26 = .ok (.aload_n 0, 1) := by decide +kernel
theorem dX8_closes_27 : decode cX8_closes 27 = .ok (.iload_n 1, 1) := by decide +kernel
theorem dX8_closes_28 : decode cX8_closes 28 = .ok (.invokevirtual 151, 3) := by decide +kernel
theorem dX8_closes_31 : decode cX8_closes 31 = .ok (.istore_n 2, 1) := by decide +kernel
theorem dX8_closes_32 : decode cX8_closes 32 = .ok (.iload_n 2, 1) := by decide +kernel
theorem dX8_closes_33 : decode cX8_closes 33 = .ok (.ifCond .le 51, 3) := by decide +kernel
theorem dX8_closes_36 : decode cX8_closes 36 = .ok (.iload_n 2, 1) := by decide +kernel
theorem dX8_closes_37 : decode cX8_closes 37 = .ok (.bipush 10, 2) := by decide +kernel
theorem dX8_closes_39 : decode cX8_closes 39 = .ok (.idiv, 1) := by decide +kernel
theorem dX8_closes_40 : decode cX8_closes 40 = .ok (.istore_n 3, 1) := by decide +kernel
theorem dX8_closes_41 : decode cX8_closes 41 = .ok (.aload_n 0, 1) := by decide +kernel
theorem dX8_closes_42 : decode cX8_closes 42 = .ok (.getfield 9, 3) := by decide +kernel
theorem dX8_closes_45 : decode cX8_closes 45 = .ok (.bipush 9, 2) := by decide +kernel
theorem dX8_closes_47 : decode cX8_closes 47 = .ok (.iconst 4, 1) := by decide +kernel
theorem dX8_closes_48 : decode cX8_closes 48 = .ok (.iload_n 3, 1) := by decide +kernel
theorem dX8_closes_49 : decode cX8_closes 49 = .ok (.imul, 1) := by decide +kernel
theorem dX8_closes_50 : decode cX8_closes 50 = .ok (.iadd, 1) := by decide +kernel
theorem dX8_closes_51 : decode cX8_closes 51 = .ok (.dup2, 1) := by decide +kernel
theorem dX8_closes_52 : decode cX8_closes 52 = .ok (.iaload, 1) := by decide +kernel
theorem dX8_closes_53 : decode cX8_closes 53 = .ok (.iload_n 2, 1) := by decide +kernel
theorem dX8_closes_54 : decode cX8_closes 54 = .ok (.bipush 10, 2) := by decide +kernel
theorem dX8_closes_56 : decode cX8_closes 56 = .ok (.irem, 1) := by decide +kernel
theorem dX8_closes_57 : decode cX8_closes 57 = .ok (.iadd, 1) := by decide +kernel
theorem dX8_closes_58 : decode cX8_closes 58 = .ok (.iastore, 1) := by decide +kernel
theorem dX8_closes_59 : decode cX8_closes 59 = .ok (.aload_n 0, 1) := by decide +kernel
theorem dX8_closes_60 : decode cX8_closes 60 = .ok (.getfield 9, 3) := by decide +kernel
theorem dX8_closes_63 : decode cX8_closes 63 = .ok (.bipush 9, 2) := by decide +kernel
theorem dX8_closes_65 : decode cX8_closes 65 = .ok (.iconst 4, 1) := by decide +kernel
theorem dX8_closes_66 : decode cX8_closes 66 = .ok (.iload_n 3, 1) := by decide +kernel
theorem dX8_closes_67 : decode cX8_closes 67 = .ok (.imul, 1) := by decide +kernel
theorem dX8_closes_68 : decode cX8_closes 68 = .ok (.iadd, 1) := by decide +kernel
theorem dX8_closes_69 : decode cX8_closes 69 = .ok (.iconst 1, 1) := by decide +kernel
theorem dX8_closes_70 : decode cX8_closes 70 = .ok (.iadd, 1) := by decide +kernel
theorem dX8_closes_71 : decode cX8_closes 71 = .ok (.dup2, 1) := by decide +kernel
theorem dX8_closes_72 : decode cX8_closes 72 = .ok (.iaload, 1) := by decide +kernel
theorem dX8_closes_73 : decode cX8_closes 73 = .ok (.iconst 1, 1) := by decide +kernel
theorem dX8_closes_74 : decode cX8_closes 74 = .ok (.iadd, 1) := by decide +kernel
theorem dX8_closes_75 : decode cX8_closes 75 = .ok (.iastore, 1) := by decide +kernel
theorem dX8_closes_76 : decode cX8_closes 76 = .ok (.aload_n 0, 1) := by decide +kernel
theorem dX8_closes_77 : decode cX8_closes 77 = .ok (.iload_n 1, 1) := by decide +kernel
theorem dX8_closes_78 : decode cX8_closes 78 = .ok (.bipush 6, 2) := by decide +kernel
theorem dX8_closes_80 : decode cX8_closes 80 = .ok (.iload_n 3, 1) := by decide +kernel
theorem dX8_closes_81 : decode cX8_closes 81 = .ok (.invokevirtual 72, 3) := by decide +kernel
theorem dX8_closes_84 : decode cX8_closes 84 = .ok (.aload_n 0, 1) := by decide +kernel
theorem dX8_closes_85 : decode cX8_closes 85 = .ok (.iload_n 1, 1) := by decide +kernel
theorem dX8_closes_86 : decode cX8_closes 86 = .ok (.iconst 4, 1) := by decide +kernel
theorem dX8_closes_87 : decode cX8_closes 87 = .ok (.iconst 0, 1) := by decide +kernel
theorem dX8_closes_88 : decode cX8_closes 88 = .ok (.invokevirtual 72, 3) := by decide +kernel
theorem dX8_closes_91 : decode cX8_closes 91 = .ok (.aload_n 0, 1) := by decide +kernel
theorem dX8_closes_92 : decode cX8_closes 92 = .ok (.iload_n 1, 1) := by decide +kernel
theorem dX8_closes_93 : decode cX8_closes 93 = .ok (.iconst 5, 1) := by decide +kernel
theorem dX8_closes_94 : decode cX8_closes 94 = .ok (.aload_n 0, 1) := by decide +kernel
theorem dX8_closes_95 : decode cX8_closes 95 = .ok (.iload_n 1, 1) := by decide +kernel
theorem dX8_closes_96 : decode cX8_closes 96 = .ok (.bipush 6, 2) := by decide +kernel
theorem dX8_closes_98 : decode cX8_closes 98 = .ok (.invokevirtual 69, 3) := by decide +kernel
theorem dX8_closes_101 : decode cX8_closes 101 = .ok (.invokevirtual 72, 3) := by decide +kernel
theorem dX8_closes_104 : decode cX8_closes 104 = .ok (.aload_n 0, 1) := by decide +kernel
theorem dX8_closes_105 : decode cX8_closes 105 = .ok (.iload_n 1, 1) := by decide +kernel
theorem dX8_closes_106 : decode cX8_closes 106 = .ok (.bipush 9, 2) := by decide +kernel
theorem dX8_closes_108 : decode cX8_closes 108 = .ok (.aload_n 0, 1) := by decide +kernel
theorem dX8_closes_109 : decode cX8_closes 109 = .ok (.iload_n 1, 1) := by decide +kernel
theorem dX8_closes_110 : decode cX8_closes 110 = .ok (.bipush 9, 2) := by decide +kernel
theorem dX8_closes_112 : decode cX8_closes 112 = .ok (.invokevirtual 69, 3) := by decide +kernel
theorem dX8_closes_115 : decode cX8_closes 115 = .ok (.iconst 1, 1) := by decide +kernel
theorem dX8_closes_116 : decode cX8_closes 116 = .ok (.iadd, 1) := by decide +kernel
theorem dX8_closes_117 : decode cX8_closes 117 = .ok (.invokevirtual 72, 3) := by decide +kernel
theorem dX8_closes_120 : decode cX8_closes 120 = .ok (.iconst 0, 1) := by decide +kernel
theorem dX8_closes_121 : decode cX8_closes 121 = .ok (.istore_n 3, 1) := by decide +kernel
theorem dX8_closes_122 : decode cX8_closes 122 = .ok (.iload_n 3, 1) := by decide +kernel
theorem dX8_closes_123 : decode cX8_closes 123 = .ok (.aload_n 0, 1) := by decide +kernel
theorem dX8_closes_124 : decode cX8_closes 124 = .ok (.getfield 9, 3) := by decide +kernel
theorem dX8_closes_127 : decode cX8_closes 127 = .ok (.iconst 4, 1) := by decide +kernel
theorem dX8_closes_128 : decode cX8_closes 128 = .ok (.iaload, 1) := by decide +kernel
theorem dX8_closes_129 : decode cX8_closes 129 = .ok (.if_icmp .ge 54, 3) := by decide +kernel
theorem dX8_closes_132 : decode cX8_closes 132 = .ok (.aload_n 0, 1) := by decide +kernel
theorem dX8_closes_133 : decode cX8_closes 133 = .ok (.iload_n 3, 1) := by decide +kernel
theorem dX8_closes_134 : decode cX8_closes 134 = .ok (.iconst 2, 1) := by decide +kernel
theorem dX8_closes_135 : decode cX8_closes 135 = .ok (.invokevirtual 109, 3) := by decide +kernel
theorem dX8_closes_138 : decode cX8_closes 138 = .ok (.ifCond .eq 39, 3) := by decide +kernel
theorem dX8_closes_141 : decode cX8_closes 141 = .ok (.aload_n 0, 1) := by decide +kernel
theorem dX8_closes_142 : decode cX8_closes 142 = .ok (.iload_n 3, 1) := by decide +kernel
theorem dX8_closes_143 : decode cX8_closes 143 = .ok (.iconst 3, 1) := by decide +kernel
theorem dX8_closes_144 : decode cX8_closes 144 = .ok (.invokevirtual 109, 3) := by decide +kernel
theorem dX8_closes_147 : decode cX8_closes 147 = .ok (.iload_n 1, 1) := by decide +kernel
theorem dX8_closes_148 : decode cX8_closes 148 = .ok (.if_icmp .eq 6, 3) := by decide +kernel
theorem dX8_closes_151 : decode cX8_closes 151 = .ok (.goto 26, 3) := by decide +kernel
theorem dX8_closes_154 : decode cX8_closes 154 = .ok (.iconst 2, 1) := by decide +kernel
theorem dX8_closes_155 : decode cX8_closes 155 = .ok (.istore 4, 2) := by decide +kernel
theorem dX8_closes_157 : decode cX8_closes 157 = .ok (.iload 4, 2) := by decide +kernel
theorem dX8_closes_159 : decode cX8_closes 159 = .ok (.iconst 5, 1) := by decide +kernel
theorem dX8_closes_160 : decode cX8_closes 160 = .ok (.if_icmp .gt 17, 3) := by decide +kernel
theorem dX8_closes_163 : decode cX8_closes 163 = .ok (.aload_n 0, 1) := by decide +kernel
theorem dX8_closes_164 : decode cX8_closes 164 = .ok (.iload_n 3, 1) := by decide +kernel
theorem dX8_closes_165 : decode cX8_closes 165 = .ok (.iload 4, 2) := by decide +kernel
theorem dX8_closes_167 : decode cX8_closes 167 = .ok (.iconst 0, 1) := by decide +kernel
theorem dX8_closes_168 : decode cX8_closes 168 = .ok (.invokevirtual 76, 3) := by decide +kernel
theorem dX8_closes_171 : decode cX8_closes 171 = .ok (.iinc 4 1, 3) := by decide +kernel
theorem dX8_closes_174 : decode cX8_closes 174 = .ok (.goto (-17), 3) := by decide +kernel
theorem dX8_closes_177 : decode cX8_closes 177 = .ok (.iinc 3 1, 3) := by decide +kernel
theorem dX8_closes_180 : decode cX8_closes 180 = .ok (.goto (-58), 3) := by decide +kernel
theorem dX8_closes_183 : decode cX8_closes 183 = .ok (.aload_n 0, 1) := by decide +kernel
theorem dX8_closes_184 : decode cX8_closes 184 = .ok (.iload_n 2, 1) := by decide +kernel
theorem dX8_closes_185 : decode cX8_closes 185 = .ok (.invokevirtual 100, 3) := by decide +kernel
theorem dX8_closes_188 : decode cX8_closes 188 = .ok (.ireturn, 1) := by decide +kernel
theorem dX8_close_0 : decode cX8_close 0 = .ok (.aload_n 0, 1) := by decide +kernel
theorem dX8_close_1 : decode cX8_close 1 = .ok (.invokevirtual 62, 3) := by decide +kernel
theorem dX8_close_4 : decode cX8_close 4 = .ok (.aload_n 0, 1) := by decide +kernel
theorem dX8_close_5 : decode cX8_close 5 = .ok (.aload_n 0, 1) := by decide +kernel
theorem dX8_close_6 : decode cX8_close 6 = .ok (.iload_n 1, 1) := by decide +kernel
theorem dX8_close_7 : decode cX8_close 7 = .ok (.invokevirtual 154, 3) := by decide +kernel
theorem dX8_close_10 : decode cX8_close 10 = .ok (.invokevirtual 106, 3) := by decide +kernel
theorem dX8_close_13 : decode cX8_close 13 = .ok (.ireturn, 1) := by decide +kernel
theorem dX8_sweeps_0 : decode cX8_sweeps 0 = .ok (.aload_n 0, 1) := by decide +kernel
theorem dX8_sweeps_1 : decode cX8_sweeps 1 = .ok (.iload_n 1, 1) := by decide +kernel
theorem dX8_sweeps_2 : decode cX8_sweeps 2 = .ok (.invokevirtual 90, 3) := by decide +kernel
theorem dX8_sweeps_5 : decode cX8_sweeps 5 = .ok (.ifCond .ne 5, 3) := by decide +kernel
theorem dX8_sweeps_8 : decode cX8_sweeps 8 = .ok (.iconst (-1), 1) := by decide +kernel
theorem dX8_sweeps_9 : decode cX8_sweeps 9 = .ok (.ireturn, 1) := by decide +kernel
theorem dX8_sweeps_10 : decode cX8_sweeps 10 = .ok (.aload_n 0, 1) := by decide +kernel
theorem dX8_sweeps_11 : decode cX8_sweeps 11 = .ok (.iload_n 1, 1) := by decide +kernel
theorem dX8_sweeps_12 : decode cX8_sweeps 12 = .ok (.iconst 3, 1) := by decide +kernel
theorem dX8_sweeps_13 : decode cX8_sweeps 13 = .ok (.invokevirtual 69, 3) := by decide +kernel
theorem dX8_sweeps_16 : decode cX8_sweeps 16 = .ok (.istore_n 2, 1) := by decide +kernel
theorem dX8_sweeps_17 : decode cX8_sweeps 17 = .ok (.iload_n 2, 1) := by decide +kernel
theorem dX8_sweeps_18 : decode cX8_sweeps 18 = .ok (.ifCond .ne 11, 3) := by decide +kernel
theorem dX8_sweeps_21 : decode cX8_sweeps 21 = .ok (.aload_n 0, 1) := by decide +kernel
theorem dX8_sweeps_22 : decode cX8_sweeps 22 = .ok (.bipush 9, 2) := by decide +kernel
theorem dX8_sweeps_24 : decode cX8_sweeps 24 = .ok (.iload_n 1, 1) := by decide +kernel
theorem dX8_sweeps_25 : decode cX8_sweeps 25 = .ok (.invokevirtual 65, 3) := by decide +kernel
theorem dX8_sweeps_28 : decode cX8_sweeps 28 = .ok (.ireturn, 1) := by decide +kernel
theorem dX8_sweeps_29 : decode cX8_sweeps 29 = .ok (.iload_n 2, 1) := by decide +kernel
theorem dX8_sweeps_30 : decode cX8_sweeps 30 = .ok (.iconst 2, 1) := by decide +kernel
theorem dX8_sweeps_31 : decode cX8_sweeps 31 = .ok (.iadd, 1) := by decide +kernel
theorem dX8_sweeps_32 : decode cX8_sweeps 32 = .ok (.iconst 3, 1) := by decide +kernel
theorem dX8_sweeps_33 : decode cX8_sweeps 33 = .ok (.idiv, 1) := by decide +kernel
theorem dX8_sweeps_34 : decode cX8_sweeps 34 = .ok (.istore_n 3, 1) := by decide +kernel
theorem dX8_sweeps_35 : decode cX8_sweeps 35 = .ok (.aload_n 0, 1) := by decide +kernel
theorem dX8_sweeps_36 : decode cX8_sweeps 36 = .ok (.getfield 9, 3) := by decide +kernel
theorem dX8_sweeps_39 : decode cX8_sweeps 39 = .ok (.bipush 6, 2) := by decide +kernel
theorem dX8_sweeps_41 : decode cX8_sweeps 41 = .ok (.iaload, 1) := by decide +kernel
theorem dX8_sweeps_42 : decode cX8_sweeps 42 = .ok (.iload_n 3, 1) := by decide +kernel
theorem dX8_sweeps_43 : decode cX8_sweeps 43 = .ok (.if_icmp .ge 19, 3) := by decide +kernel
theorem dX8_sweeps_46 : decode cX8_sweeps 46 = .ok (.aload_n 0, 1) := by decide +kernel
theorem dX8_sweeps_47 : decode cX8_sweeps 47 = .ok (.bipush 10, 2) := by decide +kernel
theorem dX8_sweeps_49 : decode cX8_sweeps 49 = .ok (.iload_n 3, 1) := by decide +kernel
theorem dX8_sweeps_50 : decode cX8_sweeps 50 = .ok (.aload_n 0, 1) := by decide +kernel
theorem dX8_sweeps_51 : decode cX8_sweeps 51 = .ok (.getfield 9, 3) := by decide +kernel
theorem dX8_sweeps_54 : decode cX8_sweeps 54 = .ok (.bipush 6, 2) := by decide +kernel
theorem dX8_sweeps_56 : decode cX8_sweeps 56 = .ok (.iaload, 1) := by decide +kernel
theorem dX8_sweeps_57 : decode cX8_sweeps 57 = .ok (.isub, 1) := by decide +kernel
theorem dX8_sweeps_58 : decode cX8_sweeps 58 = .ok (.invokevirtual 65, 3) := by decide +kernel
theorem dX8_sweeps_61 : decode cX8_sweeps 61 = .ok (.ireturn, 1) := by decide +kernel
theorem dX8_sweeps_62 : decode cX8_sweeps 62 = .ok (.aload_n 0, 1) := by decide +kernel
theorem dX8_sweeps_63 : decode cX8_sweeps 63 = .ok (.getfield 9, 3) := by decide +kernel
theorem dX8_sweeps_66 : decode cX8_sweeps 66 = .ok (.bipush 6, 2) := by decide +kernel
theorem dX8_sweeps_68 : decode cX8_sweeps 68 = .ok (.dup2, 1) := by decide +kernel
theorem dX8_sweeps_69 : decode cX8_sweeps 69 = .ok (.iaload, 1) := by decide +kernel
theorem dX8_sweeps_70 : decode cX8_sweeps 70 = .ok (.iload_n 3, 1) := by decide +kernel
theorem dX8_sweeps_71 : decode cX8_sweeps 71 = .ok (.isub, 1) := by decide +kernel
theorem dX8_sweeps_72 : decode cX8_sweeps 72 = .ok (.iastore, 1) := by decide +kernel
theorem dX8_sweeps_73 : decode cX8_sweeps 73 = .ok (.aload_n 0, 1) := by decide +kernel
theorem dX8_sweeps_74 : decode cX8_sweeps 74 = .ok (.getfield 9, 3) := by decide +kernel
theorem dX8_sweeps_77 : decode cX8_sweeps 77 = .ok (.bipush 7, 2) := by decide +kernel
theorem dX8_sweeps_79 : decode cX8_sweeps 79 = .ok (.dup2, 1) := by decide +kernel
theorem dX8_sweeps_80 : decode cX8_sweeps 80 = .ok (.iaload, 1) := by decide +kernel
theorem dX8_sweeps_81 : decode cX8_sweeps 81 = .ok (.iload_n 3, 1) := by decide +kernel
theorem dX8_sweeps_82 : decode cX8_sweeps 82 = .ok (.iadd, 1) := by decide +kernel
theorem dX8_sweeps_83 : decode cX8_sweeps 83 = .ok (.iastore, 1) := by decide +kernel
theorem dX8_sweeps_84 : decode cX8_sweeps 84 = .ok (.aload_n 0, 1) := by decide +kernel
theorem dX8_sweeps_85 : decode cX8_sweeps 85 = .ok (.getfield 9, 3) := by decide +kernel
theorem dX8_sweeps_88 : decode cX8_sweeps 88 = .ok (.bipush 8, 2) := by decide +kernel
theorem dX8_sweeps_90 : decode cX8_sweeps 90 = .ok (.dup2, 1) := by decide +kernel
theorem dX8_sweeps_91 : decode cX8_sweeps 91 = .ok (.iaload, 1) := by decide +kernel
theorem dX8_sweeps_92 : decode cX8_sweeps 92 = .ok (.iload_n 2, 1) := by decide +kernel
theorem dX8_sweeps_93 : decode cX8_sweeps 93 = .ok (.iadd, 1) := by decide +kernel
theorem dX8_sweeps_94 : decode cX8_sweeps 94 = .ok (.iastore, 1) := by decide +kernel
theorem dX8_sweeps_95 : decode cX8_sweeps 95 = .ok (.aload_n 0, 1) := by decide +kernel
theorem dX8_sweeps_96 : decode cX8_sweeps 96 = .ok (.iload_n 1, 1) := by decide +kernel
theorem dX8_sweeps_97 : decode cX8_sweeps 97 = .ok (.iconst 3, 1) := by decide +kernel
theorem dX8_sweeps_98 : decode cX8_sweeps 98 = .ok (.iconst 0, 1) := by decide +kernel
theorem dX8_sweeps_99 : decode cX8_sweeps 99 = .ok (.invokevirtual 72, 3) := by decide +kernel
theorem dX8_sweeps_102 : decode cX8_sweeps 102 = .ok (.aload_n 0, 1) := by decide +kernel
theorem dX8_sweeps_103 : decode cX8_sweeps 103 = .ok (.iload_n 2, 1) := by decide +kernel
theorem dX8_sweeps_104 : decode cX8_sweeps 104 = .ok (.invokevirtual 100, 3) := by decide +kernel
theorem dX8_sweeps_107 : decode cX8_sweeps 107 = .ok (.ireturn, 1) := by decide +kernel
theorem dX8_sweep_0 : decode cX8_sweep 0 = .ok (.aload_n 0, 1) := by decide +kernel
theorem dX8_sweep_1 : decode cX8_sweep 1 = .ok (.invokevirtual 62, 3) := by decide +kernel
theorem dX8_sweep_4 : decode cX8_sweep 4 = .ok (.aload_n 0, 1) := by decide +kernel
theorem dX8_sweep_5 : decode cX8_sweep 5 = .ok (.aload_n 0, 1) := by decide +kernel
theorem dX8_sweep_6 : decode cX8_sweep 6 = .ok (.iload_n 1, 1) := by decide +kernel
theorem dX8_sweep_7 : decode cX8_sweep 7 = .ok (.invokevirtual 157, 3) := by decide +kernel
theorem dX8_sweep_10 : decode cX8_sweep 10 = .ok (.invokevirtual 106, 3) := by decide +kernel
theorem dX8_sweep_13 : decode cX8_sweep 13 = .ok (.ireturn, 1) := by decide +kernel
theorem dX8_sets_0 : decode cX8_sets 0 = .ok (.iload_n 2, 1) := by decide +kernel
theorem dX8_sets_1 : decode cX8_sets 1 = .ok (.iconst 0, 1) := by decide +kernel
theorem dX8_sets_2 : decode cX8_sets 2 = .ok (.bipush 9, 2) := by decide +kernel
theorem dX8_sets_4 : decode cX8_sets 4 = .ok (.invokestatic 55, 3) := by decide +kernel
theorem dX8_sets_7 : decode cX8_sets 7 = .ok (.ifCond .ne 6, 3) := by decide +kernel
theorem dX8_sets_10 : decode cX8_sets 10 = .ok (.bipush (-2), 2) := by decide +kernel
theorem dX8_sets_12 : decode cX8_sets 12 = .ok (.ireturn, 1) := by decide +kernel
theorem dX8_sets_13 : decode cX8_sets 13 = .ok (.aload_n 0, 1) := by decide +kernel
theorem dX8_sets_14 : decode cX8_sets 14 = .ok (.getfield 9, 3) := by decide +kernel
theorem dX8_sets_17 : decode cX8_sets 17 = .ok (.iload_n 1, 1) := by decide +kernel
theorem dX8_sets_18 : decode cX8_sets 18 = .ok (.iaload, 1) := by decide +kernel
theorem dX8_sets_19 : decode cX8_sets 19 = .ok (.istore_n 3, 1) := by decide +kernel
theorem dX8_sets_20 : decode cX8_sets 20 = .ok (.aload_n 0, 1) := by decide +kernel
theorem dX8_sets_21 : decode cX8_sets 21 = .ok (.getfield 9, 3) := by decide +kernel
theorem dX8_sets_24 : decode cX8_sets 24 = .ok (.iload_n 1, 1) := by decide +kernel
theorem dX8_sets_25 : decode cX8_sets 25 = .ok (.iload_n 2, 1) := by decide +kernel
theorem dX8_sets_26 : decode cX8_sets 26 = .ok (.iastore, 1) := by decide +kernel
theorem dX8_sets_27 : decode cX8_sets 27 = .ok (.aload_n 0, 1) := by decide +kernel
theorem dX8_sets_28 : decode cX8_sets 28 = .ok (.iload_n 3, 1) := by decide +kernel
theorem dX8_sets_29 : decode cX8_sets 29 = .ok (.invokevirtual 100, 3) := by decide +kernel
theorem dX8_sets_32 : decode cX8_sets 32 = .ok (.ireturn, 1) := by decide +kernel
theorem dX8_rain_0 : decode cX8_rain 0 = .ok (.aload_n 0, 1) := by decide +kernel
theorem dX8_rain_1 : decode cX8_rain 1 = .ok (.invokevirtual 62, 3) := by decide +kernel
theorem dX8_rain_4 : decode cX8_rain 4 = .ok (.aload_n 0, 1) := by decide +kernel
theorem dX8_rain_5 : decode cX8_rain 5 = .ok (.aload_n 0, 1) := by decide +kernel
theorem dX8_rain_6 : decode cX8_rain 6 = .ok (.iconst 1, 1) := by decide +kernel
theorem dX8_rain_7 : decode cX8_rain 7 = .ok (.iload_n 1, 1) := by decide +kernel
theorem dX8_rain_8 : decode cX8_rain 8 = .ok (.invokevirtual 160, 3) := by decide +kernel
theorem dX8_rain_11 : decode cX8_rain 11 = .ok (.invokevirtual 106, 3) := by decide +kernel
theorem dX8_rain_14 : decode cX8_rain 14 = .ok (.ireturn, 1) := by decide +kernel
theorem dX8_sun_0 : decode cX8_sun 0 = .ok (.aload_n 0, 1) := by decide +kernel
theorem dX8_sun_1 : decode cX8_sun 1 = .ok (.invokevirtual 62, 3) := by decide +kernel
theorem dX8_sun_4 : decode cX8_sun 4 = .ok (.aload_n 0, 1) := by decide +kernel
theorem dX8_sun_5 : decode cX8_sun 5 = .ok (.aload_n 0, 1) := by decide +kernel
theorem dX8_sun_6 : decode cX8_sun 6 = .ok (.iconst 2, 1) := by decide +kernel
theorem dX8_sun_7 : decode cX8_sun 7 = .ok (.iload_n 1, 1) := by decide +kernel
theorem dX8_sun_8 : decode cX8_sun 8 = .ok (.invokevirtual 160, 3) := by decide +kernel
theorem dX8_sun_11 : decode cX8_sun 11 = .ok (.invokevirtual 106, 3) := by decide +kernel
theorem dX8_sun_14 : decode cX8_sun 14 = .ok (.ireturn, 1) := by decide +kernel
theorem dX8_brew_0 : decode cX8_brew 0 = .ok (.aload_n 0, 1) := by decide +kernel
theorem dX8_brew_1 : decode cX8_brew 1 = .ok (.invokevirtual 62, 3) := by decide +kernel
theorem dX8_brew_4 : decode cX8_brew 4 = .ok (.iload_n 1, 1) := by decide +kernel
theorem dX8_brew_5 : decode cX8_brew 5 = .ok (.iconst 1, 1) := by decide +kernel
theorem dX8_brew_6 : decode cX8_brew 6 = .ok (.bipush 20, 2) := by decide +kernel
theorem dX8_brew_8 : decode cX8_brew 8 = .ok (.invokestatic 55, 3) := by decide +kernel
theorem dX8_brew_11 : decode cX8_brew 11 = .ok (.ifCond .ne 6, 3) := by decide +kernel
theorem dX8_brew_14 : decode cX8_brew 14 = .ok (.bipush (-2), 2) := by decide +kernel
theorem dX8_brew_16 : decode cX8_brew 16 = .ok (.ireturn, 1) := by decide +kernel
theorem dX8_brew_17 : decode cX8_brew 17 = .ok (.aload_n 0, 1) := by decide +kernel
theorem dX8_brew_18 : decode cX8_brew 18 = .ok (.getfield 9, 3) := by decide +kernel
theorem dX8_brew_21 : decode cX8_brew 21 = .ok (.bipush 6, 2) := by decide +kernel
theorem dX8_brew_23 : decode cX8_brew 23 = .ok (.bipush 40, 2) := by decide +kernel
theorem dX8_brew_25 : decode cX8_brew 25 = .ok (.aload_n 0, 1) := by decide +kernel
theorem dX8_brew_26 : decode cX8_brew 26 = .ok (.getfield 9, 3) := by decide +kernel
theorem dX8_brew_29 : decode cX8_brew 29 = .ok (.bipush 6, 2) := by decide +kernel
theorem dX8_brew_31 : decode cX8_brew 31 = .ok (.iaload, 1) := by decide +kernel
theorem dX8_brew_32 : decode cX8_brew 32 = .ok (.iload_n 1, 1) := by decide +kernel
theorem dX8_brew_33 : decode cX8_brew 33 = .ok (.iadd, 1) := by decide +kernel
theorem dX8_brew_34 : decode cX8_brew 34 = .ok (.invokestatic 79, 3) := by decide +kernel
theorem dX8_brew_37 : decode cX8_brew 37 = .ok (.iastore, 1) := by decide +kernel
theorem dX8_brew_38 : decode cX8_brew 38 = .ok (.aload_n 0, 1) := by decide +kernel
theorem dX8_brew_39 : decode cX8_brew 39 = .ok (.aload_n 0, 1) := by decide +kernel
theorem dX8_brew_40 : decode cX8_brew 40 = .ok (.getfield 9, 3) := by decide +kernel
theorem dX8_brew_43 : decode cX8_brew 43 = .ok (.bipush 6, 2) := by decide +kernel
theorem dX8_brew_45 : decode cX8_brew 45 = .ok (.iaload, 1) := by decide +kernel
theorem dX8_brew_46 : decode cX8_brew 46 = .ok (.invokevirtual 51, 3) := by decide +kernel
theorem dX8_brew_49 : decode cX8_brew 49 = .ok (.ireturn, 1) := by decide +kernel
theorem dX8_drinks_0 : decode cX8_drinks 0 = .ok (.iload_n 1, 1) := by decide +kernel
theorem dX8_drinks_1 : decode cX8_drinks 1 = .ok (.iconst 0, 1) := by decide +kernel
theorem dX8_drinks_2 : decode cX8_drinks 2 = .ok (.iconst 1, 1) := by decide +kernel
theorem dX8_drinks_3 : decode cX8_drinks 3 = .ok (.invokestatic 55, 3) := by decide +kernel
theorem dX8_drinks_6 : decode cX8_drinks 6 = .ok (.ifCond .ne 5, 3) := by decide +kernel
theorem dX8_drinks_9 : decode cX8_drinks 9 = .ok (.iconst (-1), 1) := by decide +kernel
theorem dX8_drinks_10 : decode cX8_drinks 10 = .ok (.ireturn, 1) := by decide +kernel
theorem dX8_drinks_11 : decode cX8_drinks 11 = .ok (.aload_n 0, 1) := by decide +kernel
theorem dX8_drinks_12 : decode cX8_drinks 12 = .ok (.getfield 9, 3) := by decide +kernel
theorem dX8_drinks_15 : decode cX8_drinks 15 = .ok (.bipush 6, 2) := by decide +kernel
theorem dX8_drinks_17 : decode cX8_drinks 17 = .ok (.iaload, 1) := by decide +kernel
theorem dX8_drinks_18 : decode cX8_drinks 18 = .ok (.ifCond .ne 11, 3) := by decide +kernel
theorem dX8_drinks_21 : decode cX8_drinks 21 = .ok (.aload_n 0, 1) := by decide +kernel
theorem dX8_drinks_22 : decode cX8_drinks 22 = .ok (.bipush 10, 2) := by decide +kernel
theorem dX8_drinks_24 : decode cX8_drinks 24 = .ok (.iconst 1, 1) := by decide +kernel
theorem dX8_drinks_25 : decode cX8_drinks 25 = .ok (.invokevirtual 65, 3) := by decide +kernel
theorem dX8_drinks_28 : decode cX8_drinks 28 = .ok (.ireturn, 1) := by decide +kernel
theorem dX8_drinks_29 : decode cX8_drinks 29 = .ok (.aload_n 0, 1) := by decide +kernel
theorem dX8_drinks_30 : decode cX8_drinks 30 = .ok (.getfield 9, 3) := by decide +kernel
theorem dX8_drinks_33 : decode cX8_drinks 33 = .ok (.bipush 9, 2) := by decide +kernel
theorem dX8_drinks_35 : decode cX8_drinks 35 = .ok (.iconst 4, 1) := by decide +kernel
theorem dX8_drinks_36 : decode cX8_drinks 36 = .ok (.iload_n 1, 1) := by decide +kernel
theorem dX8_drinks_37 : decode cX8_drinks 37 = .ok (.imul, 1) := by decide +kernel
theorem dX8_drinks_38 : decode cX8_drinks 38 = .ok (.iadd, 1) := by decide +kernel
theorem dX8_drinks_39 : decode cX8_drinks 39 = .ok (.iconst 2, 1) := by decide +kernel
theorem dX8_drinks_40 : decode cX8_drinks 40 = .ok (.iadd, 1) := by decide +kernel
theorem dX8_drinks_41 : decode cX8_drinks 41 = .ok (.iaload, 1) := by decide +kernel
theorem dX8_drinks_42 : decode cX8_drinks 42 = .ok (.ifCond .ne 11, 3) := by decide +kernel
theorem dX8_drinks_45 : decode cX8_drinks 45 = .ok (.aload_n 0, 1) := by decide +kernel
theorem dX8_drinks_46 : decode cX8_drinks 46 = .ok (.bipush 11, 2) := by decide +kernel
theorem dX8_drinks_48 : decode cX8_drinks 48 = .ok (.iload_n 1, 1) := by decide +kernel
theorem dX8_drinks_49 : decode cX8_drinks 49 = .ok (.invokevirtual 65, 3) := by decide +kernel
theorem dX8_drinks_52 : decode cX8_drinks 52 = .ok (.ireturn, 1) := by decide +kernel
theorem dX8_drinks_53 : decode cX8_drinks 53 = .ok (.aload_n 0, 1) := by decide +kernel
theorem dX8_drinks_54 : decode cX8_drinks 54 = .ok (.getfield 9, 3) := by decide +kernel
theorem dX8_drinks_57 : decode cX8_drinks 57 = .ok (.bipush 6, 2) := by decide +kernel
theorem dX8_drinks_59 : decode cX8_drinks 59 = .ok (.dup2, 1) := by decide +kernel
theorem dX8_drinks_60 : decode cX8_drinks 60 = .ok (.iaload, 1) := by decide +kernel
theorem dX8_drinks_61 : decode cX8_drinks 61 = .ok (.iconst 1, 1) := by decide +kernel
theorem dX8_drinks_62 : decode cX8_drinks 62 = .ok (.isub, 1) := by decide +kernel
theorem dX8_drinks_63 : decode cX8_drinks 63 = .ok (.iastore, 1) := by decide +kernel
theorem dX8_drinks_64 : decode cX8_drinks 64 = .ok (.aload_n 0, 1) := by decide +kernel
theorem dX8_drinks_65 : decode cX8_drinks 65 = .ok (.getfield 9, 3) := by decide +kernel
theorem dX8_drinks_68 : decode cX8_drinks 68 = .ok (.bipush 7, 2) := by decide +kernel
theorem dX8_drinks_70 : decode cX8_drinks 70 = .ok (.dup2, 1) := by decide +kernel
theorem dX8_drinks_71 : decode cX8_drinks 71 = .ok (.iaload, 1) := by decide +kernel
theorem dX8_drinks_72 : decode cX8_drinks 72 = .ok (.iconst 1, 1) := by decide +kernel
theorem dX8_drinks_73 : decode cX8_drinks 73 = .ok (.iadd, 1) := by decide +kernel
theorem dX8_drinks_74 : decode cX8_drinks 74 = .ok (.iastore, 1) := by decide +kernel
theorem dX8_drinks_75 : decode cX8_drinks 75 = .ok (.aload_n 0, 1) := by decide +kernel
theorem dX8_drinks_76 : decode cX8_drinks 76 = .ok (.getfield 9, 3) := by decide +kernel
theorem dX8_drinks_79 : decode cX8_drinks 79 = .ok (.bipush 9, 2) := by decide +kernel
theorem dX8_drinks_81 : decode cX8_drinks 81 = .ok (.iconst 4, 1) := by decide +kernel
theorem dX8_drinks_82 : decode cX8_drinks 82 = .ok (.iload_n 1, 1) := by decide +kernel
theorem dX8_drinks_83 : decode cX8_drinks 83 = .ok (.imul, 1) := by decide +kernel
theorem dX8_drinks_84 : decode cX8_drinks 84 = .ok (.iadd, 1) := by decide +kernel
theorem dX8_drinks_85 : decode cX8_drinks 85 = .ok (.iconst 2, 1) := by decide +kernel
theorem dX8_drinks_86 : decode cX8_drinks 86 = .ok (.iadd, 1) := by decide +kernel
theorem dX8_drinks_87 : decode cX8_drinks 87 = .ok (.dup2, 1) := by decide +kernel
theorem dX8_drinks_88 : decode cX8_drinks 88 = .ok (.iaload, 1) := by decide +kernel
theorem dX8_drinks_89 : decode cX8_drinks 89 = .ok (.iconst 1, 1) := by decide +kernel
theorem dX8_drinks_90 : decode cX8_drinks 90 = .ok (.isub, 1) := by decide +kernel
theorem dX8_drinks_91 : decode cX8_drinks 91 = .ok (.iastore, 1) := by decide +kernel
theorem dX8_drinks_92 : decode cX8_drinks 92 = .ok (.aload_n 0, 1) := by decide +kernel
theorem dX8_drinks_93 : decode cX8_drinks 93 = .ok (.getfield 9, 3) := by decide +kernel
theorem dX8_drinks_96 : decode cX8_drinks 96 = .ok (.bipush 9, 2) := by decide +kernel
theorem dX8_drinks_98 : decode cX8_drinks 98 = .ok (.iconst 4, 1) := by decide +kernel
theorem dX8_drinks_99 : decode cX8_drinks 99 = .ok (.iload_n 1, 1) := by decide +kernel
theorem dX8_drinks_100 : decode cX8_drinks 100 = .ok (.imul, 1) := by decide +kernel
theorem dX8_drinks_101 : decode cX8_drinks 101 = .ok (.iadd, 1) := by decide +kernel
theorem dX8_drinks_102 : decode cX8_drinks 102 = .ok (.iconst 3, 1) := by decide +kernel
theorem dX8_drinks_103 : decode cX8_drinks 103 = .ok (.iadd, 1) := by decide +kernel
theorem dX8_drinks_104 : decode cX8_drinks 104 = .ok (.dup2, 1) := by decide +kernel
theorem dX8_drinks_105 : decode cX8_drinks 105 = .ok (.iaload, 1) := by decide +kernel
theorem dX8_drinks_106 : decode cX8_drinks 106 = .ok (.iconst 1, 1) := by decide +kernel
theorem dX8_drinks_107 : decode cX8_drinks 107 = .ok (.iadd, 1) := by decide +kernel
theorem dX8_drinks_108 : decode cX8_drinks 108 = .ok (.iastore, 1) := by decide +kernel
theorem dX8_drinks_109 : decode cX8_drinks 109 = .ok (.aload_n 0, 1) := by decide +kernel
theorem dX8_drinks_110 : decode cX8_drinks 110 = .ok (.aload_n 0, 1) := by decide +kernel
theorem dX8_drinks_111 : decode cX8_drinks 111 = .ok (.getfield 9, 3) := by decide +kernel
theorem dX8_drinks_114 : decode cX8_drinks 114 = .ok (.bipush 9, 2) := by decide +kernel
theorem dX8_drinks_116 : decode cX8_drinks 116 = .ok (.iconst 4, 1) := by decide +kernel
theorem dX8_drinks_117 : decode cX8_drinks 117 = .ok (.iload_n 1, 1) := by decide +kernel
theorem dX8_drinks_118 : decode cX8_drinks 118 = .ok (.imul, 1) := by decide +kernel
theorem dX8_drinks_119 : decode cX8_drinks 119 = .ok (.iadd, 1) := by decide +kernel
theorem dX8_drinks_120 : decode cX8_drinks 120 = .ok (.iconst 3, 1) := by decide +kernel
theorem dX8_drinks_121 : decode cX8_drinks 121 = .ok (.iadd, 1) := by decide +kernel
theorem dX8_drinks_122 : decode cX8_drinks 122 = .ok (.iaload, 1) := by decide +kernel
theorem dX8_drinks_123 : decode cX8_drinks 123 = .ok (.invokevirtual 100, 3) := by decide +kernel
theorem dX8_drinks_126 : decode cX8_drinks 126 = .ok (.ireturn, 1) := by decide +kernel
theorem dX8_tea_0 : decode cX8_tea 0 = .ok (.aload_n 0, 1) := by decide +kernel
theorem dX8_tea_1 : decode cX8_tea 1 = .ok (.invokevirtual 62, 3) := by decide +kernel
theorem dX8_tea_4 : decode cX8_tea 4 = .ok (.aload_n 0, 1) := by decide +kernel
theorem dX8_tea_5 : decode cX8_tea 5 = .ok (.aload_n 0, 1) := by decide +kernel
theorem dX8_tea_6 : decode cX8_tea 6 = .ok (.iload_n 1, 1) := by decide +kernel
theorem dX8_tea_7 : decode cX8_tea 7 = .ok (.invokevirtual 163, 3) := by decide +kernel
theorem dX8_tea_10 : decode cX8_tea 10 = .ok (.invokevirtual 106, 3) := by decide +kernel
theorem dX8_tea_13 : decode cX8_tea 13 = .ok (.ireturn, 1) := by decide +kernel
theorem dX8_allCasts_0 : decode cX8_allCasts 0 = .ok (.iconst 0, 1) := by decide +kernel
theorem dX8_allCasts_1 : decode cX8_allCasts 1 = .ok (.istore_n 1, 1) := by decide +kernel
theorem dX8_allCasts_2 : decode cX8_allCasts 2 = .ok (.iconst 0, 1) := by decide +kernel
theorem dX8_allCasts_3 : decode cX8_allCasts 3 = .ok (.istore_n 2, 1) := by decide +kernel
theorem dX8_allCasts_4 : decode cX8_allCasts 4 = .ok (.iload_n 2, 1) := by decide +kernel
theorem dX8_allCasts_5 : decode cX8_allCasts 5 = .ok (.aload_n 0, 1) := by decide +kernel
theorem dX8_allCasts_6 : decode cX8_allCasts 6 = .ok (.getfield 9, 3) := by decide +kernel
theorem dX8_allCasts_9 : decode cX8_allCasts 9 = .ok (.iconst 3, 1) := by decide +kernel
theorem dX8_allCasts_10 : decode cX8_allCasts 10 = .ok (.iaload, 1) := by decide +kernel
theorem dX8_allCasts_11 : decode cX8_allCasts 11 = .ok (.if_icmp .ge 18, 3) := by decide +kernel
theorem dX8_allCasts_14 : decode cX8_allCasts 14 = .ok (.iload_n 1, 1) := by decide +kernel
theorem dX8_allCasts_15 : decode cX8_allCasts 15 = .ok (.aload_n 0, 1) := by decide +kernel
theorem dX8_allCasts_16 : decode cX8_allCasts 16 = .ok (.iload_n 2, 1) := by decide +kernel
theorem dX8_allCasts_17 : decode cX8_allCasts 17 = .ok (.iconst 3, 1) := by decide +kernel
theorem dX8_allCasts_18 : decode cX8_allCasts 18 = .ok (.invokevirtual 69, 3) := by decide +kernel
theorem dX8_allCasts_21 : decode cX8_allCasts 21 = .ok (.iadd, 1) := by decide +kernel
theorem dX8_allCasts_22 : decode cX8_allCasts 22 = .ok (.istore_n 1, 1) := by decide +kernel
theorem dX8_allCasts_23 : decode cX8_allCasts 23 = .ok (.iinc 2 1, 3) := by decide +kernel
theorem dX8_allCasts_26 : decode cX8_allCasts 26 = .ok (.goto (-22), 3) := by decide +kernel
theorem dX8_allCasts_29 : decode cX8_allCasts 29 = .ok (.iload_n 1, 1) := by decide +kernel
theorem dX8_allCasts_30 : decode cX8_allCasts 30 = .ok (.ireturn, 1) := by decide +kernel
theorem dX8_castsAfter_0 : decode cX8_castsAfter 0 = .ok (.iload_n 2, 1) := by decide +kernel
theorem dX8_castsAfter_1 : decode cX8_castsAfter 1 = .ok (.iconst 5, 1) := by decide +kernel
theorem dX8_castsAfter_2 : decode cX8_castsAfter 2 = .ok (.if_icmp .lt 23, 3) := by decide +kernel
theorem dX8_castsAfter_5 : decode cX8_castsAfter 5 = .ok (.aload_n 0, 1) := by decide +kernel
theorem dX8_castsAfter_6 : decode cX8_castsAfter 6 = .ok (.iload_n 1, 1) := by decide +kernel
theorem dX8_castsAfter_7 : decode cX8_castsAfter 7 = .ok (.iconst 4, 1) := by decide +kernel
theorem dX8_castsAfter_8 : decode cX8_castsAfter 8 = .ok (.invokevirtual 69, 3) := by decide +kernel
theorem dX8_castsAfter_11 : decode cX8_castsAfter 11 = .ok (.ifCond .ne 14, 3) := by decide +kernel
theorem dX8_castsAfter_14 : decode cX8_castsAfter 14 = .ok (.bipush 9, 2) := by decide +kernel
theorem dX8_castsAfter_16 : decode cX8_castsAfter 16 = .ok (.iload_n 3, 1) := by decide +kernel
theorem dX8_castsAfter_17 : decode cX8_castsAfter 17 = .ok (.iconst 1, 1) := by decide +kernel
theorem dX8_castsAfter_18 : decode cX8_castsAfter 18 = .ok (.iadd, 1) := by decide +kernel
theorem dX8_castsAfter_19 : decode cX8_castsAfter 19 = .ok (.invokestatic 79, 3) := by decide +kernel
theorem dX8_castsAfter_22 : decode cX8_castsAfter 22 = .ok (.goto 4, 3) := by decide +kernel
theorem dX8_castsAfter_25 : decode cX8_castsAfter 25 = .ok (.iload_n 3, 1) := by decide +kernel
theorem dX8_castsAfter_26 : decode cX8_castsAfter 26 = .ok (.ireturn, 1) := by decide +kernel
theorem dX8_passes_0 : decode cX8_passes 0 = .ok (.iload_n 1, 1) := by decide +kernel
theorem dX8_passes_1 : decode cX8_passes 1 = .ok (.iconst 1, 1) := by decide +kernel
theorem dX8_passes_2 : decode cX8_passes 2 = .ok (.bipush 24, 2) := by decide +kernel
theorem dX8_passes_4 : decode cX8_passes 4 = .ok (.invokestatic 55, 3) := by decide +kernel
theorem dX8_passes_7 : decode cX8_passes 7 = .ok (.ifCond .ne 6, 3) := by decide +kernel
theorem dX8_passes_10 : decode cX8_passes 10 = .ok (.bipush (-2), 2) := by decide +kernel
theorem dX8_passes_12 : decode cX8_passes 12 = .ok (.ireturn, 1) := by decide +kernel
theorem dX8_passes_13 : decode cX8_passes 13 = .ok (.iconst 0, 1) := by decide +kernel
theorem dX8_passes_14 : decode cX8_passes 14 = .ok (.istore_n 2, 1) := by decide +kernel
theorem dX8_passes_15 : decode cX8_passes 15 = .ok (.iload_n 2, 1) := by decide +kernel
theorem dX8_passes_16 : decode cX8_passes 16 = .ok (.iload_n 1, 1) := by decide +kernel
theorem dX8_passes_17 : decode cX8_passes 17 = .ok (.if_icmp .ge 76, 3) := by decide +kernel
theorem dX8_passes_20 : decode cX8_passes 20 = .ok (.iconst 0, 1) := by decide +kernel
theorem dX8_passes_21 : decode cX8_passes 21 = .ok (.istore_n 3, 1) := by decide +kernel
theorem dX8_passes_22 : decode cX8_passes 22 = .ok (.iload_n 3, 1) := by decide +kernel
theorem dX8_passes_23 : decode cX8_passes 23 = .ok (.aload_n 0, 1) := by decide +kernel
theorem dX8_passes_24 : decode cX8_passes 24 = .ok (.getfield 9, 3) := by decide +kernel
theorem dX8_passes_27 : decode cX8_passes 27 = .ok (.iconst 3, 1) := by decide +kernel
theorem dX8_passes_28 : decode cX8_passes 28 = .ok (.iaload, 1) := by decide +kernel
theorem dX8_passes_29 : decode cX8_passes 29 = .ok (.if_icmp .ge 48, 3) := by decide +kernel
theorem dX8_passes_32 : decode cX8_passes 32 = .ok (.aload_n 0, 1) := by decide +kernel
theorem dX8_passes_33 : decode cX8_passes 33 = .ok (.iload_n 3, 1) := by decide +kernel
theorem dX8_passes_34 : decode cX8_passes 34 = .ok (.iconst 2, 1) := by decide +kernel
theorem dX8_passes_35 : decode cX8_passes 35 = .ok (.aload_n 0, 1) := by decide +kernel
theorem dX8_passes_36 : decode cX8_passes 36 = .ok (.aload_n 0, 1) := by decide +kernel
theorem dX8_passes_37 : decode cX8_passes 37 = .ok (.iload_n 3, 1) := by decide +kernel
theorem dX8_passes_38 : decode cX8_passes 38 = .ok (.iconst 2, 1) := by decide +kernel
theorem dX8_passes_39 : decode cX8_passes 39 = .ok (.invokevirtual 69, 3) := by decide +kernel
theorem dX8_passes_42 : decode cX8_passes 42 = .ok (.invokevirtual 87, 3) := by decide +kernel
theorem dX8_passes_45 : decode cX8_passes 45 = .ok (.invokevirtual 72, 3) := by decide +kernel
theorem dX8_passes_48 : decode cX8_passes 48 = .ok (.aload_n 0, 1) := by decide +kernel
theorem dX8_passes_49 : decode cX8_passes 49 = .ok (.iload_n 3, 1) := by decide +kernel
theorem dX8_passes_50 : decode cX8_passes 50 = .ok (.iconst 3, 1) := by decide +kernel
theorem dX8_passes_51 : decode cX8_passes 51 = .ok (.aload_n 0, 1) := by decide +kernel
theorem dX8_passes_52 : decode cX8_passes 52 = .ok (.iload_n 3, 1) := by decide +kernel
theorem dX8_passes_53 : decode cX8_passes 53 = .ok (.aload_n 0, 1) := by decide +kernel
theorem dX8_passes_54 : decode cX8_passes 54 = .ok (.iload_n 3, 1) := by decide +kernel
theorem dX8_passes_55 : decode cX8_passes 55 = .ok (.iconst 2, 1) := by decide +kernel
theorem dX8_passes_56 : decode cX8_passes 56 = .ok (.invokevirtual 69, 3) := by decide +kernel
theorem dX8_passes_59 : decode cX8_passes 59 = .ok (.aload_n 0, 1) := by decide +kernel
theorem dX8_passes_60 : decode cX8_passes 60 = .ok (.iload_n 3, 1) := by decide +kernel
theorem dX8_passes_61 : decode cX8_passes 61 = .ok (.iconst 3, 1) := by decide +kernel
theorem dX8_passes_62 : decode cX8_passes 62 = .ok (.invokevirtual 69, 3) := by decide +kernel
theorem dX8_passes_65 : decode cX8_passes 65 = .ok (.invokevirtual 166, 3) := by decide +kernel
theorem dX8_passes_68 : decode cX8_passes 68 = .ok (.invokevirtual 72, 3) := by decide +kernel
theorem dX8_passes_71 : decode cX8_passes 71 = .ok (.iinc 3 1, 3) := by decide +kernel
theorem dX8_passes_74 : decode cX8_passes 74 = .ok (.goto (-52), 3) := by decide +kernel
theorem dX8_passes_77 : decode cX8_passes 77 = .ok (.aload_n 0, 1) := by decide +kernel
theorem dX8_passes_78 : decode cX8_passes 78 = .ok (.getfield 9, 3) := by decide +kernel
theorem dX8_passes_81 : decode cX8_passes 81 = .ok (.iconst 0, 1) := by decide +kernel
theorem dX8_passes_82 : decode cX8_passes 82 = .ok (.dup2, 1) := by decide +kernel
theorem dX8_passes_83 : decode cX8_passes 83 = .ok (.iaload, 1) := by decide +kernel
theorem dX8_passes_84 : decode cX8_passes 84 = .ok (.iconst 1, 1) := by decide +kernel
theorem dX8_passes_85 : decode cX8_passes 85 = .ok (.iadd, 1) := by decide +kernel
theorem dX8_passes_86 : decode cX8_passes 86 = .ok (.iastore, 1) := by decide +kernel
theorem dX8_passes_87 : decode cX8_passes 87 = .ok (.iinc 2 1, 3) := by decide +kernel
theorem dX8_passes_90 : decode cX8_passes 90 = .ok (.goto (-75), 3) := by decide +kernel
theorem dX8_passes_93 : decode cX8_passes 93 = .ok (.aload_n 0, 1) := by decide +kernel
theorem dX8_passes_94 : decode cX8_passes 94 = .ok (.aload_n 0, 1) := by decide +kernel
theorem dX8_passes_95 : decode cX8_passes 95 = .ok (.invokevirtual 169, 3) := by decide +kernel
theorem dX8_passes_98 : decode cX8_passes 98 = .ok (.invokevirtual 100, 3) := by decide +kernel
theorem dX8_passes_101 : decode cX8_passes 101 = .ok (.ireturn, 1) := by decide +kernel
theorem dX8_hour_0 : decode cX8_hour 0 = .ok (.aload_n 0, 1) := by decide +kernel
theorem dX8_hour_1 : decode cX8_hour 1 = .ok (.invokevirtual 62, 3) := by decide +kernel
theorem dX8_hour_4 : decode cX8_hour 4 = .ok (.aload_n 0, 1) := by decide +kernel
theorem dX8_hour_5 : decode cX8_hour 5 = .ok (.aload_n 0, 1) := by decide +kernel
theorem dX8_hour_6 : decode cX8_hour 6 = .ok (.iload_n 1, 1) := by decide +kernel
theorem dX8_hour_7 : decode cX8_hour 7 = .ok (.invokevirtual 173, 3) := by decide +kernel
theorem dX8_hour_10 : decode cX8_hour 10 = .ok (.invokevirtual 106, 3) := by decide +kernel
theorem dX8_hour_13 : decode cX8_hour 13 = .ok (.ireturn, 1) := by decide +kernel
theorem dX8_isNext_0 : decode cX8_isNext 0 = .ok (.aload_n 0, 1) := by decide +kernel
theorem dX8_isNext_1 : decode cX8_isNext 1 = .ok (.getfield 176, 3) := by decide +kernel
theorem dX8_isNext_4 : decode cX8_isNext 4 = .ok (.aload_n 0, 1) := by decide +kernel
theorem dX8_isNext_5 : decode cX8_isNext 5 = .ok (.getfield 59, 3) := by decide +kernel
theorem dX8_isNext_8 : decode cX8_isNext 8 = .ok (.if_icmp .eq 16, 3) := by decide +kernel
theorem dX8_isNext_11 : decode cX8_isNext 11 = .ok (.aload_n 0, 1) := by decide +kernel
theorem dX8_isNext_12 : decode cX8_isNext 12 = .ok (.getfield 25, 3) := by decide +kernel
theorem dX8_isNext_15 : decode cX8_isNext 15 = .ok (.aload_n 0, 1) := by decide +kernel
theorem dX8_isNext_16 : decode cX8_isNext 16 = .ok (.getfield 176, 3) := by decide +kernel
theorem dX8_isNext_19 : decode cX8_isNext 19 = .ok (.caload, 1) := by decide +kernel
theorem dX8_isNext_20 : decode cX8_isNext 20 = .ok (.iload_n 1, 1) := by decide +kernel
theorem dX8_isNext_21 : decode cX8_isNext 21 = .ok (.if_icmp .eq 5, 3) := by decide +kernel
theorem dX8_isNext_24 : decode cX8_isNext 24 = .ok (.iconst 0, 1) := by decide +kernel
theorem dX8_isNext_25 : decode cX8_isNext 25 = .ok (.ireturn, 1) := by decide +kernel
theorem dX8_isNext_26 : decode cX8_isNext 26 = .ok (.aload_n 0, 1) := by decide +kernel
theorem dX8_isNext_27 : decode cX8_isNext 27 = .ok (.dup, 1) := by decide +kernel
theorem dX8_isNext_28 : decode cX8_isNext 28 = .ok (.getfield 176, 3) := by decide +kernel
theorem dX8_isNext_31 : decode cX8_isNext 31 = .ok (.iconst 1, 1) := by decide +kernel
theorem dX8_isNext_32 : decode cX8_isNext 32 = .ok (.iadd, 1) := by decide +kernel
theorem dX8_isNext_33 : decode cX8_isNext 33 = .ok (.putfield 176, 3) := by decide +kernel
theorem dX8_isNext_36 : decode cX8_isNext 36 = .ok (.iconst 1, 1) := by decide +kernel
theorem dX8_isNext_37 : decode cX8_isNext 37 = .ok (.ireturn, 1) := by decide +kernel
theorem dX8_digits_0 : decode cX8_digits 0 = .ok (.iconst 0, 1) := by decide +kernel
theorem dX8_digits_1 : decode cX8_digits 1 = .ok (.istore_n 3, 1) := by decide +kernel
theorem dX8_digits_2 : decode cX8_digits 2 = .ok (.aload_n 0, 1) := by decide +kernel
theorem dX8_digits_3 : decode cX8_digits 3 = .ok (.getfield 29, 3) := by decide +kernel
theorem dX8_digits_6 : decode cX8_digits 6 = .ok (.iload_n 1, 1) := by decide +kernel
theorem dX8_digits_7 : decode cX8_digits 7 = .ok (.iconst 0, 1) := by decide +kernel
theorem dX8_digits_8 : decode cX8_digits 8 = .ok (.iastore, 1) := by decide +kernel
theorem dX8_digits_9 : decode cX8_digits 9 = .ok (.iload_n 3, 1) := by decide +kernel
theorem dX8_digits_10 : decode cX8_digits 10 = .ok (.iload_n 2, 1) := by decide +kernel
theorem dX8_digits_11 : decode cX8_digits 11 = .ok (.if_icmp .ge 74, 3) := by decide +kernel
theorem dX8_digits_14 : decode cX8_digits 14 = .ok (.aload_n 0, 1) := by decide +kernel
theorem dX8_digits_15 : decode cX8_digits 15 = .ok (.getfield 176, 3) := by decide +kernel
theorem dX8_digits_18 : decode cX8_digits 18 = .ok (.aload_n 0, 1) := by decide +kernel
theorem dX8_digits_19 : decode cX8_digits 19 = .ok (.getfield 59, 3) := by decide +kernel
theorem dX8_digits_22 : decode cX8_digits 22 = .ok (.if_icmp .ge 63, 3) := by decide +kernel
theorem dX8_digits_25 : decode cX8_digits 25 = .ok (.aload_n 0, 1) := by decide +kernel
theorem dX8_digits_26 : decode cX8_digits 26 = .ok (.getfield 25, 3) := by decide +kernel
theorem dX8_digits_29 : decode cX8_digits 29 = .ok (.aload_n 0, 1) := by decide +kernel
theorem dX8_digits_30 : decode cX8_digits 30 = .ok (.getfield 176, 3) := by decide +kernel
theorem dX8_digits_33 : decode cX8_digits 33 = .ok (.caload, 1) := by decide +kernel
theorem dX8_digits_34 : decode cX8_digits 34 = .ok (.bipush 48, 2) := by decide +kernel
theorem dX8_digits_36 : decode cX8_digits 36 = .ok (.bipush 57, 2) := by decide +kernel
theorem dX8_digits_38 : decode cX8_digits 38 = .ok (.invokestatic 55, 3) := by decide +kernel
theorem dX8_digits_41 : decode cX8_digits 41 = .ok (.ifCond .eq 44, 3) := by decide +kernel
theorem dX8_digits_44 : decode cX8_digits 44 = .ok (.aload_n 0, 1) := by decide +kernel
theorem dX8_digits_45 : decode cX8_digits 45 = .ok (.getfield 29, 3) := by decide +kernel
theorem dX8_digits_48 : decode cX8_digits 48 = .ok (.iload_n 1, 1) := by decide +kernel
theorem dX8_digits_49 : decode cX8_digits 49 = .ok (.bipush 10, 2) := by decide +kernel
theorem dX8_digits_51 : decode cX8_digits 51 = .ok (.aload_n 0, 1) := by decide +kernel
theorem dX8_digits_52 : decode cX8_digits 52 = .ok (.getfield 29, 3) := by decide +kernel
theorem dX8_digits_55 : decode cX8_digits 55 = .ok (.iload_n 1, 1) := by decide +kernel
theorem dX8_digits_56 : decode cX8_digits 56 = .ok (.iaload, 1) := by decide +kernel
theorem dX8_digits_57 : decode cX8_digits 57 = .ok (.imul, 1) := by decide +kernel
theorem dX8_digits_58 : decode cX8_digits 58 = .ok (.aload_n 0, 1) := by decide +kernel
theorem dX8_digits_59 : decode cX8_digits 59 = .ok (.getfield 25, 3) := by decide +kernel
theorem dX8_digits_62 : decode cX8_digits 62 = .ok (.aload_n 0, 1) := by decide +kernel
theorem dX8_digits_63 : decode cX8_digits 63 = .ok (.dup, 1) := by decide +kernel
theorem dX8_digits_64 : decode cX8_digits 64 = .ok (.getfield 176, 3) := by decide +kernel
theorem dX8_digits_67 : decode cX8_digits 67 = .ok (.dup_x1, 1) := by decide +kernel
theorem dX8_digits_68 : decode cX8_digits 68 = .ok (.iconst 1, 1) := by decide +kernel
theorem dX8_digits_69 : decode cX8_digits 69 = .ok (.iadd, 1) := by decide +kernel
theorem dX8_digits_70 : decode cX8_digits 70 = .ok (.putfield 176, 3) := by decide +kernel
theorem dX8_digits_73 : decode cX8_digits 73 = .ok (.caload, 1) := by decide +kernel
theorem dX8_digits_74 : decode cX8_digits 74 = .ok (.iadd, 1) := by decide +kernel
theorem dX8_digits_75 : decode cX8_digits 75 = .ok (.bipush 48, 2) := by decide +kernel
theorem dX8_digits_77 : decode cX8_digits 77 = .ok (.isub, 1) := by decide +kernel
theorem dX8_digits_78 : decode cX8_digits 78 = .ok (.iastore, 1) := by decide +kernel
theorem dX8_digits_79 : decode cX8_digits 79 = .ok (.iinc 3 1, 3) := by decide +kernel
theorem dX8_digits_82 : decode cX8_digits 82 = .ok (.goto (-73), 3) := by decide +kernel
theorem dX8_digits_85 : decode cX8_digits 85 = .ok (.iload_n 3, 1) := by decide +kernel
theorem dX8_digits_86 : decode cX8_digits 86 = .ok (.ifCond .le 7, 3) := by decide +kernel
theorem dX8_digits_89 : decode cX8_digits 89 = .ok (.iconst 1, 1) := by decide +kernel
theorem dX8_digits_90 : decode cX8_digits 90 = .ok (.goto 4, 3) := by decide +kernel
theorem dX8_digits_93 : decode cX8_digits 93 = .ok (.iconst 0, 1) := by decide +kernel
theorem dX8_digits_94 : decode cX8_digits 94 = .ok (.ireturn, 1) := by decide +kernel
theorem dX8_side_0 : decode cX8_side 0 = .ok (.aload_n 0, 1) := by decide +kernel
theorem dX8_side_1 : decode cX8_side 1 = .ok (.aload_n 0, 1) := by decide +kernel
theorem dX8_side_2 : decode cX8_side 2 = .ok (.bipush 43, 2) := by decide +kernel
theorem dX8_side_4 : decode cX8_side 4 = .ok (.invokevirtual 179, 3) := by decide +kernel
theorem dX8_side_7 : decode cX8_side 7 = .ok (.putfield 183, 3) := by decide +kernel
theorem dX8_side_10 : decode cX8_side 10 = .ok (.aload_n 0, 1) := by decide +kernel
theorem dX8_side_11 : decode cX8_side 11 = .ok (.getfield 183, 3) := by decide +kernel
theorem dX8_side_14 : decode cX8_side 14 = .ok (.ifCond .ne 12, 3) := by decide +kernel
theorem dX8_side_17 : decode cX8_side 17 = .ok (.aload_n 0, 1) := by decide +kernel
theorem dX8_side_18 : decode cX8_side 18 = .ok (.bipush 45, 2) := by decide +kernel
theorem dX8_side_20 : decode cX8_side 20 = .ok (.invokevirtual 179, 3) := by decide +kernel
theorem dX8_side_23 : decode cX8_side 23 = .ok (.ifCond .eq 7, 3) := by decide +kernel
theorem dX8_side_26 : decode cX8_side 26 = .ok (.iconst 1, 1) := by decide +kernel
theorem dX8_side_27 : decode cX8_side 27 = .ok (.goto 4, 3) := by decide +kernel
theorem dX8_side_30 : decode cX8_side 30 = .ok (.iconst 0, 1) := by decide +kernel
theorem dX8_side_31 : decode cX8_side 31 = .ok (.ireturn, 1) := by decide +kernel
theorem dX8_isOrder_0 : decode cX8_isOrder 0 = .ok (.aload_n 0, 1) := by decide +kernel
theorem dX8_isOrder_1 : decode cX8_isOrder 1 = .ok (.getfield 176, 3) := by decide +kernel
theorem dX8_isOrder_4 : decode cX8_isOrder 4 = .ok (.aload_n 0, 1) := by decide +kernel
theorem dX8_isOrder_5 : decode cX8_isOrder 5 = .ok (.getfield 59, 3) := by decide +kernel
theorem dX8_isOrder_8 : decode cX8_isOrder 8 = .ok (.if_icmp .ne 5, 3) := by decide +kernel
theorem dX8_isOrder_11 : decode cX8_isOrder 11 = .ok (.iconst 0, 1) := by decide +kernel
theorem dX8_isOrder_12 : decode cX8_isOrder 12 = .ok (.ireturn, 1) := by decide +kernel
theorem dX8_isOrder_13 : decode cX8_isOrder 13 = .ok (.aload_n 0, 1) := by decide +kernel
theorem dX8_isOrder_14 : decode cX8_isOrder 14 = .ok (.aload_n 0, 1) := by decide +kernel
theorem dX8_isOrder_15 : decode cX8_isOrder 15 = .ok (.getfield 25, 3) := by decide +kernel
theorem dX8_isOrder_18 : decode cX8_isOrder 18 = .ok (.aload_n 0, 1) := by decide +kernel
theorem dX8_isOrder_19 : decode cX8_isOrder 19 = .ok (.getfield 176, 3) := by decide +kernel
theorem dX8_isOrder_22 : decode cX8_isOrder 22 = .ok (.caload, 1) := by decide +kernel
theorem dX8_isOrder_23 : decode cX8_isOrder 23 = .ok (.putfield 187, 3) := by decide +kernel
theorem dX8_isOrder_26 : decode cX8_isOrder 26 = .ok (.aload_n 0, 1) := by decide +kernel
theorem dX8_isOrder_27 : decode cX8_isOrder 27 = .ok (.getfield 187, 3) := by decide +kernel
theorem dX8_isOrder_30 : decode cX8_isOrder 30 = .ok (.tableswitch 265 98 119 #[145, 231, 265, 102, 265, 265, 248, 265, 265, 265, 265, 265, 265, 265, 265, 265, 231, 231, 231, 265, 265, 231], 102) := by decide +kernel
theorem dX8_isOrder_132 : decode cX8_isOrder 132 = .ok (.aload_n 0, 1) := by decide +kernel
theorem dX8_isOrder_133 : decode cX8_isOrder 133 = .ok (.dup, 1) := by decide +kernel
theorem dX8_isOrder_134 : decode cX8_isOrder 134 = .ok (.getfield 176, 3) := by decide +kernel
theorem dX8_isOrder_137 : decode cX8_isOrder 137 = .ok (.iconst 1, 1) := by decide +kernel
theorem dX8_isOrder_138 : decode cX8_isOrder 138 = .ok (.iadd, 1) := by decide +kernel
theorem dX8_isOrder_139 : decode cX8_isOrder 139 = .ok (.putfield 176, 3) := by decide +kernel
theorem dX8_isOrder_142 : decode cX8_isOrder 142 = .ok (.aload_n 0, 1) := by decide +kernel
theorem dX8_isOrder_143 : decode cX8_isOrder 143 = .ok (.iconst 0, 1) := by decide +kernel
theorem dX8_isOrder_144 : decode cX8_isOrder 144 = .ok (.iconst 1, 1) := by decide +kernel
theorem dX8_isOrder_145 : decode cX8_isOrder 145 = .ok (.invokevirtual 191, 3) := by decide +kernel
theorem dX8_isOrder_148 : decode cX8_isOrder 148 = .ok (.ifCond .eq 25, 3) := by decide +kernel
theorem dX8_isOrder_151 : decode cX8_isOrder 151 = .ok (.aload_n 0, 1) := by decide +kernel
theorem dX8_isOrder_152 : decode cX8_isOrder 152 = .ok (.bipush 58, 2) := by decide +kernel
theorem dX8_isOrder_154 : decode cX8_isOrder 154 = .ok (.invokevirtual 179, 3) := by decide +kernel
theorem dX8_isOrder_157 : decode cX8_isOrder 157 = .ok (.ifCond .eq 16, 3) := by decide +kernel
theorem dX8_isOrder_160 : decode cX8_isOrder 160 = .ok (.aload_n 0, 1) := by decide +kernel
theorem dX8_isOrder_161 : decode cX8_isOrder 161 = .ok (.iconst 1, 1) := by decide +kernel
theorem dX8_isOrder_162 : decode cX8_isOrder 162 = .ok (.iconst 2, 1) := by decide +kernel
theorem dX8_isOrder_163 : decode cX8_isOrder 163 = .ok (.invokevirtual 191, 3) := by decide +kernel
theorem dX8_isOrder_166 : decode cX8_isOrder 166 = .ok (.ifCond .eq 7, 3) := by decide +kernel
theorem dX8_isOrder_169 : decode cX8_isOrder 169 = .ok (.iconst 1, 1) := by decide +kernel
theorem dX8_isOrder_170 : decode cX8_isOrder 170 = .ok (.goto 4, 3) := by decide +kernel
theorem dX8_isOrder_173 : decode cX8_isOrder 173 = .ok (.iconst 0, 1) := by decide +kernel
theorem dX8_isOrder_174 : decode cX8_isOrder 174 = .ok (.ireturn, 1) := by decide +kernel
theorem dX8_isOrder_175 : decode cX8_isOrder 175 = .ok (.aload_n 0, 1) := by decide +kernel
theorem dX8_isOrder_176 : decode cX8_isOrder 176 = .ok (.dup, 1) := by decide +kernel
theorem dX8_isOrder_177 : decode cX8_isOrder 177 = .ok (.getfield 176, 3) := by decide +kernel
theorem dX8_isOrder_180 : decode cX8_isOrder 180 = .ok (.iconst 1, 1) := by decide +kernel
theorem dX8_isOrder_181 : decode cX8_isOrder 181 = .ok (.iadd, 1) := by decide +kernel
theorem dX8_isOrder_182 : decode cX8_isOrder 182 = .ok (.putfield 176, 3) := by decide +kernel
theorem dX8_isOrder_185 : decode cX8_isOrder 185 = .ok (.aload_n 0, 1) := by decide +kernel
theorem dX8_isOrder_186 : decode cX8_isOrder 186 = .ok (.iconst 0, 1) := by decide +kernel
theorem dX8_isOrder_187 : decode cX8_isOrder 187 = .ok (.iconst 1, 1) := by decide +kernel
theorem dX8_isOrder_188 : decode cX8_isOrder 188 = .ok (.invokevirtual 191, 3) := by decide +kernel
theorem dX8_isOrder_191 : decode cX8_isOrder 191 = .ok (.ifCond .eq 68, 3) := by decide +kernel
theorem dX8_isOrder_194 : decode cX8_isOrder 194 = .ok (.aload_n 0, 1) := by decide +kernel
theorem dX8_isOrder_195 : decode cX8_isOrder 195 = .ok (.bipush 44, 2) := by decide +kernel
theorem dX8_isOrder_197 : decode cX8_isOrder 197 = .ok (.invokevirtual 179, 3) := by decide +kernel
theorem dX8_isOrder_200 : decode cX8_isOrder 200 = .ok (.ifCond .eq 59, 3) := by decide +kernel
theorem dX8_isOrder_203 : decode cX8_isOrder 203 = .ok (.aload_n 0, 1) := by decide +kernel
theorem dX8_isOrder_204 : decode cX8_isOrder 204 = .ok (.iconst 1, 1) := by decide +kernel
theorem dX8_isOrder_205 : decode cX8_isOrder 205 = .ok (.iconst 2, 1) := by decide +kernel
theorem dX8_isOrder_206 : decode cX8_isOrder 206 = .ok (.invokevirtual 191, 3) := by decide +kernel
theorem dX8_isOrder_209 : decode cX8_isOrder 209 = .ok (.ifCond .eq 50, 3) := by decide +kernel
theorem dX8_isOrder_212 : decode cX8_isOrder 212 = .ok (.aload_n 0, 1) := by decide +kernel
theorem dX8_isOrder_213 : decode cX8_isOrder 213 = .ok (.bipush 64, 2) := by decide +kernel
theorem dX8_isOrder_215 : decode cX8_isOrder 215 = .ok (.invokevirtual 179, 3) := by decide +kernel
theorem dX8_isOrder_218 : decode cX8_isOrder 218 = .ok (.ifCond .eq 41, 3) := by decide +kernel
theorem dX8_isOrder_221 : decode cX8_isOrder 221 = .ok (.aload_n 0, 1) := by decide +kernel
theorem dX8_isOrder_222 : decode cX8_isOrder 222 = .ok (.iconst 2, 1) := by decide +kernel
theorem dX8_isOrder_223 : decode cX8_isOrder 223 = .ok (.iconst 2, 1) := by decide +kernel
theorem dX8_isOrder_224 : decode cX8_isOrder 224 = .ok (.invokevirtual 191, 3) := by decide +kernel
theorem dX8_isOrder_227 : decode cX8_isOrder 227 = .ok (.ifCond .eq 32, 3) := by decide +kernel
theorem dX8_isOrder_230 : decode cX8_isOrder 230 = .ok (.aload_n 0, 1) := by decide +kernel
theorem dX8_isOrder_231 : decode cX8_isOrder 231 = .ok (.bipush 42, 2) := by decide +kernel
theorem dX8_isOrder_233 : decode cX8_isOrder 233 = .ok (.invokevirtual 179, 3) := by decide +kernel
theorem dX8_isOrder_236 : decode cX8_isOrder 236 = .ok (.ifCond .eq 23, 3) := by decide +kernel
theorem dX8_isOrder_239 : decode cX8_isOrder 239 = .ok (.aload_n 0, 1) := by decide +kernel
theorem dX8_isOrder_240 : decode cX8_isOrder 240 = .ok (.iconst 3, 1) := by decide +kernel
theorem dX8_isOrder_241 : decode cX8_isOrder 241 = .ok (.iconst 2, 1) := by decide +kernel
theorem dX8_isOrder_242 : decode cX8_isOrder 242 = .ok (.invokevirtual 191, 3) := by decide +kernel
theorem dX8_isOrder_245 : decode cX8_isOrder 245 = .ok (.ifCond .eq 14, 3) := by decide +kernel
theorem dX8_isOrder_248 : decode cX8_isOrder 248 = .ok (.aload_n 0, 1) := by decide +kernel
theorem dX8_isOrder_249 : decode cX8_isOrder 249 = .ok (.invokevirtual 194, 3) := by decide +kernel
theorem dX8_isOrder_252 : decode cX8_isOrder 252 = .ok (.ifCond .eq 7, 3) := by decide +kernel
theorem dX8_isOrder_255 : decode cX8_isOrder 255 = .ok (.iconst 1, 1) := by decide +kernel
theorem dX8_isOrder_256 : decode cX8_isOrder 256 = .ok (.goto 4, 3) := by decide +kernel
theorem dX8_isOrder_259 : decode cX8_isOrder 259 = .ok (.iconst 0, 1) := by decide +kernel
theorem dX8_isOrder_260 : decode cX8_isOrder 260 = .ok (.ireturn, 1) := by decide +kernel
theorem dX8_isOrder_261 : decode cX8_isOrder 261 = .ok (.aload_n 0, 1) := by decide +kernel
theorem dX8_isOrder_262 : decode cX8_isOrder 262 = .ok (.dup, 1) := by decide +kernel
theorem dX8_isOrder_263 : decode cX8_isOrder 263 = .ok (.getfield 176, 3) := by decide +kernel
theorem dX8_isOrder_266 : decode cX8_isOrder 266 = .ok (.iconst 1, 1) := by decide +kernel
theorem dX8_isOrder_267 : decode cX8_isOrder 267 = .ok (.iadd, 1) := by decide +kernel
theorem dX8_isOrder_268 : decode cX8_isOrder 268 = .ok (.putfield 176, 3) := by decide +kernel
theorem dX8_isOrder_271 : decode cX8_isOrder 271 = .ok (.aload_n 0, 1) := by decide +kernel
theorem dX8_isOrder_272 : decode cX8_isOrder 272 = .ok (.iconst 0, 1) := by decide +kernel
theorem dX8_isOrder_273 : decode cX8_isOrder 273 = .ok (.iconst 1, 1) := by decide +kernel
theorem dX8_isOrder_274 : decode cX8_isOrder 274 = .ok (.invokevirtual 191, 3) := by decide +kernel
theorem dX8_isOrder_277 : decode cX8_isOrder 277 = .ok (.ireturn, 1) := by decide +kernel
theorem dX8_isOrder_278 : decode cX8_isOrder 278 = .ok (.aload_n 0, 1) := by decide +kernel
theorem dX8_isOrder_279 : decode cX8_isOrder 279 = .ok (.dup, 1) := by decide +kernel
theorem dX8_isOrder_280 : decode cX8_isOrder 280 = .ok (.getfield 176, 3) := by decide +kernel
theorem dX8_isOrder_283 : decode cX8_isOrder 283 = .ok (.iconst 1, 1) := by decide +kernel
theorem dX8_isOrder_284 : decode cX8_isOrder 284 = .ok (.iadd, 1) := by decide +kernel
theorem dX8_isOrder_285 : decode cX8_isOrder 285 = .ok (.putfield 176, 3) := by decide +kernel
theorem dX8_isOrder_288 : decode cX8_isOrder 288 = .ok (.aload_n 0, 1) := by decide +kernel
theorem dX8_isOrder_289 : decode cX8_isOrder 289 = .ok (.iconst 0, 1) := by decide +kernel
theorem dX8_isOrder_290 : decode cX8_isOrder 290 = .ok (.iconst 2, 1) := by decide +kernel
theorem dX8_isOrder_291 : decode cX8_isOrder 291 = .ok (.invokevirtual 191, 3) := by decide +kernel
theorem dX8_isOrder_294 : decode cX8_isOrder 294 = .ok (.ireturn, 1) := by decide +kernel
theorem dX8_isOrder_295 : decode cX8_isOrder 295 = .ok (.iconst 0, 1) := by decide +kernel
theorem dX8_isOrder_296 : decode cX8_isOrder 296 = .ok (.ireturn, 1) := by decide +kernel
theorem dX8_carries_0 : decode cX8_carries 0 = .ok (.aload_n 0, 1) := by decide +kernel
theorem dX8_carries_1 : decode cX8_carries 1 = .ok (.getfield 187, 3) := by decide +kernel
theorem dX8_carries_4 : decode cX8_carries 4 = .ok (.tableswitch 211 98 119 #[121, 154, 211, 104, 211, 211, 211, 211, 211, 211, 211, 211, 211, 211, 211, 211, 176, 188, 200, 211, 211, 165], 104) := by decide +kernel
theorem dX8_carries_108 : decode cX8_carries 108 = .ok (.aload_n 0, 1) := by decide +kernel
theorem dX8_carries_109 : decode cX8_carries 109 = .ok (.aload_n 0, 1) := by decide +kernel
theorem dX8_carries_110 : decode cX8_carries 110 = .ok (.getfield 29, 3) := by decide +kernel
theorem dX8_carries_113 : decode cX8_carries 113 = .ok (.iconst 0, 1) := by decide +kernel
theorem dX8_carries_114 : decode cX8_carries 114 = .ok (.iaload, 1) := by decide +kernel
theorem dX8_carries_115 : decode cX8_carries 115 = .ok (.aload_n 0, 1) := by decide +kernel
theorem dX8_carries_116 : decode cX8_carries 116 = .ok (.getfield 29, 3) := by decide +kernel
theorem dX8_carries_119 : decode cX8_carries 119 = .ok (.iconst 1, 1) := by decide +kernel
theorem dX8_carries_120 : decode cX8_carries 120 = .ok (.iaload, 1) := by decide +kernel
theorem dX8_carries_121 : decode cX8_carries 121 = .ok (.invokevirtual 103, 3) := by decide +kernel
theorem dX8_carries_124 : decode cX8_carries 124 = .ok (.ireturn, 1) := by decide +kernel
theorem dX8_carries_125 : decode cX8_carries 125 = .ok (.aload_n 0, 1) := by decide +kernel
theorem dX8_carries_126 : decode cX8_carries 126 = .ok (.aload_n 0, 1) := by decide +kernel
theorem dX8_carries_127 : decode cX8_carries 127 = .ok (.getfield 29, 3) := by decide +kernel
theorem dX8_carries_130 : decode cX8_carries 130 = .ok (.iconst 0, 1) := by decide +kernel
theorem dX8_carries_131 : decode cX8_carries 131 = .ok (.iaload, 1) := by decide +kernel
theorem dX8_carries_132 : decode cX8_carries 132 = .ok (.aload_n 0, 1) := by decide +kernel
theorem dX8_carries_133 : decode cX8_carries 133 = .ok (.getfield 29, 3) := by decide +kernel
theorem dX8_carries_136 : decode cX8_carries 136 = .ok (.iconst 1, 1) := by decide +kernel
theorem dX8_carries_137 : decode cX8_carries 137 = .ok (.iaload, 1) := by decide +kernel
theorem dX8_carries_138 : decode cX8_carries 138 = .ok (.aload_n 0, 1) := by decide +kernel
theorem dX8_carries_139 : decode cX8_carries 139 = .ok (.getfield 29, 3) := by decide +kernel
theorem dX8_carries_142 : decode cX8_carries 142 = .ok (.iconst 2, 1) := by decide +kernel
theorem dX8_carries_143 : decode cX8_carries 143 = .ok (.iaload, 1) := by decide +kernel
theorem dX8_carries_144 : decode cX8_carries 144 = .ok (.aload_n 0, 1) := by decide +kernel
theorem dX8_carries_145 : decode cX8_carries 145 = .ok (.getfield 29, 3) := by decide +kernel
theorem dX8_carries_148 : decode cX8_carries 148 = .ok (.iconst 3, 1) := by decide +kernel
theorem dX8_carries_149 : decode cX8_carries 149 = .ok (.iaload, 1) := by decide +kernel
theorem dX8_carries_150 : decode cX8_carries 150 = .ok (.aload_n 0, 1) := by decide +kernel
theorem dX8_carries_151 : decode cX8_carries 151 = .ok (.getfield 183, 3) := by decide +kernel
theorem dX8_carries_154 : decode cX8_carries 154 = .ok (.invokevirtual 138, 3) := by decide +kernel
theorem dX8_carries_157 : decode cX8_carries 157 = .ok (.ireturn, 1) := by decide +kernel
theorem dX8_carries_158 : decode cX8_carries 158 = .ok (.aload_n 0, 1) := by decide +kernel
theorem dX8_carries_159 : decode cX8_carries 159 = .ok (.aload_n 0, 1) := by decide +kernel
theorem dX8_carries_160 : decode cX8_carries 160 = .ok (.getfield 29, 3) := by decide +kernel
theorem dX8_carries_163 : decode cX8_carries 163 = .ok (.iconst 0, 1) := by decide +kernel
theorem dX8_carries_164 : decode cX8_carries 164 = .ok (.iaload, 1) := by decide +kernel
theorem dX8_carries_165 : decode cX8_carries 165 = .ok (.invokevirtual 154, 3) := by decide +kernel
theorem dX8_carries_168 : decode cX8_carries 168 = .ok (.ireturn, 1) := by decide +kernel
theorem dX8_carries_169 : decode cX8_carries 169 = .ok (.aload_n 0, 1) := by decide +kernel
theorem dX8_carries_170 : decode cX8_carries 170 = .ok (.aload_n 0, 1) := by decide +kernel
theorem dX8_carries_171 : decode cX8_carries 171 = .ok (.getfield 29, 3) := by decide +kernel
theorem dX8_carries_174 : decode cX8_carries 174 = .ok (.iconst 0, 1) := by decide +kernel
theorem dX8_carries_175 : decode cX8_carries 175 = .ok (.iaload, 1) := by decide +kernel
theorem dX8_carries_176 : decode cX8_carries 176 = .ok (.invokevirtual 157, 3) := by decide +kernel
theorem dX8_carries_179 : decode cX8_carries 179 = .ok (.ireturn, 1) := by decide +kernel
theorem dX8_carries_180 : decode cX8_carries 180 = .ok (.aload_n 0, 1) := by decide +kernel
theorem dX8_carries_181 : decode cX8_carries 181 = .ok (.iconst 1, 1) := by decide +kernel
theorem dX8_carries_182 : decode cX8_carries 182 = .ok (.aload_n 0, 1) := by decide +kernel
theorem dX8_carries_183 : decode cX8_carries 183 = .ok (.getfield 29, 3) := by decide +kernel
theorem dX8_carries_186 : decode cX8_carries 186 = .ok (.iconst 0, 1) := by decide +kernel
theorem dX8_carries_187 : decode cX8_carries 187 = .ok (.iaload, 1) := by decide +kernel
theorem dX8_carries_188 : decode cX8_carries 188 = .ok (.invokevirtual 160, 3) := by decide +kernel
theorem dX8_carries_191 : decode cX8_carries 191 = .ok (.ireturn, 1) := by decide +kernel
theorem dX8_carries_192 : decode cX8_carries 192 = .ok (.aload_n 0, 1) := by decide +kernel
theorem dX8_carries_193 : decode cX8_carries 193 = .ok (.iconst 2, 1) := by decide +kernel
theorem dX8_carries_194 : decode cX8_carries 194 = .ok (.aload_n 0, 1) := by decide +kernel
theorem dX8_carries_195 : decode cX8_carries 195 = .ok (.getfield 29, 3) := by decide +kernel
theorem dX8_carries_198 : decode cX8_carries 198 = .ok (.iconst 0, 1) := by decide +kernel
theorem dX8_carries_199 : decode cX8_carries 199 = .ok (.iaload, 1) := by decide +kernel
theorem dX8_carries_200 : decode cX8_carries 200 = .ok (.invokevirtual 160, 3) := by decide +kernel
theorem dX8_carries_203 : decode cX8_carries 203 = .ok (.ireturn, 1) := by decide +kernel
theorem dX8_carries_204 : decode cX8_carries 204 = .ok (.aload_n 0, 1) := by decide +kernel
theorem dX8_carries_205 : decode cX8_carries 205 = .ok (.aload_n 0, 1) := by decide +kernel
theorem dX8_carries_206 : decode cX8_carries 206 = .ok (.getfield 29, 3) := by decide +kernel
theorem dX8_carries_209 : decode cX8_carries 209 = .ok (.iconst 0, 1) := by decide +kernel
theorem dX8_carries_210 : decode cX8_carries 210 = .ok (.iaload, 1) := by decide +kernel
theorem dX8_carries_211 : decode cX8_carries 211 = .ok (.invokevirtual 163, 3) := by decide +kernel
theorem dX8_carries_214 : decode cX8_carries 214 = .ok (.ireturn, 1) := by decide +kernel
theorem dX8_carries_215 : decode cX8_carries 215 = .ok (.aload_n 0, 1) := by decide +kernel
theorem dX8_carries_216 : decode cX8_carries 216 = .ok (.aload_n 0, 1) := by decide +kernel
theorem dX8_carries_217 : decode cX8_carries 217 = .ok (.getfield 29, 3) := by decide +kernel
theorem dX8_carries_220 : decode cX8_carries 220 = .ok (.iconst 0, 1) := by decide +kernel
theorem dX8_carries_221 : decode cX8_carries 221 = .ok (.iaload, 1) := by decide +kernel
theorem dX8_carries_222 : decode cX8_carries 222 = .ok (.invokevirtual 173, 3) := by decide +kernel
theorem dX8_carries_225 : decode cX8_carries 225 = .ok (.ireturn, 1) := by decide +kernel
theorem dX8_script_0 : decode cX8_script 0 = .ok (.aload_n 0, 1) := by decide +kernel
theorem dX8_script_1 : decode cX8_script 1 = .ok (.invokevirtual 62, 3) := by decide +kernel
theorem dX8_script_4 : decode cX8_script 4 = .ok (.aload_n 0, 1) := by decide +kernel
theorem dX8_script_5 : decode cX8_script 5 = .ok (.iconst 0, 1) := by decide +kernel
theorem dX8_script_6 : decode cX8_script 6 = .ok (.putfield 176, 3) := by decide +kernel
theorem dX8_script_9 : decode cX8_script 9 = .ok (.aload_n 0, 1) := by decide +kernel
theorem dX8_script_10 : decode cX8_script 10 = .ok (.invokevirtual 198, 3) := by decide +kernel
theorem dX8_script_13 : decode cX8_script 13 = .ok (.istore_n 1, 1) := by decide +kernel
theorem dX8_script_14 : decode cX8_script 14 = .ok (.iload_n 1, 1) := by decide +kernel
theorem dX8_script_15 : decode cX8_script 15 = .ok (.ifCond .eq 39, 3) := by decide +kernel
theorem dX8_script_18 : decode cX8_script 18 = .ok (.aload_n 0, 1) := by decide +kernel
theorem dX8_script_19 : decode cX8_script 19 = .ok (.getfield 176, 3) := by decide +kernel
theorem dX8_script_22 : decode cX8_script 22 = .ok (.aload_n 0, 1) := by decide +kernel
theorem dX8_script_23 : decode cX8_script 23 = .ok (.getfield 59, 3) := by decide +kernel
theorem dX8_script_26 : decode cX8_script 26 = .ok (.if_icmp .ge 28, 3) := by decide +kernel
theorem dX8_script_29 : decode cX8_script 29 = .ok (.aload_n 0, 1) := by decide +kernel
theorem dX8_script_30 : decode cX8_script 30 = .ok (.bipush 59, 2) := by decide +kernel
theorem dX8_script_32 : decode cX8_script 32 = .ok (.invokevirtual 179, 3) := by decide +kernel
theorem dX8_script_35 : decode cX8_script 35 = .ok (.ifCond .eq 14, 3) := by decide +kernel
theorem dX8_script_38 : decode cX8_script 38 = .ok (.aload_n 0, 1) := by decide +kernel
theorem dX8_script_39 : decode cX8_script 39 = .ok (.invokevirtual 198, 3) := by decide +kernel
theorem dX8_script_42 : decode cX8_script 42 = .ok (.ifCond .eq 7, 3) := by decide +kernel
theorem dX8_script_45 : decode cX8_script 45 = .ok (.iconst 1, 1) := by decide +kernel
theorem dX8_script_46 : decode cX8_script 46 = .ok (.goto 4, 3) := by decide +kernel
theorem dX8_script_49 : decode cX8_script 49 = .ok (.iconst 0, 1) := by decide +kernel
theorem dX8_script_50 : decode cX8_script 50 = .ok (.istore_n 1, 1) := by decide +kernel
theorem dX8_script_51 : decode cX8_script 51 = .ok (.goto (-37), 3) := by decide +kernel
theorem dX8_script_54 : decode cX8_script 54 = .ok (.iload_n 1, 1) := by decide +kernel
theorem dX8_script_55 : decode cX8_script 55 = .ok (.ifCond .ne 19, 3) := by decide +kernel
theorem dX8_script_58 : decode cX8_script 58 = .ok (.aload_n 0, 1) := by decide +kernel
theorem dX8_script_59 : decode cX8_script 59 = .ok (.iconst 0, 1) := by decide +kernel
theorem dX8_script_60 : decode cX8_script 60 = .ok (.putfield 59, 3) := by decide +kernel
theorem dX8_script_63 : decode cX8_script 63 = .ok (.aload_n 0, 1) := by decide +kernel
theorem dX8_script_64 : decode cX8_script 64 = .ok (.aload_n 0, 1) := by decide +kernel
theorem dX8_script_65 : decode cX8_script 65 = .ok (.getfield 176, 3) := by decide +kernel
theorem dX8_script_68 : decode cX8_script 68 = .ok (.putfield 32, 3) := by decide +kernel
theorem dX8_script_71 : decode cX8_script 71 = .ok (.bipush (-2), 2) := by decide +kernel
theorem dX8_script_73 : decode cX8_script 73 = .ok (.ireturn, 1) := by decide +kernel
theorem dX8_script_74 : decode cX8_script 74 = .ok (.aload_n 0, 1) := by decide +kernel
theorem dX8_script_75 : decode cX8_script 75 = .ok (.iconst 0, 1) := by decide +kernel
theorem dX8_script_76 : decode cX8_script 76 = .ok (.putfield 176, 3) := by decide +kernel
theorem dX8_script_79 : decode cX8_script 79 = .ok (.iconst 0, 1) := by decide +kernel
theorem dX8_script_80 : decode cX8_script 80 = .ok (.istore_n 2, 1) := by decide +kernel
theorem dX8_script_81 : decode cX8_script 81 = .ok (.iconst 0, 1) := by decide +kernel
theorem dX8_script_82 : decode cX8_script 82 = .ok (.istore_n 3, 1) := by decide +kernel
theorem dX8_script_83 : decode cX8_script 83 = .ok (.iconst 1, 1) := by decide +kernel
theorem dX8_script_84 : decode cX8_script 84 = .ok (.istore 4, 2) := by decide +kernel
theorem dX8_script_86 : decode cX8_script 86 = .ok (.iload 4, 2) := by decide +kernel
theorem dX8_script_88 : decode cX8_script 88 = .ok (.ifCond .eq 43, 3) := by decide +kernel
theorem dX8_script_91 : decode cX8_script 91 = .ok (.aload_n 0, 1) := by decide +kernel
theorem dX8_script_92 : decode cX8_script 92 = .ok (.invokevirtual 198, 3) := by decide +kernel
theorem dX8_script_95 : decode cX8_script 95 = .ok (.istore_n 1, 1) := by decide +kernel
theorem dX8_script_96 : decode cX8_script 96 = .ok (.aload_n 0, 1) := by decide +kernel
theorem dX8_script_97 : decode cX8_script 97 = .ok (.invokevirtual 201, 3) := by decide +kernel
theorem dX8_script_100 : decode cX8_script 100 = .ok (.istore_n 3, 1) := by decide +kernel
theorem dX8_script_101 : decode cX8_script 101 = .ok (.iload_n 3, 1) := by decide +kernel
theorem dX8_script_102 : decode cX8_script 102 = .ok (.ifCond .ne 6, 3) := by decide +kernel
theorem dX8_script_105 : decode cX8_script 105 = .ok (.iinc 2 1, 3) := by decide +kernel
theorem dX8_script_108 : decode cX8_script 108 = .ok (.iload_n 3, 1) := by decide +kernel
theorem dX8_script_109 : decode cX8_script 109 = .ok (.ifCond .ne 16, 3) := by decide +kernel
theorem dX8_script_112 : decode cX8_script 112 = .ok (.aload_n 0, 1) := by decide +kernel
theorem dX8_script_113 : decode cX8_script 113 = .ok (.bipush 59, 2) := by decide +kernel
theorem dX8_script_115 : decode cX8_script 115 = .ok (.invokevirtual 179, 3) := by decide +kernel
theorem dX8_script_118 : decode cX8_script 118 = .ok (.ifCond .eq 7, 3) := by decide +kernel
theorem dX8_script_121 : decode cX8_script 121 = .ok (.iconst 1, 1) := by decide +kernel
theorem dX8_script_122 : decode cX8_script 122 = .ok (.goto 4, 3) := by decide +kernel
theorem dX8_script_125 : decode cX8_script 125 = .ok (.iconst 0, 1) := by decide +kernel
theorem dX8_script_126 : decode cX8_script 126 = .ok (.istore 4, 2) := by decide +kernel
theorem dX8_script_128 : decode cX8_script 128 = .ok (.goto (-42), 3) := by decide +kernel
theorem dX8_script_131 : decode cX8_script 131 = .ok (.aload_n 0, 1) := by decide +kernel
theorem dX8_script_132 : decode cX8_script 132 = .ok (.iconst 0, 1) := by decide +kernel
theorem dX8_script_133 : decode cX8_script 133 = .ok (.putfield 59, 3) := by decide +kernel
theorem dX8_script_136 : decode cX8_script 136 = .ok (.iload_n 3, 1) := by decide +kernel
theorem dX8_script_137 : decode cX8_script 137 = .ok (.ifCond .ne 9, 3) := by decide +kernel
theorem dX8_script_140 : decode cX8_script 140 = .ok (.aload_n 0, 1) := by decide +kernel
theorem dX8_script_141 : decode cX8_script 141 = .ok (.iload_n 2, 1) := by decide +kernel
theorem dX8_script_142 : decode cX8_script 142 = .ok (.invokevirtual 51, 3) := by decide +kernel
theorem dX8_script_145 : decode cX8_script 145 = .ok (.ireturn, 1) := by decide +kernel
theorem dX8_script_146 : decode cX8_script 146 = .ok (.aload_n 0, 1) := by decide +kernel
theorem dX8_script_147 : decode cX8_script 147 = .ok (.invokevirtual 204, 3) := by decide +kernel
theorem dX8_script_150 : decode cX8_script 150 = .ok (.iload_n 3, 1) := by decide +kernel
theorem dX8_script_151 : decode cX8_script 151 = .ok (.bipush (-3), 2) := by decide +kernel
theorem dX8_script_153 : decode cX8_script 153 = .ok (.if_icmp .ne 13, 3) := by decide +kernel
theorem dX8_script_156 : decode cX8_script 156 = .ok (.aload_n 0, 1) := by decide +kernel
theorem dX8_script_157 : decode cX8_script 157 = .ok (.bipush 12, 2) := by decide +kernel
theorem dX8_script_159 : decode cX8_script 159 = .ok (.iload_n 2, 1) := by decide +kernel
theorem dX8_script_160 : decode cX8_script 160 = .ok (.invokevirtual 97, 3) := by decide +kernel
theorem dX8_script_163 : decode cX8_script 163 = .ok (.goto 10, 3) := by decide +kernel
theorem dX8_script_166 : decode cX8_script 166 = .ok (.aload_n 0, 1) := by decide +kernel
theorem dX8_script_167 : decode cX8_script 167 = .ok (.bipush 12, 2) := by decide +kernel
theorem dX8_script_169 : decode cX8_script 169 = .ok (.iload_n 2, 1) := by decide +kernel
theorem dX8_script_170 : decode cX8_script 170 = .ok (.invokevirtual 65, 3) := by decide +kernel
theorem dX8_script_173 : decode cX8_script 173 = .ok (.ireturn, 1) := by decide +kernel
theorem dX8_fault_0 : decode cX8_fault 0 = .ok (.aload_n 0, 1) := by decide +kernel
theorem dX8_fault_1 : decode cX8_fault 1 = .ok (.getfield 32, 3) := by decide +kernel
theorem dX8_fault_4 : decode cX8_fault 4 = .ok (.ireturn, 1) := by decide +kernel
theorem dX8_reason_0 : decode cX8_reason 0 = .ok (.iload_n 1, 1) := by decide +kernel
theorem dX8_reason_1 : decode cX8_reason 1 = .ok (.ifCond .ge 6, 3) := by decide +kernel
theorem dX8_reason_4 : decode cX8_reason 4 = .ok (.bipush (-2), 2) := by decide +kernel
theorem dX8_reason_6 : decode cX8_reason 6 = .ok (.ireturn, 1) := by decide +kernel
theorem dX8_reason_7 : decode cX8_reason 7 = .ok (.iload_n 1, 1) := by decide +kernel
theorem dX8_reason_8 : decode cX8_reason 8 = .ok (.aload_n 0, 1) := by decide +kernel
theorem dX8_reason_9 : decode cX8_reason 9 = .ok (.getfield 45, 3) := by decide +kernel
theorem dX8_reason_12 : decode cX8_reason 12 = .ok (.if_icmp .ge 24, 3) := by decide +kernel
theorem dX8_reason_15 : decode cX8_reason 15 = .ok (.aload_n 0, 1) := by decide +kernel
theorem dX8_reason_16 : decode cX8_reason 16 = .ok (.getfield 36, 3) := by decide +kernel
theorem dX8_reason_19 : decode cX8_reason 19 = .ok (.iconst 2, 1) := by decide +kernel
theorem dX8_reason_20 : decode cX8_reason 20 = .ok (.iload_n 1, 1) := by decide +kernel
theorem dX8_reason_21 : decode cX8_reason 21 = .ok (.imul, 1) := by decide +kernel
theorem dX8_reason_22 : decode cX8_reason 22 = .ok (.iload_n 2, 1) := by decide +kernel
theorem dX8_reason_23 : decode cX8_reason 23 = .ok (.ifCond .eq 7, 3) := by decide +kernel
theorem dX8_reason_26 : decode cX8_reason 26 = .ok (.iconst 1, 1) := by decide +kernel
theorem dX8_reason_27 : decode cX8_reason 27 = .ok (.goto 4, 3) := by decide +kernel
theorem dX8_reason_30 : decode cX8_reason 30 = .ok (.iconst 0, 1) := by decide +kernel
theorem dX8_reason_31 : decode cX8_reason 31 = .ok (.iadd, 1) := by decide +kernel
theorem dX8_reason_32 : decode cX8_reason 32 = .ok (.iaload, 1) := by decide +kernel
theorem dX8_reason_33 : decode cX8_reason 33 = .ok (.goto 5, 3) := by decide +kernel
theorem dX8_reason_36 : decode cX8_reason 36 = .ok (.bipush (-4), 2) := by decide +kernel
theorem dX8_reason_38 : decode cX8_reason 38 = .ok (.ireturn, 1) := by decide +kernel
theorem dX8_countOn_0 : decode cX8_countOn 0 = .ok (.iconst 0, 1) := by decide +kernel
theorem dX8_countOn_1 : decode cX8_countOn 1 = .ok (.istore_n 3, 1) := by decide +kernel
theorem dX8_countOn_2 : decode cX8_countOn 2 = .ok (.iconst 0, 1) := by decide +kernel
theorem dX8_countOn_3 : decode cX8_countOn 3 = .ok (.istore 4, 2) := by decide +kernel
theorem dX8_countOn_5 : decode cX8_countOn 5 = .ok (.iload 4, 2) := by decide +kernel
theorem dX8_countOn_7 : decode cX8_countOn 7 = .ok (.aload_n 0, 1) := by decide +kernel
theorem dX8_countOn_8 : decode cX8_countOn 8 = .ok (.getfield 9, 3) := by decide +kernel
theorem dX8_countOn_11 : decode cX8_countOn 11 = .ok (.iconst 4, 1) := by decide +kernel
theorem dX8_countOn_12 : decode cX8_countOn 12 = .ok (.iaload, 1) := by decide +kernel
theorem dX8_countOn_13 : decode cX8_countOn 13 = .ok (.if_icmp .ge 34, 3) := by decide +kernel
theorem dX8_countOn_16 : decode cX8_countOn 16 = .ok (.aload_n 0, 1) := by decide +kernel
theorem dX8_countOn_17 : decode cX8_countOn 17 = .ok (.iload 4, 2) := by decide +kernel
theorem dX8_countOn_19 : decode cX8_countOn 19 = .ok (.iconst 2, 1) := by decide +kernel
theorem dX8_countOn_20 : decode cX8_countOn 20 = .ok (.invokevirtual 109, 3) := by decide +kernel
theorem dX8_countOn_23 : decode cX8_countOn 23 = .ok (.iload_n 2, 1) := by decide +kernel
theorem dX8_countOn_24 : decode cX8_countOn 24 = .ok (.if_icmp .ne 17, 3) := by decide +kernel
theorem dX8_countOn_27 : decode cX8_countOn 27 = .ok (.aload_n 0, 1) := by decide +kernel
theorem dX8_countOn_28 : decode cX8_countOn 28 = .ok (.iload 4, 2) := by decide +kernel
theorem dX8_countOn_30 : decode cX8_countOn 30 = .ok (.iconst 3, 1) := by decide +kernel
theorem dX8_countOn_31 : decode cX8_countOn 31 = .ok (.invokevirtual 109, 3) := by decide +kernel
theorem dX8_countOn_34 : decode cX8_countOn 34 = .ok (.iload_n 1, 1) := by decide +kernel
theorem dX8_countOn_35 : decode cX8_countOn 35 = .ok (.if_icmp .ne 6, 3) := by decide +kernel
theorem dX8_countOn_38 : decode cX8_countOn 38 = .ok (.iinc 3 1, 3) := by decide +kernel
theorem dX8_countOn_41 : decode cX8_countOn 41 = .ok (.iinc 4 1, 3) := by decide +kernel
theorem dX8_countOn_44 : decode cX8_countOn 44 = .ok (.goto (-39), 3) := by decide +kernel
theorem dX8_countOn_47 : decode cX8_countOn 47 = .ok (.iload_n 3, 1) := by decide +kernel
theorem dX8_countOn_48 : decode cX8_countOn 48 = .ok (.ireturn, 1) := by decide +kernel
theorem dX8_rinkOf_0 : decode cX8_rinkOf 0 = .ok (.aload_n 0, 1) := by decide +kernel
theorem dX8_rinkOf_1 : decode cX8_rinkOf 1 = .ok (.iload_n 1, 1) := by decide +kernel
theorem dX8_rinkOf_2 : decode cX8_rinkOf 2 = .ok (.invokevirtual 90, 3) := by decide +kernel
theorem dX8_rinkOf_5 : decode cX8_rinkOf 5 = .ok (.ifCond .ne 5, 3) := by decide +kernel
theorem dX8_rinkOf_8 : decode cX8_rinkOf 8 = .ok (.iconst (-1), 1) := by decide +kernel
theorem dX8_rinkOf_9 : decode cX8_rinkOf 9 = .ok (.ireturn, 1) := by decide +kernel
theorem dX8_rinkOf_10 : decode cX8_rinkOf 10 = .ok (.iload_n 2, 1) := by decide +kernel
theorem dX8_rinkOf_11 : decode cX8_rinkOf 11 = .ok (.tableswitch 78 0 8 #[49, 49, 49, 49, 49, 49, 56, 63, 70], 49) := by decide +kernel
theorem dX8_rinkOf_60 : decode cX8_rinkOf 60 = .ok (.aload_n 0, 1) := by decide +kernel
theorem dX8_rinkOf_61 : decode cX8_rinkOf 61 = .ok (.iload_n 1, 1) := by decide +kernel
theorem dX8_rinkOf_62 : decode cX8_rinkOf 62 = .ok (.iload_n 2, 1) := by decide +kernel
theorem dX8_rinkOf_63 : decode cX8_rinkOf 63 = .ok (.invokevirtual 69, 3) := by decide +kernel
theorem dX8_rinkOf_66 : decode cX8_rinkOf 66 = .ok (.ireturn, 1) := by decide +kernel
theorem dX8_rinkOf_67 : decode cX8_rinkOf 67 = .ok (.aload_n 0, 1) := by decide +kernel
theorem dX8_rinkOf_68 : decode cX8_rinkOf 68 = .ok (.iload_n 1, 1) := by decide +kernel
theorem dX8_rinkOf_69 : decode cX8_rinkOf 69 = .ok (.iconst 1, 1) := by decide +kernel
theorem dX8_rinkOf_70 : decode cX8_rinkOf 70 = .ok (.invokevirtual 207, 3) := by decide +kernel
theorem dX8_rinkOf_73 : decode cX8_rinkOf 73 = .ok (.ireturn, 1) := by decide +kernel
theorem dX8_rinkOf_74 : decode cX8_rinkOf 74 = .ok (.aload_n 0, 1) := by decide +kernel
theorem dX8_rinkOf_75 : decode cX8_rinkOf 75 = .ok (.iload_n 1, 1) := by decide +kernel
theorem dX8_rinkOf_76 : decode cX8_rinkOf 76 = .ok (.iconst 2, 1) := by decide +kernel
theorem dX8_rinkOf_77 : decode cX8_rinkOf 77 = .ok (.invokevirtual 207, 3) := by decide +kernel
theorem dX8_rinkOf_80 : decode cX8_rinkOf 80 = .ok (.ireturn, 1) := by decide +kernel
theorem dX8_rinkOf_81 : decode cX8_rinkOf 81 = .ok (.aload_n 0, 1) := by decide +kernel
theorem dX8_rinkOf_82 : decode cX8_rinkOf 82 = .ok (.iload_n 1, 1) := by decide +kernel
theorem dX8_rinkOf_83 : decode cX8_rinkOf 83 = .ok (.bipush 9, 2) := by decide +kernel
theorem dX8_rinkOf_85 : decode cX8_rinkOf 85 = .ok (.invokevirtual 69, 3) := by decide +kernel
theorem dX8_rinkOf_88 : decode cX8_rinkOf 88 = .ok (.ireturn, 1) := by decide +kernel
theorem dX8_rinkOf_89 : decode cX8_rinkOf 89 = .ok (.bipush (-2), 2) := by decide +kernel
theorem dX8_rinkOf_91 : decode cX8_rinkOf 91 = .ok (.ireturn, 1) := by decide +kernel
theorem dX8_woodOf_0 : decode cX8_woodOf 0 = .ok (.aload_n 0, 1) := by decide +kernel
theorem dX8_woodOf_1 : decode cX8_woodOf 1 = .ok (.iload_n 1, 1) := by decide +kernel
theorem dX8_woodOf_2 : decode cX8_woodOf 2 = .ok (.invokevirtual 120, 3) := by decide +kernel
theorem dX8_woodOf_5 : decode cX8_woodOf 5 = .ok (.ifCond .ne 5, 3) := by decide +kernel
theorem dX8_woodOf_8 : decode cX8_woodOf 8 = .ok (.iconst (-1), 1) := by decide +kernel
theorem dX8_woodOf_9 : decode cX8_woodOf 9 = .ok (.ireturn, 1) := by decide +kernel
theorem dX8_woodOf_10 : decode cX8_woodOf 10 = .ok (.aload_n 0, 1) := by decide +kernel
theorem dX8_woodOf_11 : decode cX8_woodOf 11 = .ok (.iload_n 1, 1) := by decide +kernel
theorem dX8_woodOf_12 : decode cX8_woodOf 12 = .ok (.iconst 2, 1) := by decide +kernel
theorem dX8_woodOf_13 : decode cX8_woodOf 13 = .ok (.invokevirtual 109, 3) := by decide +kernel
theorem dX8_woodOf_16 : decode cX8_woodOf 16 = .ok (.istore_n 3, 1) := by decide +kernel
theorem dX8_woodOf_17 : decode cX8_woodOf 17 = .ok (.iload_n 2, 1) := by decide +kernel
theorem dX8_woodOf_18 : decode cX8_woodOf 18 = .ok (.tableswitch 127 0 7 #[46, 46, 46, 53, 69, 86, 103, 119], 46) := by decide +kernel
theorem dX8_woodOf_64 : decode cX8_woodOf 64 = .ok (.aload_n 0, 1) := by decide +kernel
theorem dX8_woodOf_65 : decode cX8_woodOf 65 = .ok (.iload_n 1, 1) := by decide +kernel
theorem dX8_woodOf_66 : decode cX8_woodOf 66 = .ok (.iload_n 2, 1) := by decide +kernel
theorem dX8_woodOf_67 : decode cX8_woodOf 67 = .ok (.invokevirtual 109, 3) := by decide +kernel
theorem dX8_woodOf_70 : decode cX8_woodOf 70 = .ok (.ireturn, 1) := by decide +kernel
theorem dX8_woodOf_71 : decode cX8_woodOf 71 = .ok (.iload_n 3, 1) := by decide +kernel
theorem dX8_woodOf_72 : decode cX8_woodOf 72 = .ok (.ifCond .ne 8, 3) := by decide +kernel
theorem dX8_woodOf_75 : decode cX8_woodOf 75 = .ok (.bipush (-4), 2) := by decide +kernel
theorem dX8_woodOf_77 : decode cX8_woodOf 77 = .ok (.goto 9, 3) := by decide +kernel
theorem dX8_woodOf_80 : decode cX8_woodOf 80 = .ok (.aload_n 0, 1) := by decide +kernel
theorem dX8_woodOf_81 : decode cX8_woodOf 81 = .ok (.iload_n 1, 1) := by decide +kernel
theorem dX8_woodOf_82 : decode cX8_woodOf 82 = .ok (.iconst 3, 1) := by decide +kernel
theorem dX8_woodOf_83 : decode cX8_woodOf 83 = .ok (.invokevirtual 109, 3) := by decide +kernel
theorem dX8_woodOf_86 : decode cX8_woodOf 86 = .ok (.ireturn, 1) := by decide +kernel
theorem dX8_woodOf_87 : decode cX8_woodOf 87 = .ok (.iload_n 3, 1) := by decide +kernel
theorem dX8_woodOf_88 : decode cX8_woodOf 88 = .ok (.iconst 1, 1) := by decide +kernel
theorem dX8_woodOf_89 : decode cX8_woodOf 89 = .ok (.if_icmp .ne 12, 3) := by decide +kernel
theorem dX8_woodOf_92 : decode cX8_woodOf 92 = .ok (.aload_n 0, 1) := by decide +kernel
theorem dX8_woodOf_93 : decode cX8_woodOf 93 = .ok (.iload_n 1, 1) := by decide +kernel
theorem dX8_woodOf_94 : decode cX8_woodOf 94 = .ok (.iconst 4, 1) := by decide +kernel
theorem dX8_woodOf_95 : decode cX8_woodOf 95 = .ok (.invokevirtual 109, 3) := by decide +kernel
theorem dX8_woodOf_98 : decode cX8_woodOf 98 = .ok (.goto 5, 3) := by decide +kernel
theorem dX8_woodOf_101 : decode cX8_woodOf 101 = .ok (.bipush (-4), 2) := by decide +kernel
theorem dX8_woodOf_103 : decode cX8_woodOf 103 = .ok (.ireturn, 1) := by decide +kernel
theorem dX8_woodOf_104 : decode cX8_woodOf 104 = .ok (.iload_n 3, 1) := by decide +kernel
theorem dX8_woodOf_105 : decode cX8_woodOf 105 = .ok (.iconst 1, 1) := by decide +kernel
theorem dX8_woodOf_106 : decode cX8_woodOf 106 = .ok (.if_icmp .ne 12, 3) := by decide +kernel
theorem dX8_woodOf_109 : decode cX8_woodOf 109 = .ok (.aload_n 0, 1) := by decide +kernel
theorem dX8_woodOf_110 : decode cX8_woodOf 110 = .ok (.iload_n 1, 1) := by decide +kernel
theorem dX8_woodOf_111 : decode cX8_woodOf 111 = .ok (.iconst 5, 1) := by decide +kernel
theorem dX8_woodOf_112 : decode cX8_woodOf 112 = .ok (.invokevirtual 109, 3) := by decide +kernel
theorem dX8_woodOf_115 : decode cX8_woodOf 115 = .ok (.goto 5, 3) := by decide +kernel
theorem dX8_woodOf_118 : decode cX8_woodOf 118 = .ok (.bipush (-4), 2) := by decide +kernel
theorem dX8_woodOf_120 : decode cX8_woodOf 120 = .ok (.ireturn, 1) := by decide +kernel
theorem dX8_woodOf_121 : decode cX8_woodOf 121 = .ok (.iload_n 3, 1) := by decide +kernel
theorem dX8_woodOf_122 : decode cX8_woodOf 122 = .ok (.iconst 1, 1) := by decide +kernel
theorem dX8_woodOf_123 : decode cX8_woodOf 123 = .ok (.if_icmp .ne 11, 3) := by decide +kernel
theorem dX8_woodOf_126 : decode cX8_woodOf 126 = .ok (.aload_n 0, 1) := by decide +kernel
theorem dX8_woodOf_127 : decode cX8_woodOf 127 = .ok (.iload_n 1, 1) := by decide +kernel
theorem dX8_woodOf_128 : decode cX8_woodOf 128 = .ok (.invokevirtual 135, 3) := by decide +kernel
theorem dX8_woodOf_131 : decode cX8_woodOf 131 = .ok (.goto 5, 3) := by decide +kernel
theorem dX8_woodOf_134 : decode cX8_woodOf 134 = .ok (.bipush (-4), 2) := by decide +kernel
theorem dX8_woodOf_136 : decode cX8_woodOf 136 = .ok (.ireturn, 1) := by decide +kernel
theorem dX8_woodOf_137 : decode cX8_woodOf 137 = .ok (.aload_n 0, 1) := by decide +kernel
theorem dX8_woodOf_138 : decode cX8_woodOf 138 = .ok (.iload_n 1, 1) := by decide +kernel
theorem dX8_woodOf_139 : decode cX8_woodOf 139 = .ok (.bipush 6, 2) := by decide +kernel
theorem dX8_woodOf_141 : decode cX8_woodOf 141 = .ok (.invokevirtual 109, 3) := by decide +kernel
theorem dX8_woodOf_144 : decode cX8_woodOf 144 = .ok (.ireturn, 1) := by decide +kernel
theorem dX8_woodOf_145 : decode cX8_woodOf 145 = .ok (.bipush (-2), 2) := by decide +kernel
theorem dX8_woodOf_147 : decode cX8_woodOf 147 = .ok (.ireturn, 1) := by decide +kernel
theorem dX8_woodsOf_0 : decode cX8_woodsOf 0 = .ok (.iconst 0, 1) := by decide +kernel
theorem dX8_woodsOf_1 : decode cX8_woodsOf 1 = .ok (.istore_n 3, 1) := by decide +kernel
theorem dX8_woodsOf_2 : decode cX8_woodsOf 2 = .ok (.iconst 0, 1) := by decide +kernel
theorem dX8_woodsOf_3 : decode cX8_woodsOf 3 = .ok (.istore 4, 2) := by decide +kernel
theorem dX8_woodsOf_5 : decode cX8_woodsOf 5 = .ok (.iload 4, 2) := by decide +kernel
theorem dX8_woodsOf_7 : decode cX8_woodsOf 7 = .ok (.aload_n 0, 1) := by decide +kernel
end
section
theorem dX8_woodsOf_8 : decode cX8_woodsOf 8 = .ok (.getfield 9, 3) := by decide +kernel
theorem dX8_woodsOf_11 : decode cX8_woodsOf 11 = .ok (.iconst 4, 1) := by decide +kernel
theorem dX8_woodsOf_12 : decode cX8_woodsOf 12 = .ok (.iaload, 1) := by decide +kernel
theorem dX8_woodsOf_13 : decode cX8_woodsOf 13 = .ok (.if_icmp .ge 37, 3) := by decide +kernel
theorem dX8_woodsOf_16 : decode cX8_woodsOf 16 = .ok (.aload_n 0, 1) := by decide +kernel
theorem dX8_woodsOf_17 : decode cX8_woodsOf 17 = .ok (.iload 4, 2) := by decide +kernel
theorem dX8_woodsOf_19 : decode cX8_woodsOf 19 = .ok (.iconst 0, 1) := by decide +kernel
theorem dX8_woodsOf_20 : decode cX8_woodsOf 20 = .ok (.invokevirtual 109, 3) := by decide +kernel
theorem dX8_woodsOf_23 : decode cX8_woodsOf 23 = .ok (.iload_n 1, 1) := by decide +kernel
theorem dX8_woodsOf_24 : decode cX8_woodsOf 24 = .ok (.if_icmp .ne 20, 3) := by decide +kernel
theorem dX8_woodsOf_27 : decode cX8_woodsOf 27 = .ok (.iload_n 2, 1) := by decide +kernel
theorem dX8_woodsOf_28 : decode cX8_woodsOf 28 = .ok (.ifCond .eq 13, 3) := by decide +kernel
theorem dX8_woodsOf_31 : decode cX8_woodsOf 31 = .ok (.aload_n 0, 1) := by decide +kernel
theorem dX8_woodsOf_32 : decode cX8_woodsOf 32 = .ok (.iload 4, 2) := by decide +kernel
theorem dX8_woodsOf_34 : decode cX8_woodsOf 34 = .ok (.iconst 2, 1) := by decide +kernel
theorem dX8_woodsOf_35 : decode cX8_woodsOf 35 = .ok (.invokevirtual 109, 3) := by decide +kernel
theorem dX8_woodsOf_38 : decode cX8_woodsOf 38 = .ok (.ifCond .ne 6, 3) := by decide +kernel
theorem dX8_woodsOf_41 : decode cX8_woodsOf 41 = .ok (.iinc 3 1, 3) := by decide +kernel
theorem dX8_woodsOf_44 : decode cX8_woodsOf 44 = .ok (.iinc 4 1, 3) := by decide +kernel
theorem dX8_woodsOf_47 : decode cX8_woodsOf 47 = .ok (.goto (-42), 3) := by decide +kernel
theorem dX8_woodsOf_50 : decode cX8_woodsOf 50 = .ok (.iload_n 3, 1) := by decide +kernel
theorem dX8_woodsOf_51 : decode cX8_woodsOf 51 = .ok (.ireturn, 1) := by decide +kernel
theorem dX8_clubOf_0 : decode cX8_clubOf 0 = .ok (.iload_n 1, 1) := by decide +kernel
theorem dX8_clubOf_1 : decode cX8_clubOf 1 = .ok (.iconst 0, 1) := by decide +kernel
theorem dX8_clubOf_2 : decode cX8_clubOf 2 = .ok (.iconst 1, 1) := by decide +kernel
theorem dX8_clubOf_3 : decode cX8_clubOf 3 = .ok (.invokestatic 55, 3) := by decide +kernel
theorem dX8_clubOf_6 : decode cX8_clubOf 6 = .ok (.ifCond .ne 5, 3) := by decide +kernel
theorem dX8_clubOf_9 : decode cX8_clubOf 9 = .ok (.iconst (-1), 1) := by decide +kernel
theorem dX8_clubOf_10 : decode cX8_clubOf 10 = .ok (.ireturn, 1) := by decide +kernel
theorem dX8_clubOf_11 : decode cX8_clubOf 11 = .ok (.iload_n 2, 1) := by decide +kernel
theorem dX8_clubOf_12 : decode cX8_clubOf 12 = .ok (.tableswitch 68 0 5 #[40, 40, 40, 40, 54, 61], 40) := by decide +kernel
theorem dX8_clubOf_52 : decode cX8_clubOf 52 = .ok (.aload_n 0, 1) := by decide +kernel
theorem dX8_clubOf_53 : decode cX8_clubOf 53 = .ok (.getfield 9, 3) := by decide +kernel
theorem dX8_clubOf_56 : decode cX8_clubOf 56 = .ok (.bipush 9, 2) := by decide +kernel
theorem dX8_clubOf_58 : decode cX8_clubOf 58 = .ok (.iconst 4, 1) := by decide +kernel
theorem dX8_clubOf_59 : decode cX8_clubOf 59 = .ok (.iload_n 1, 1) := by decide +kernel
theorem dX8_clubOf_60 : decode cX8_clubOf 60 = .ok (.imul, 1) := by decide +kernel
theorem dX8_clubOf_61 : decode cX8_clubOf 61 = .ok (.iadd, 1) := by decide +kernel
theorem dX8_clubOf_62 : decode cX8_clubOf 62 = .ok (.iload_n 2, 1) := by decide +kernel
theorem dX8_clubOf_63 : decode cX8_clubOf 63 = .ok (.iadd, 1) := by decide +kernel
theorem dX8_clubOf_64 : decode cX8_clubOf 64 = .ok (.iaload, 1) := by decide +kernel
theorem dX8_clubOf_65 : decode cX8_clubOf 65 = .ok (.ireturn, 1) := by decide +kernel
theorem dX8_clubOf_66 : decode cX8_clubOf 66 = .ok (.aload_n 0, 1) := by decide +kernel
theorem dX8_clubOf_67 : decode cX8_clubOf 67 = .ok (.iload_n 1, 1) := by decide +kernel
theorem dX8_clubOf_68 : decode cX8_clubOf 68 = .ok (.iconst 0, 1) := by decide +kernel
theorem dX8_clubOf_69 : decode cX8_clubOf 69 = .ok (.invokevirtual 210, 3) := by decide +kernel
theorem dX8_clubOf_72 : decode cX8_clubOf 72 = .ok (.ireturn, 1) := by decide +kernel
theorem dX8_clubOf_73 : decode cX8_clubOf 73 = .ok (.aload_n 0, 1) := by decide +kernel
theorem dX8_clubOf_74 : decode cX8_clubOf 74 = .ok (.iload_n 1, 1) := by decide +kernel
theorem dX8_clubOf_75 : decode cX8_clubOf 75 = .ok (.iconst 1, 1) := by decide +kernel
theorem dX8_clubOf_76 : decode cX8_clubOf 76 = .ok (.invokevirtual 210, 3) := by decide +kernel
theorem dX8_clubOf_79 : decode cX8_clubOf 79 = .ok (.ireturn, 1) := by decide +kernel
theorem dX8_clubOf_80 : decode cX8_clubOf 80 = .ok (.bipush (-2), 2) := by decide +kernel
theorem dX8_clubOf_82 : decode cX8_clubOf 82 = .ok (.ireturn, 1) := by decide +kernel
theorem dX8_rinkAt_0 : decode cX8_rinkAt 0 = .ok (.iconst 0, 1) := by decide +kernel
theorem dX8_rinkAt_1 : decode cX8_rinkAt 1 = .ok (.istore_n 2, 1) := by decide +kernel
theorem dX8_rinkAt_2 : decode cX8_rinkAt 2 = .ok (.iload_n 2, 1) := by decide +kernel
theorem dX8_rinkAt_3 : decode cX8_rinkAt 3 = .ok (.aload_n 0, 1) := by decide +kernel
theorem dX8_rinkAt_4 : decode cX8_rinkAt 4 = .ok (.getfield 9, 3) := by decide +kernel
theorem dX8_rinkAt_7 : decode cX8_rinkAt 7 = .ok (.iconst 3, 1) := by decide +kernel
theorem dX8_rinkAt_8 : decode cX8_rinkAt 8 = .ok (.iaload, 1) := by decide +kernel
theorem dX8_rinkAt_9 : decode cX8_rinkAt 9 = .ok (.if_icmp .ge 57, 3) := by decide +kernel
theorem dX8_rinkAt_12 : decode cX8_rinkAt 12 = .ok (.iconst 0, 1) := by decide +kernel
theorem dX8_rinkAt_13 : decode cX8_rinkAt 13 = .ok (.istore_n 3, 1) := by decide +kernel
theorem dX8_rinkAt_14 : decode cX8_rinkAt 14 = .ok (.iconst 0, 1) := by decide +kernel
theorem dX8_rinkAt_15 : decode cX8_rinkAt 15 = .ok (.istore 4, 2) := by decide +kernel
theorem dX8_rinkAt_17 : decode cX8_rinkAt 17 = .ok (.iload 4, 2) := by decide +kernel
theorem dX8_rinkAt_19 : decode cX8_rinkAt 19 = .ok (.aload_n 0, 1) := by decide +kernel
theorem dX8_rinkAt_20 : decode cX8_rinkAt 20 = .ok (.getfield 9, 3) := by decide +kernel
theorem dX8_rinkAt_23 : decode cX8_rinkAt 23 = .ok (.iconst 3, 1) := by decide +kernel
theorem dX8_rinkAt_24 : decode cX8_rinkAt 24 = .ok (.iaload, 1) := by decide +kernel
theorem dX8_rinkAt_25 : decode cX8_rinkAt 25 = .ok (.if_icmp .ge 28, 3) := by decide +kernel
theorem dX8_rinkAt_28 : decode cX8_rinkAt 28 = .ok (.aload_n 0, 1) := by decide +kernel
theorem dX8_rinkAt_29 : decode cX8_rinkAt 29 = .ok (.iload 4, 2) := by decide +kernel
theorem dX8_rinkAt_31 : decode cX8_rinkAt 31 = .ok (.iconst 0, 1) := by decide +kernel
theorem dX8_rinkAt_32 : decode cX8_rinkAt 32 = .ok (.invokevirtual 69, 3) := by decide +kernel
theorem dX8_rinkAt_35 : decode cX8_rinkAt 35 = .ok (.aload_n 0, 1) := by decide +kernel
theorem dX8_rinkAt_36 : decode cX8_rinkAt 36 = .ok (.iload_n 2, 1) := by decide +kernel
theorem dX8_rinkAt_37 : decode cX8_rinkAt 37 = .ok (.iconst 0, 1) := by decide +kernel
theorem dX8_rinkAt_38 : decode cX8_rinkAt 38 = .ok (.invokevirtual 69, 3) := by decide +kernel
theorem dX8_rinkAt_41 : decode cX8_rinkAt 41 = .ok (.if_icmp .ge 6, 3) := by decide +kernel
theorem dX8_rinkAt_44 : decode cX8_rinkAt 44 = .ok (.iinc 3 1, 3) := by decide +kernel
theorem dX8_rinkAt_47 : decode cX8_rinkAt 47 = .ok (.iinc 4 1, 3) := by decide +kernel
theorem dX8_rinkAt_50 : decode cX8_rinkAt 50 = .ok (.goto (-33), 3) := by decide +kernel
theorem dX8_rinkAt_53 : decode cX8_rinkAt 53 = .ok (.iload_n 3, 1) := by decide +kernel
theorem dX8_rinkAt_54 : decode cX8_rinkAt 54 = .ok (.iload_n 1, 1) := by decide +kernel
theorem dX8_rinkAt_55 : decode cX8_rinkAt 55 = .ok (.if_icmp .ne 5, 3) := by decide +kernel
theorem dX8_rinkAt_58 : decode cX8_rinkAt 58 = .ok (.iload_n 2, 1) := by decide +kernel
theorem dX8_rinkAt_59 : decode cX8_rinkAt 59 = .ok (.ireturn, 1) := by decide +kernel
theorem dX8_rinkAt_60 : decode cX8_rinkAt 60 = .ok (.iinc 2 1, 3) := by decide +kernel
theorem dX8_rinkAt_63 : decode cX8_rinkAt 63 = .ok (.goto (-61), 3) := by decide +kernel
theorem dX8_rinkAt_66 : decode cX8_rinkAt 66 = .ok (.iconst (-1), 1) := by decide +kernel
theorem dX8_rinkAt_67 : decode cX8_rinkAt 67 = .ok (.ireturn, 1) := by decide +kernel
theorem dX8_atPlace_0 : decode cX8_atPlace 0 = .ok (.iconst 0, 1) := by decide +kernel
theorem dX8_atPlace_1 : decode cX8_atPlace 1 = .ok (.istore_n 3, 1) := by decide +kernel
theorem dX8_atPlace_2 : decode cX8_atPlace 2 = .ok (.iload_n 3, 1) := by decide +kernel
theorem dX8_atPlace_3 : decode cX8_atPlace 3 = .ok (.aload_n 0, 1) := by decide +kernel
theorem dX8_atPlace_4 : decode cX8_atPlace 4 = .ok (.getfield 9, 3) := by decide +kernel
theorem dX8_atPlace_7 : decode cX8_atPlace 7 = .ok (.iconst 4, 1) := by decide +kernel
theorem dX8_atPlace_8 : decode cX8_atPlace 8 = .ok (.iaload, 1) := by decide +kernel
theorem dX8_atPlace_9 : decode cX8_atPlace 9 = .ok (.if_icmp .ge 99, 3) := by decide +kernel
theorem dX8_atPlace_12 : decode cX8_atPlace 12 = .ok (.aload_n 0, 1) := by decide +kernel
theorem dX8_atPlace_13 : decode cX8_atPlace 13 = .ok (.iload_n 3, 1) := by decide +kernel
theorem dX8_atPlace_14 : decode cX8_atPlace 14 = .ok (.iload_n 1, 1) := by decide +kernel
theorem dX8_atPlace_15 : decode cX8_atPlace 15 = .ok (.invokevirtual 145, 3) := by decide +kernel
theorem dX8_atPlace_18 : decode cX8_atPlace 18 = .ok (.ifCond .ne 6, 3) := by decide +kernel
theorem dX8_atPlace_21 : decode cX8_atPlace 21 = .ok (.goto 81, 3) := by decide +kernel
theorem dX8_atPlace_24 : decode cX8_atPlace 24 = .ok (.iconst 0, 1) := by decide +kernel
theorem dX8_atPlace_25 : decode cX8_atPlace 25 = .ok (.istore 4, 2) := by decide +kernel
theorem dX8_atPlace_27 : decode cX8_atPlace 27 = .ok (.iconst 0, 1) := by decide +kernel
theorem dX8_atPlace_28 : decode cX8_atPlace 28 = .ok (.istore 5, 2) := by decide +kernel
theorem dX8_atPlace_30 : decode cX8_atPlace 30 = .ok (.iload 5, 2) := by decide +kernel
theorem dX8_atPlace_32 : decode cX8_atPlace 32 = .ok (.aload_n 0, 1) := by decide +kernel
theorem dX8_atPlace_33 : decode cX8_atPlace 33 = .ok (.getfield 9, 3) := by decide +kernel
theorem dX8_atPlace_36 : decode cX8_atPlace 36 = .ok (.iconst 4, 1) := by decide +kernel
theorem dX8_atPlace_37 : decode cX8_atPlace 37 = .ok (.iaload, 1) := by decide +kernel
theorem dX8_atPlace_38 : decode cX8_atPlace 38 = .ok (.if_icmp .ge 56, 3) := by decide +kernel
theorem dX8_atPlace_41 : decode cX8_atPlace 41 = .ok (.aload_n 0, 1) := by decide +kernel
theorem dX8_atPlace_42 : decode cX8_atPlace 42 = .ok (.iload 5, 2) := by decide +kernel
theorem dX8_atPlace_44 : decode cX8_atPlace 44 = .ok (.iload_n 1, 1) := by decide +kernel
theorem dX8_atPlace_45 : decode cX8_atPlace 45 = .ok (.invokevirtual 145, 3) := by decide +kernel
theorem dX8_atPlace_48 : decode cX8_atPlace 48 = .ok (.ifCond .eq 40, 3) := by decide +kernel
theorem dX8_atPlace_51 : decode cX8_atPlace 51 = .ok (.aload_n 0, 1) := by decide +kernel
theorem dX8_atPlace_52 : decode cX8_atPlace 52 = .ok (.iload 5, 2) := by decide +kernel
theorem dX8_atPlace_54 : decode cX8_atPlace 54 = .ok (.invokevirtual 135, 3) := by decide +kernel
theorem dX8_atPlace_57 : decode cX8_atPlace 57 = .ok (.aload_n 0, 1) := by decide +kernel
theorem dX8_atPlace_58 : decode cX8_atPlace 58 = .ok (.iload_n 3, 1) := by decide +kernel
theorem dX8_atPlace_59 : decode cX8_atPlace 59 = .ok (.invokevirtual 135, 3) := by decide +kernel
theorem dX8_atPlace_62 : decode cX8_atPlace 62 = .ok (.if_icmp .lt 23, 3) := by decide +kernel
theorem dX8_atPlace_65 : decode cX8_atPlace 65 = .ok (.iload 5, 2) := by decide +kernel
theorem dX8_atPlace_67 : decode cX8_atPlace 67 = .ok (.iload_n 3, 1) := by decide +kernel
theorem dX8_atPlace_68 : decode cX8_atPlace 68 = .ok (.if_icmp .ge 20, 3) := by decide +kernel
theorem dX8_atPlace_71 : decode cX8_atPlace 71 = .ok (.aload_n 0, 1) := by decide +kernel
theorem dX8_atPlace_72 : decode cX8_atPlace 72 = .ok (.iload 5, 2) := by decide +kernel
theorem dX8_atPlace_74 : decode cX8_atPlace 74 = .ok (.invokevirtual 135, 3) := by decide +kernel
theorem dX8_atPlace_77 : decode cX8_atPlace 77 = .ok (.aload_n 0, 1) := by decide +kernel
theorem dX8_atPlace_78 : decode cX8_atPlace 78 = .ok (.iload_n 3, 1) := by decide +kernel
theorem dX8_atPlace_79 : decode cX8_atPlace 79 = .ok (.invokevirtual 135, 3) := by decide +kernel
theorem dX8_atPlace_82 : decode cX8_atPlace 82 = .ok (.if_icmp .ne 6, 3) := by decide +kernel
theorem dX8_atPlace_85 : decode cX8_atPlace 85 = .ok (.iinc 4 1, 3) := by decide +kernel
theorem dX8_atPlace_88 : decode cX8_atPlace 88 = .ok (.iinc 5 1, 3) := by decide +kernel
theorem dX8_atPlace_91 : decode cX8_atPlace 91 = .ok (.goto (-61), 3) := by decide +kernel
theorem dX8_atPlace_94 : decode cX8_atPlace 94 = .ok (.iload 4, 2) := by decide +kernel
theorem dX8_atPlace_96 : decode cX8_atPlace 96 = .ok (.iload_n 2, 1) := by decide +kernel
theorem dX8_atPlace_97 : decode cX8_atPlace 97 = .ok (.if_icmp .ne 5, 3) := by decide +kernel
theorem dX8_atPlace_100 : decode cX8_atPlace 100 = .ok (.iload_n 3, 1) := by decide +kernel
theorem dX8_atPlace_101 : decode cX8_atPlace 101 = .ok (.ireturn, 1) := by decide +kernel
theorem dX8_atPlace_102 : decode cX8_atPlace 102 = .ok (.iinc 3 1, 3) := by decide +kernel
theorem dX8_atPlace_105 : decode cX8_atPlace 105 = .ok (.goto (-103), 3) := by decide +kernel
theorem dX8_atPlace_108 : decode cX8_atPlace 108 = .ok (.bipush (-4), 2) := by decide +kernel
theorem dX8_atPlace_110 : decode cX8_atPlace 110 = .ok (.ireturn, 1) := by decide +kernel
theorem dX8_nearest_0 : decode cX8_nearest 0 = .ok (.aload_n 0, 1) := by decide +kernel
theorem dX8_nearest_1 : decode cX8_nearest 1 = .ok (.iload_n 1, 1) := by decide +kernel
theorem dX8_nearest_2 : decode cX8_nearest 2 = .ok (.invokevirtual 90, 3) := by decide +kernel
theorem dX8_nearest_5 : decode cX8_nearest 5 = .ok (.ifCond .eq 12, 3) := by decide +kernel
theorem dX8_nearest_8 : decode cX8_nearest 8 = .ok (.aload_n 0, 1) := by decide +kernel
theorem dX8_nearest_9 : decode cX8_nearest 9 = .ok (.iload_n 1, 1) := by decide +kernel
theorem dX8_nearest_10 : decode cX8_nearest 10 = .ok (.iload_n 2, 1) := by decide +kernel
theorem dX8_nearest_11 : decode cX8_nearest 11 = .ok (.invokevirtual 214, 3) := by decide +kernel
theorem dX8_nearest_14 : decode cX8_nearest 14 = .ok (.goto 4, 3) := by decide +kernel
theorem dX8_nearest_17 : decode cX8_nearest 17 = .ok (.iconst (-1), 1) := by decide +kernel
theorem dX8_nearest_18 : decode cX8_nearest 18 = .ok (.ireturn, 1) := by decide +kernel
theorem dX8_shots_0 : decode cX8_shots 0 = .ok (.aload_n 0, 1) := by decide +kernel
theorem dX8_shots_1 : decode cX8_shots 1 = .ok (.iload_n 1, 1) := by decide +kernel
theorem dX8_shots_2 : decode cX8_shots 2 = .ok (.invokevirtual 90, 3) := by decide +kernel
theorem dX8_shots_5 : decode cX8_shots 5 = .ok (.ifCond .ne 5, 3) := by decide +kernel
theorem dX8_shots_8 : decode cX8_shots 8 = .ok (.iconst (-1), 1) := by decide +kernel
theorem dX8_shots_9 : decode cX8_shots 9 = .ok (.ireturn, 1) := by decide +kernel
theorem dX8_shots_10 : decode cX8_shots 10 = .ok (.aload_n 0, 1) := by decide +kernel
theorem dX8_shots_11 : decode cX8_shots 11 = .ok (.iload_n 1, 1) := by decide +kernel
theorem dX8_shots_12 : decode cX8_shots 12 = .ok (.iconst 4, 1) := by decide +kernel
theorem dX8_shots_13 : decode cX8_shots 13 = .ok (.invokevirtual 69, 3) := by decide +kernel
theorem dX8_shots_16 : decode cX8_shots 16 = .ok (.ifCond .ne 8, 3) := by decide +kernel
theorem dX8_shots_19 : decode cX8_shots 19 = .ok (.bipush (-4), 2) := by decide +kernel
theorem dX8_shots_21 : decode cX8_shots 21 = .ok (.goto 8, 3) := by decide +kernel
theorem dX8_shots_24 : decode cX8_shots 24 = .ok (.aload_n 0, 1) := by decide +kernel
theorem dX8_shots_25 : decode cX8_shots 25 = .ok (.iload_n 1, 1) := by decide +kernel
theorem dX8_shots_26 : decode cX8_shots 26 = .ok (.invokevirtual 151, 3) := by decide +kernel
theorem dX8_shots_29 : decode cX8_shots 29 = .ok (.ireturn, 1) := by decide +kernel
theorem dX8_would_0 : decode cX8_would 0 = .ok (.aload_n 0, 1) := by decide +kernel
theorem dX8_would_1 : decode cX8_would 1 = .ok (.iload_n 1, 1) := by decide +kernel
theorem dX8_would_2 : decode cX8_would 2 = .ok (.invokevirtual 90, 3) := by decide +kernel
theorem dX8_would_5 : decode cX8_would 5 = .ok (.ifCond .eq 11, 3) := by decide +kernel
theorem dX8_would_8 : decode cX8_would 8 = .ok (.aload_n 0, 1) := by decide +kernel
theorem dX8_would_9 : decode cX8_would 9 = .ok (.iload_n 2, 1) := by decide +kernel
theorem dX8_would_10 : decode cX8_would 10 = .ok (.invokevirtual 120, 3) := by decide +kernel
theorem dX8_would_13 : decode cX8_would 13 = .ok (.ifCond .ne 5, 3) := by decide +kernel
theorem dX8_would_16 : decode cX8_would 16 = .ok (.iconst (-1), 1) := by decide +kernel
theorem dX8_would_17 : decode cX8_would 17 = .ok (.ireturn, 1) := by decide +kernel
theorem dX8_would_18 : decode cX8_would 18 = .ok (.aload_n 0, 1) := by decide +kernel
theorem dX8_would_19 : decode cX8_would 19 = .ok (.iload_n 1, 1) := by decide +kernel
theorem dX8_would_20 : decode cX8_would 20 = .ok (.iload_n 3, 1) := by decide +kernel
theorem dX8_would_21 : decode cX8_would 21 = .ok (.invokevirtual 123, 3) := by decide +kernel
theorem dX8_would_24 : decode cX8_would 24 = .ok (.ifCond .ne 14, 3) := by decide +kernel
theorem dX8_would_27 : decode cX8_would 27 = .ok (.iload 4, 2) := by decide +kernel
theorem dX8_would_29 : decode cX8_would 29 = .ok (.iconst 1, 1) := by decide +kernel
theorem dX8_would_30 : decode cX8_would 30 = .ok (.bipush 20, 2) := by decide +kernel
theorem dX8_would_32 : decode cX8_would 32 = .ok (.invokestatic 55, 3) := by decide +kernel
theorem dX8_would_35 : decode cX8_would 35 = .ok (.ifCond .ne 6, 3) := by decide +kernel
theorem dX8_would_38 : decode cX8_would 38 = .ok (.bipush (-2), 2) := by decide +kernel
theorem dX8_would_40 : decode cX8_would 40 = .ok (.ireturn, 1) := by decide +kernel
theorem dX8_would_41 : decode cX8_would 41 = .ok (.aload_n 0, 1) := by decide +kernel
theorem dX8_would_42 : decode cX8_would 42 = .ok (.iload_n 2, 1) := by decide +kernel
theorem dX8_would_43 : decode cX8_would 43 = .ok (.iload_n 3, 1) := by decide +kernel
theorem dX8_would_44 : decode cX8_would 44 = .ok (.iload 4, 2) := by decide +kernel
theorem dX8_would_46 : decode cX8_would 46 = .ok (.iload 5, 2) := by decide +kernel
theorem dX8_would_48 : decode cX8_would 48 = .ok (.invokevirtual 127, 3) := by decide +kernel
theorem dX8_would_51 : decode cX8_would 51 = .ok (.istore 6, 2) := by decide +kernel
theorem dX8_would_53 : decode cX8_would 53 = .ok (.aload_n 0, 1) := by decide +kernel
theorem dX8_would_54 : decode cX8_would 54 = .ok (.iload_n 1, 1) := by decide +kernel
theorem dX8_would_55 : decode cX8_would 55 = .ok (.iload_n 2, 1) := by decide +kernel
theorem dX8_would_56 : decode cX8_would 56 = .ok (.iload 6, 2) := by decide +kernel
theorem dX8_would_58 : decode cX8_would 58 = .ok (.iload 4, 2) := by decide +kernel
theorem dX8_would_60 : decode cX8_would 60 = .ok (.invokevirtual 131, 3) := by decide +kernel
theorem dX8_would_63 : decode cX8_would 63 = .ok (.istore 7, 2) := by decide +kernel
theorem dX8_would_65 : decode cX8_would 65 = .ok (.iload 7, 2) := by decide +kernel
theorem dX8_would_67 : decode cX8_would 67 = .ok (.ifCond .ge 8, 3) := by decide +kernel
theorem dX8_would_70 : decode cX8_would 70 = .ok (.bipush (-4), 2) := by decide +kernel
theorem dX8_would_72 : decode cX8_would 72 = .ok (.goto 11, 3) := by decide +kernel
theorem dX8_would_75 : decode cX8_would 75 = .ok (.bipush 100, 2) := by decide +kernel
theorem dX8_would_77 : decode cX8_would 77 = .ok (.iload 6, 2) := by decide +kernel
theorem dX8_would_79 : decode cX8_would 79 = .ok (.imul, 1) := by decide +kernel
theorem dX8_would_80 : decode cX8_would 80 = .ok (.iload 7, 2) := by decide +kernel
theorem dX8_would_82 : decode cX8_would 82 = .ok (.iadd, 1) := by decide +kernel
theorem dX8_would_83 : decode cX8_would 83 = .ok (.ireturn, 1) := by decide +kernel
theorem dX8_bestStrength_0 : decode cX8_bestStrength 0 = .ok (.aload_n 0, 1) := by decide +kernel
theorem dX8_bestStrength_1 : decode cX8_bestStrength 1 = .ok (.iload_n 1, 1) := by decide +kernel
theorem dX8_bestStrength_2 : decode cX8_bestStrength 2 = .ok (.invokevirtual 90, 3) := by decide +kernel
theorem dX8_bestStrength_5 : decode cX8_bestStrength 5 = .ok (.ifCond .eq 11, 3) := by decide +kernel
theorem dX8_bestStrength_8 : decode cX8_bestStrength 8 = .ok (.aload_n 0, 1) := by decide +kernel
theorem dX8_bestStrength_9 : decode cX8_bestStrength 9 = .ok (.iload_n 2, 1) := by decide +kernel
theorem dX8_bestStrength_10 : decode cX8_bestStrength 10 = .ok (.invokevirtual 120, 3) := by decide +kernel
theorem dX8_bestStrength_13 : decode cX8_bestStrength 13 = .ok (.ifCond .ne 5, 3) := by decide +kernel
theorem dX8_bestStrength_16 : decode cX8_bestStrength 16 = .ok (.iconst (-1), 1) := by decide +kernel
theorem dX8_bestStrength_17 : decode cX8_bestStrength 17 = .ok (.ireturn, 1) := by decide +kernel
theorem dX8_bestStrength_18 : decode cX8_bestStrength 18 = .ok (.aload_n 0, 1) := by decide +kernel
theorem dX8_bestStrength_19 : decode cX8_bestStrength 19 = .ok (.iload_n 1, 1) := by decide +kernel
theorem dX8_bestStrength_20 : decode cX8_bestStrength 20 = .ok (.iload_n 3, 1) := by decide +kernel
theorem dX8_bestStrength_21 : decode cX8_bestStrength 21 = .ok (.invokevirtual 123, 3) := by decide +kernel
theorem dX8_bestStrength_24 : decode cX8_bestStrength 24 = .ok (.ifCond .eq 6, 3) := by decide +kernel
theorem dX8_bestStrength_27 : decode cX8_bestStrength 27 = .ok (.bipush (-2), 2) := by decide +kernel
theorem dX8_bestStrength_29 : decode cX8_bestStrength 29 = .ok (.ireturn, 1) := by decide +kernel
theorem dX8_bestStrength_30 : decode cX8_bestStrength 30 = .ok (.bipush (-4), 2) := by decide +kernel
theorem dX8_bestStrength_32 : decode cX8_bestStrength 32 = .ok (.istore 5, 2) := by decide +kernel
theorem dX8_bestStrength_34 : decode cX8_bestStrength 34 = .ok (.ldc 144, 2) := by decide +kernel
theorem dX8_bestStrength_36 : decode cX8_bestStrength 36 = .ok (.istore 6, 2) := by decide +kernel
theorem dX8_bestStrength_38 : decode cX8_bestStrength 38 = .ok (.iconst 1, 1) := by decide +kernel
theorem dX8_bestStrength_39 : decode cX8_bestStrength 39 = .ok (.istore 7, 2) := by decide +kernel
theorem dX8_bestStrength_41 : decode cX8_bestStrength 41 = .ok (.iload 7, 2) := by decide +kernel
theorem dX8_bestStrength_43 : decode cX8_bestStrength 43 = .ok (.bipush 20, 2) := by decide +kernel
theorem dX8_bestStrength_45 : decode cX8_bestStrength 45 = .ok (.if_icmp .gt 79, 3) := by decide +kernel
theorem dX8_bestStrength_48 : decode cX8_bestStrength 48 = .ok (.aload_n 0, 1) := by decide +kernel
theorem dX8_bestStrength_49 : decode cX8_bestStrength 49 = .ok (.iload_n 1, 1) := by decide +kernel
theorem dX8_bestStrength_50 : decode cX8_bestStrength 50 = .ok (.iconst 4, 1) := by decide +kernel
theorem dX8_bestStrength_51 : decode cX8_bestStrength 51 = .ok (.invokevirtual 69, 3) := by decide +kernel
theorem dX8_bestStrength_54 : decode cX8_bestStrength 54 = .ok (.ifCond .le 70, 3) := by decide +kernel
theorem dX8_bestStrength_57 : decode cX8_bestStrength 57 = .ok (.aload_n 0, 1) := by decide +kernel
theorem dX8_bestStrength_58 : decode cX8_bestStrength 58 = .ok (.iload_n 2, 1) := by decide +kernel
theorem dX8_bestStrength_59 : decode cX8_bestStrength 59 = .ok (.iload_n 3, 1) := by decide +kernel
theorem dX8_bestStrength_60 : decode cX8_bestStrength 60 = .ok (.iload 7, 2) := by decide +kernel
theorem dX8_bestStrength_62 : decode cX8_bestStrength 62 = .ok (.iload 4, 2) := by decide +kernel
theorem dX8_bestStrength_64 : decode cX8_bestStrength 64 = .ok (.invokevirtual 127, 3) := by decide +kernel
theorem dX8_bestStrength_67 : decode cX8_bestStrength 67 = .ok (.istore 8, 2) := by decide +kernel
theorem dX8_bestStrength_69 : decode cX8_bestStrength 69 = .ok (.aload_n 0, 1) := by decide +kernel
theorem dX8_bestStrength_70 : decode cX8_bestStrength 70 = .ok (.iload_n 1, 1) := by decide +kernel
theorem dX8_bestStrength_71 : decode cX8_bestStrength 71 = .ok (.iload_n 2, 1) := by decide +kernel
theorem dX8_bestStrength_72 : decode cX8_bestStrength 72 = .ok (.iload 8, 2) := by decide +kernel
theorem dX8_bestStrength_74 : decode cX8_bestStrength 74 = .ok (.iload 7, 2) := by decide +kernel
theorem dX8_bestStrength_76 : decode cX8_bestStrength 76 = .ok (.invokevirtual 131, 3) := by decide +kernel
theorem dX8_bestStrength_79 : decode cX8_bestStrength 79 = .ok (.istore 9, 2) := by decide +kernel
theorem dX8_bestStrength_81 : decode cX8_bestStrength 81 = .ok (.iload 9, 2) := by decide +kernel
theorem dX8_bestStrength_83 : decode cX8_bestStrength 83 = .ok (.ifCond .lt 35, 3) := by decide +kernel
theorem dX8_bestStrength_86 : decode cX8_bestStrength 86 = .ok (.aload_n 0, 1) := by decide +kernel
theorem dX8_bestStrength_87 : decode cX8_bestStrength 87 = .ok (.iload_n 1, 1) := by decide +kernel
theorem dX8_bestStrength_88 : decode cX8_bestStrength 88 = .ok (.iload 8, 2) := by decide +kernel
theorem dX8_bestStrength_90 : decode cX8_bestStrength 90 = .ok (.iload 9, 2) := by decide +kernel
theorem dX8_bestStrength_92 : decode cX8_bestStrength 92 = .ok (.invokevirtual 116, 3) := by decide +kernel
theorem dX8_bestStrength_95 : decode cX8_bestStrength 95 = .ok (.iload 6, 2) := by decide +kernel
theorem dX8_bestStrength_97 : decode cX8_bestStrength 97 = .ok (.if_icmp .lt 6, 3) := by decide +kernel
theorem dX8_bestStrength_100 : decode cX8_bestStrength 100 = .ok (.goto 18, 3) := by decide +kernel
theorem dX8_bestStrength_103 : decode cX8_bestStrength 103 = .ok (.aload_n 0, 1) := by decide +kernel
theorem dX8_bestStrength_104 : decode cX8_bestStrength 104 = .ok (.iload_n 1, 1) := by decide +kernel
theorem dX8_bestStrength_105 : decode cX8_bestStrength 105 = .ok (.iload 8, 2) := by decide +kernel
theorem dX8_bestStrength_107 : decode cX8_bestStrength 107 = .ok (.iload 9, 2) := by decide +kernel
theorem dX8_bestStrength_109 : decode cX8_bestStrength 109 = .ok (.invokevirtual 116, 3) := by decide +kernel
theorem dX8_bestStrength_112 : decode cX8_bestStrength 112 = .ok (.istore 6, 2) := by decide +kernel
theorem dX8_bestStrength_114 : decode cX8_bestStrength 114 = .ok (.iload 7, 2) := by decide +kernel
theorem dX8_bestStrength_116 : decode cX8_bestStrength 116 = .ok (.istore 5, 2) := by decide +kernel
theorem dX8_bestStrength_118 : decode cX8_bestStrength 118 = .ok (.iinc 7 1, 3) := by decide +kernel
theorem dX8_bestStrength_121 : decode cX8_bestStrength 121 = .ok (.goto (-80), 3) := by decide +kernel
theorem dX8_bestStrength_124 : decode cX8_bestStrength 124 = .ok (.iload 5, 2) := by decide +kernel
theorem dX8_bestStrength_126 : decode cX8_bestStrength 126 = .ok (.ireturn, 1) := by decide +kernel
theorem dX8_ahead_0 : decode cX8_ahead 0 = .ok (.aload_n 0, 1) := by decide +kernel
theorem dX8_ahead_1 : decode cX8_ahead 1 = .ok (.iload_n 1, 1) := by decide +kernel
theorem dX8_ahead_2 : decode cX8_ahead 2 = .ok (.invokevirtual 90, 3) := by decide +kernel
theorem dX8_ahead_5 : decode cX8_ahead 5 = .ok (.ifCond .ne 5, 3) := by decide +kernel
theorem dX8_ahead_8 : decode cX8_ahead 8 = .ok (.iconst (-1), 1) := by decide +kernel
theorem dX8_ahead_9 : decode cX8_ahead 9 = .ok (.ireturn, 1) := by decide +kernel
theorem dX8_ahead_10 : decode cX8_ahead 10 = .ok (.iload_n 2, 1) := by decide +kernel
theorem dX8_ahead_11 : decode cX8_ahead 11 = .ok (.iconst 0, 1) := by decide +kernel
theorem dX8_ahead_12 : decode cX8_ahead 12 = .ok (.bipush 40, 2) := by decide +kernel
theorem dX8_ahead_14 : decode cX8_ahead 14 = .ok (.invokestatic 55, 3) := by decide +kernel
theorem dX8_ahead_17 : decode cX8_ahead 17 = .ok (.ifCond .ne 6, 3) := by decide +kernel
theorem dX8_ahead_20 : decode cX8_ahead 20 = .ok (.bipush (-2), 2) := by decide +kernel
theorem dX8_ahead_22 : decode cX8_ahead 22 = .ok (.ireturn, 1) := by decide +kernel
theorem dX8_ahead_23 : decode cX8_ahead 23 = .ok (.aload_n 0, 1) := by decide +kernel
theorem dX8_ahead_24 : decode cX8_ahead 24 = .ok (.iload_n 1, 1) := by decide +kernel
theorem dX8_ahead_25 : decode cX8_ahead 25 = .ok (.iconst 2, 1) := by decide +kernel
theorem dX8_ahead_26 : decode cX8_ahead 26 = .ok (.invokevirtual 69, 3) := by decide +kernel
theorem dX8_ahead_29 : decode cX8_ahead 29 = .ok (.istore 4, 2) := by decide +kernel
theorem dX8_ahead_31 : decode cX8_ahead 31 = .ok (.aload_n 0, 1) := by decide +kernel
theorem dX8_ahead_32 : decode cX8_ahead 32 = .ok (.iload_n 1, 1) := by decide +kernel
theorem dX8_ahead_33 : decode cX8_ahead 33 = .ok (.iconst 3, 1) := by decide +kernel
theorem dX8_ahead_34 : decode cX8_ahead 34 = .ok (.invokevirtual 69, 3) := by decide +kernel
theorem dX8_ahead_37 : decode cX8_ahead 37 = .ok (.istore 5, 2) := by decide +kernel
theorem dX8_ahead_39 : decode cX8_ahead 39 = .ok (.iconst 0, 1) := by decide +kernel
theorem dX8_ahead_40 : decode cX8_ahead 40 = .ok (.istore 6, 2) := by decide +kernel
theorem dX8_ahead_42 : decode cX8_ahead 42 = .ok (.iload 6, 2) := by decide +kernel
theorem dX8_ahead_44 : decode cX8_ahead 44 = .ok (.iload_n 2, 1) := by decide +kernel
theorem dX8_ahead_45 : decode cX8_ahead 45 = .ok (.if_icmp .ge 28, 3) := by decide +kernel
theorem dX8_ahead_48 : decode cX8_ahead 48 = .ok (.aload_n 0, 1) := by decide +kernel
theorem dX8_ahead_49 : decode cX8_ahead 49 = .ok (.iload 4, 2) := by decide +kernel
theorem dX8_ahead_51 : decode cX8_ahead 51 = .ok (.invokevirtual 87, 3) := by decide +kernel
theorem dX8_ahead_54 : decode cX8_ahead 54 = .ok (.istore 4, 2) := by decide +kernel
theorem dX8_ahead_56 : decode cX8_ahead 56 = .ok (.aload_n 0, 1) := by decide +kernel
theorem dX8_ahead_57 : decode cX8_ahead 57 = .ok (.iload_n 1, 1) := by decide +kernel
theorem dX8_ahead_58 : decode cX8_ahead 58 = .ok (.iload 4, 2) := by decide +kernel
theorem dX8_ahead_60 : decode cX8_ahead 60 = .ok (.iload 5, 2) := by decide +kernel
theorem dX8_ahead_62 : decode cX8_ahead 62 = .ok (.invokevirtual 166, 3) := by decide +kernel
theorem dX8_ahead_65 : decode cX8_ahead 65 = .ok (.istore 5, 2) := by decide +kernel
theorem dX8_ahead_67 : decode cX8_ahead 67 = .ok (.iinc 6 1, 3) := by decide +kernel
theorem dX8_ahead_70 : decode cX8_ahead 70 = .ok (.goto (-28), 3) := by decide +kernel
theorem dX8_ahead_73 : decode cX8_ahead 73 = .ok (.iload_n 3, 1) := by decide +kernel
theorem dX8_ahead_74 : decode cX8_ahead 74 = .ok (.ifCond .eq 8, 3) := by decide +kernel
theorem dX8_ahead_77 : decode cX8_ahead 77 = .ok (.iload 5, 2) := by decide +kernel
theorem dX8_ahead_79 : decode cX8_ahead 79 = .ok (.goto 5, 3) := by decide +kernel
theorem dX8_ahead_82 : decode cX8_ahead 82 = .ok (.iload 4, 2) := by decide +kernel
theorem dX8_ahead_84 : decode cX8_ahead 84 = .ok (.ireturn, 1) := by decide +kernel
theorem dX8_wetIn_0 : decode cX8_wetIn 0 = .ok (.aload_n 0, 1) := by decide +kernel
theorem dX8_wetIn_1 : decode cX8_wetIn 1 = .ok (.iload_n 1, 1) := by decide +kernel
theorem dX8_wetIn_2 : decode cX8_wetIn 2 = .ok (.iload_n 2, 1) := by decide +kernel
theorem dX8_wetIn_3 : decode cX8_wetIn 3 = .ok (.iconst 0, 1) := by decide +kernel
theorem dX8_wetIn_4 : decode cX8_wetIn 4 = .ok (.invokevirtual 217, 3) := by decide +kernel
theorem dX8_wetIn_7 : decode cX8_wetIn 7 = .ok (.ireturn, 1) := by decide +kernel
theorem dX8_castsIn_0 : decode cX8_castsIn 0 = .ok (.aload_n 0, 1) := by decide +kernel
theorem dX8_castsIn_1 : decode cX8_castsIn 1 = .ok (.iload_n 1, 1) := by decide +kernel
theorem dX8_castsIn_2 : decode cX8_castsIn 2 = .ok (.iload_n 2, 1) := by decide +kernel
theorem dX8_castsIn_3 : decode cX8_castsIn 3 = .ok (.iconst 1, 1) := by decide +kernel
theorem dX8_castsIn_4 : decode cX8_castsIn 4 = .ok (.invokevirtual 217, 3) := by decide +kernel
theorem dX8_castsIn_7 : decode cX8_castsIn 7 = .ok (.ireturn, 1) := by decide +kernel
theorem dX8_dryIn_0 : decode cX8_dryIn 0 = .ok (.aload_n 0, 1) := by decide +kernel
theorem dX8_dryIn_1 : decode cX8_dryIn 1 = .ok (.iload_n 1, 1) := by decide +kernel
theorem dX8_dryIn_2 : decode cX8_dryIn 2 = .ok (.invokevirtual 90, 3) := by decide +kernel
theorem dX8_dryIn_5 : decode cX8_dryIn 5 = .ok (.ifCond .ne 5, 3) := by decide +kernel
theorem dX8_dryIn_8 : decode cX8_dryIn 8 = .ok (.iconst (-1), 1) := by decide +kernel
theorem dX8_dryIn_9 : decode cX8_dryIn 9 = .ok (.ireturn, 1) := by decide +kernel
theorem dX8_dryIn_10 : decode cX8_dryIn 10 = .ok (.aload_n 0, 1) := by decide +kernel
theorem dX8_dryIn_11 : decode cX8_dryIn 11 = .ok (.iload_n 1, 1) := by decide +kernel
theorem dX8_dryIn_12 : decode cX8_dryIn 12 = .ok (.invokevirtual 94, 3) := by decide +kernel
theorem dX8_dryIn_15 : decode cX8_dryIn 15 = .ok (.istore_n 2, 1) := by decide +kernel
theorem dX8_dryIn_16 : decode cX8_dryIn 16 = .ok (.iload_n 2, 1) := by decide +kernel
theorem dX8_dryIn_17 : decode cX8_dryIn 17 = .ok (.ifCond .ge 8, 3) := by decide +kernel
theorem dX8_dryIn_20 : decode cX8_dryIn 20 = .ok (.bipush (-4), 2) := by decide +kernel
theorem dX8_dryIn_22 : decode cX8_dryIn 22 = .ok (.goto 4, 3) := by decide +kernel
theorem dX8_dryIn_25 : decode cX8_dryIn 25 = .ok (.iload_n 2, 1) := by decide +kernel
theorem dX8_dryIn_26 : decode cX8_dryIn 26 = .ok (.ireturn, 1) := by decide +kernel
theorem dX8_leader_0 : decode cX8_leader 0 = .ok (.iconst 0, 1) := by decide +kernel
theorem dX8_leader_1 : decode cX8_leader 1 = .ok (.istore_n 1, 1) := by decide +kernel
theorem dX8_leader_2 : decode cX8_leader 2 = .ok (.iload_n 1, 1) := by decide +kernel
theorem dX8_leader_3 : decode cX8_leader 3 = .ok (.iconst 2, 1) := by decide +kernel
theorem dX8_leader_4 : decode cX8_leader 4 = .ok (.if_icmp .ge 57, 3) := by decide +kernel
theorem dX8_leader_7 : decode cX8_leader 7 = .ok (.aload_n 0, 1) := by decide +kernel
theorem dX8_leader_8 : decode cX8_leader 8 = .ok (.getfield 9, 3) := by decide +kernel
theorem dX8_leader_11 : decode cX8_leader 11 = .ok (.bipush 9, 2) := by decide +kernel
theorem dX8_leader_13 : decode cX8_leader 13 = .ok (.iload_n 1, 1) := by decide +kernel
theorem dX8_leader_14 : decode cX8_leader 14 = .ok (.iadd, 1) := by decide +kernel
theorem dX8_leader_15 : decode cX8_leader 15 = .ok (.iaload, 1) := by decide +kernel
theorem dX8_leader_16 : decode cX8_leader 16 = .ok (.aload_n 0, 1) := by decide +kernel
theorem dX8_leader_17 : decode cX8_leader 17 = .ok (.getfield 9, 3) := by decide +kernel
theorem dX8_leader_20 : decode cX8_leader 20 = .ok (.bipush 13, 2) := by decide +kernel
theorem dX8_leader_22 : decode cX8_leader 22 = .ok (.iload_n 1, 1) := by decide +kernel
theorem dX8_leader_23 : decode cX8_leader 23 = .ok (.iadd, 1) := by decide +kernel
theorem dX8_leader_24 : decode cX8_leader 24 = .ok (.iaload, 1) := by decide +kernel
theorem dX8_leader_25 : decode cX8_leader 25 = .ok (.if_icmp .eq 30, 3) := by decide +kernel
theorem dX8_leader_28 : decode cX8_leader 28 = .ok (.aload_n 0, 1) := by decide +kernel
theorem dX8_leader_29 : decode cX8_leader 29 = .ok (.getfield 9, 3) := by decide +kernel
theorem dX8_leader_32 : decode cX8_leader 32 = .ok (.bipush 9, 2) := by decide +kernel
theorem dX8_leader_34 : decode cX8_leader 34 = .ok (.iload_n 1, 1) := by decide +kernel
theorem dX8_leader_35 : decode cX8_leader 35 = .ok (.iadd, 1) := by decide +kernel
theorem dX8_leader_36 : decode cX8_leader 36 = .ok (.iaload, 1) := by decide +kernel
theorem dX8_leader_37 : decode cX8_leader 37 = .ok (.aload_n 0, 1) := by decide +kernel
theorem dX8_leader_38 : decode cX8_leader 38 = .ok (.getfield 9, 3) := by decide +kernel
theorem dX8_leader_41 : decode cX8_leader 41 = .ok (.bipush 13, 2) := by decide +kernel
theorem dX8_leader_43 : decode cX8_leader 43 = .ok (.iload_n 1, 1) := by decide +kernel
theorem dX8_leader_44 : decode cX8_leader 44 = .ok (.iadd, 1) := by decide +kernel
theorem dX8_leader_45 : decode cX8_leader 45 = .ok (.iaload, 1) := by decide +kernel
theorem dX8_leader_46 : decode cX8_leader 46 = .ok (.if_icmp .le 7, 3) := by decide +kernel
theorem dX8_leader_49 : decode cX8_leader 49 = .ok (.iconst 0, 1) := by decide +kernel
theorem dX8_leader_50 : decode cX8_leader 50 = .ok (.goto 4, 3) := by decide +kernel
theorem dX8_leader_53 : decode cX8_leader 53 = .ok (.iconst 1, 1) := by decide +kernel
theorem dX8_leader_54 : decode cX8_leader 54 = .ok (.ireturn, 1) := by decide +kernel
theorem dX8_leader_55 : decode cX8_leader 55 = .ok (.iinc 1 1, 3) := by decide +kernel
theorem dX8_leader_58 : decode cX8_leader 58 = .ok (.goto (-56), 3) := by decide +kernel
theorem dX8_leader_61 : decode cX8_leader 61 = .ok (.bipush (-4), 2) := by decide +kernel
theorem dX8_leader_63 : decode cX8_leader 63 = .ok (.ireturn, 1) := by decide +kernel
theorem dX8_writes_0 : decode cX8_writes 0 = .ok (.iconst 0, 1) := by decide +kernel
theorem dX8_writes_1 : decode cX8_writes 1 = .ok (.istore_n 2, 1) := by decide +kernel
theorem dX8_writes_2 : decode cX8_writes 2 = .ok (.iload_n 2, 1) := by decide +kernel
theorem dX8_writes_3 : decode cX8_writes 3 = .ok (.aload_n 1, 1) := by decide +kernel
theorem dX8_writes_4 : decode cX8_writes 4 = .ok (.invokevirtual 221, 3) := by decide +kernel
theorem dX8_writes_7 : decode cX8_writes 7 = .ok (.if_icmp .ge 30, 3) := by decide +kernel
theorem dX8_writes_10 : decode cX8_writes 10 = .ok (.aload_n 0, 1) := by decide +kernel
theorem dX8_writes_11 : decode cX8_writes 11 = .ok (.getfield 22, 3) := by decide +kernel
theorem dX8_writes_14 : decode cX8_writes 14 = .ok (.aload_n 0, 1) := by decide +kernel
theorem dX8_writes_15 : decode cX8_writes 15 = .ok (.dup, 1) := by decide +kernel
theorem dX8_writes_16 : decode cX8_writes 16 = .ok (.getfield 225, 3) := by decide +kernel
theorem dX8_writes_19 : decode cX8_writes 19 = .ok (.dup_x1, 1) := by decide +kernel
theorem dX8_writes_20 : decode cX8_writes 20 = .ok (.iconst 1, 1) := by decide +kernel
theorem dX8_writes_21 : decode cX8_writes 21 = .ok (.iadd, 1) := by decide +kernel
theorem dX8_writes_22 : decode cX8_writes 22 = .ok (.putfield 225, 3) := by decide +kernel
theorem dX8_writes_25 : decode cX8_writes 25 = .ok (.aload_n 1, 1) := by decide +kernel
theorem dX8_writes_26 : decode cX8_writes 26 = .ok (.iload_n 2, 1) := by decide +kernel
theorem dX8_writes_27 : decode cX8_writes 27 = .ok (.invokevirtual 228, 3) := by decide +kernel
theorem dX8_writes_30 : decode cX8_writes 30 = .ok (.iastore, 1) := by decide +kernel
theorem dX8_writes_31 : decode cX8_writes 31 = .ok (.iinc 2 1, 3) := by decide +kernel
theorem dX8_writes_34 : decode cX8_writes 34 = .ok (.goto (-32), 3) := by decide +kernel
theorem dX8_writes_37 : decode cX8_writes 37 = .ok (.return_, 1) := by decide +kernel
theorem dX8_writesNumber_0 : decode cX8_writesNumber 0 = .ok (.iload_n 1, 1) := by decide +kernel
theorem dX8_writesNumber_1 : decode cX8_writesNumber 1 = .ok (.bipush 9, 2) := by decide +kernel
theorem dX8_writesNumber_3 : decode cX8_writesNumber 3 = .ok (.if_icmp .le 11, 3) := by decide +kernel
theorem dX8_writesNumber_6 : decode cX8_writesNumber 6 = .ok (.aload_n 0, 1) := by decide +kernel
theorem dX8_writesNumber_7 : decode cX8_writesNumber 7 = .ok (.iload_n 1, 1) := by decide +kernel
theorem dX8_writesNumber_8 : decode cX8_writesNumber 8 = .ok (.bipush 10, 2) := by decide +kernel
theorem dX8_writesNumber_10 : decode cX8_writesNumber 10 = .ok (.idiv, 1) := by decide +kernel
theorem dX8_writesNumber_11 : decode cX8_writesNumber 11 = .ok (.invokevirtual 232, 3) := by decide +kernel
theorem dX8_writesNumber_14 : decode cX8_writesNumber 14 = .ok (.aload_n 0, 1) := by decide +kernel
theorem dX8_writesNumber_15 : decode cX8_writesNumber 15 = .ok (.getfield 22, 3) := by decide +kernel
theorem dX8_writesNumber_18 : decode cX8_writesNumber 18 = .ok (.aload_n 0, 1) := by decide +kernel
theorem dX8_writesNumber_19 : decode cX8_writesNumber 19 = .ok (.dup, 1) := by decide +kernel
theorem dX8_writesNumber_20 : decode cX8_writesNumber 20 = .ok (.getfield 225, 3) := by decide +kernel
theorem dX8_writesNumber_23 : decode cX8_writesNumber 23 = .ok (.dup_x1, 1) := by decide +kernel
theorem dX8_writesNumber_24 : decode cX8_writesNumber 24 = .ok (.iconst 1, 1) := by decide +kernel
theorem dX8_writesNumber_25 : decode cX8_writesNumber 25 = .ok (.iadd, 1) := by decide +kernel
theorem dX8_writesNumber_26 : decode cX8_writesNumber 26 = .ok (.putfield 225, 3) := by decide +kernel
theorem dX8_writesNumber_29 : decode cX8_writesNumber 29 = .ok (.bipush 48, 2) := by decide +kernel
theorem dX8_writesNumber_31 : decode cX8_writesNumber 31 = .ok (.iload_n 1, 1) := by decide +kernel
theorem dX8_writesNumber_32 : decode cX8_writesNumber 32 = .ok (.bipush 10, 2) := by decide +kernel
theorem dX8_writesNumber_34 : decode cX8_writesNumber 34 = .ok (.irem, 1) := by decide +kernel
theorem dX8_writesNumber_35 : decode cX8_writesNumber 35 = .ok (.iadd, 1) := by decide +kernel
theorem dX8_writesNumber_36 : decode cX8_writesNumber 36 = .ok (.iastore, 1) := by decide +kernel
theorem dX8_writesNumber_37 : decode cX8_writesNumber 37 = .ok (.return_, 1) := by decide +kernel
theorem dX8_describe_0 : decode cX8_describe 0 = .ok (.aload_n 0, 1) := by decide +kernel
theorem dX8_describe_1 : decode cX8_describe 1 = .ok (.iload_n 1, 1) := by decide +kernel
theorem dX8_describe_2 : decode cX8_describe 2 = .ok (.invokevirtual 90, 3) := by decide +kernel
theorem dX8_describe_5 : decode cX8_describe 5 = .ok (.ifCond .ne 5, 3) := by decide +kernel
theorem dX8_describe_8 : decode cX8_describe 8 = .ok (.iconst (-1), 1) := by decide +kernel
theorem dX8_describe_9 : decode cX8_describe 9 = .ok (.ireturn, 1) := by decide +kernel
theorem dX8_describe_10 : decode cX8_describe 10 = .ok (.aload_n 0, 1) := by decide +kernel
theorem dX8_describe_11 : decode cX8_describe 11 = .ok (.iconst 0, 1) := by decide +kernel
theorem dX8_describe_12 : decode cX8_describe 12 = .ok (.putfield 225, 3) := by decide +kernel
theorem dX8_describe_15 : decode cX8_describe 15 = .ok (.aload_n 0, 1) := by decide +kernel
theorem dX8_describe_16 : decode cX8_describe 16 = .ok (.aload_n 0, 1) := by decide +kernel
theorem dX8_describe_17 : decode cX8_describe 17 = .ok (.iload_n 1, 1) := by decide +kernel
theorem dX8_describe_18 : decode cX8_describe 18 = .ok (.iconst 0, 1) := by decide +kernel
theorem dX8_describe_19 : decode cX8_describe 19 = .ok (.invokevirtual 69, 3) := by decide +kernel
theorem dX8_describe_22 : decode cX8_describe 22 = .ok (.invokevirtual 232, 3) := by decide +kernel
theorem dX8_describe_25 : decode cX8_describe 25 = .ok (.aload_n 0, 1) := by decide +kernel
theorem dX8_describe_26 : decode cX8_describe 26 = .ok (.ldc 236, 2) := by decide +kernel
theorem dX8_describe_28 : decode cX8_describe 28 = .ok (.invokevirtual 238, 3) := by decide +kernel
theorem dX8_describe_31 : decode cX8_describe 31 = .ok (.aload_n 0, 1) := by decide +kernel
theorem dX8_describe_32 : decode cX8_describe 32 = .ok (.aload_n 0, 1) := by decide +kernel
theorem dX8_describe_33 : decode cX8_describe 33 = .ok (.iload_n 1, 1) := by decide +kernel
theorem dX8_describe_34 : decode cX8_describe 34 = .ok (.iconst 1, 1) := by decide +kernel
theorem dX8_describe_35 : decode cX8_describe 35 = .ok (.invokevirtual 69, 3) := by decide +kernel
theorem dX8_describe_38 : decode cX8_describe 38 = .ok (.invokevirtual 232, 3) := by decide +kernel
theorem dX8_describe_41 : decode cX8_describe 41 = .ok (.aload_n 0, 1) := by decide +kernel
theorem dX8_describe_42 : decode cX8_describe 42 = .ok (.aload_n 0, 1) := by decide +kernel
theorem dX8_describe_43 : decode cX8_describe 43 = .ok (.iload_n 1, 1) := by decide +kernel
theorem dX8_describe_44 : decode cX8_describe 44 = .ok (.iconst 2, 1) := by decide +kernel
theorem dX8_describe_45 : decode cX8_describe 45 = .ok (.invokevirtual 69, 3) := by decide +kernel
theorem dX8_describe_48 : decode cX8_describe 48 = .ok (.ifCond .ne 8, 3) := by decide +kernel
theorem dX8_describe_51 : decode cX8_describe 51 = .ok (.ldc 242, 2) := by decide +kernel
theorem dX8_describe_53 : decode cX8_describe 53 = .ok (.goto 5, 3) := by decide +kernel
theorem dX8_describe_56 : decode cX8_describe 56 = .ok (.ldc 244, 2) := by decide +kernel
theorem dX8_describe_58 : decode cX8_describe 58 = .ok (.invokevirtual 238, 3) := by decide +kernel
theorem dX8_describe_61 : decode cX8_describe 61 = .ok (.aload_n 0, 1) := by decide +kernel
theorem dX8_describe_62 : decode cX8_describe 62 = .ok (.iload_n 1, 1) := by decide +kernel
theorem dX8_describe_63 : decode cX8_describe 63 = .ok (.iconst 2, 1) := by decide +kernel
theorem dX8_describe_64 : decode cX8_describe 64 = .ok (.invokevirtual 69, 3) := by decide +kernel
theorem dX8_describe_67 : decode cX8_describe 67 = .ok (.ifCond .le 13, 3) := by decide +kernel
theorem dX8_describe_70 : decode cX8_describe 70 = .ok (.aload_n 0, 1) := by decide +kernel
theorem dX8_describe_71 : decode cX8_describe 71 = .ok (.aload_n 0, 1) := by decide +kernel
theorem dX8_describe_72 : decode cX8_describe 72 = .ok (.iload_n 1, 1) := by decide +kernel
theorem dX8_describe_73 : decode cX8_describe 73 = .ok (.iconst 2, 1) := by decide +kernel
theorem dX8_describe_74 : decode cX8_describe 74 = .ok (.invokevirtual 69, 3) := by decide +kernel
theorem dX8_describe_77 : decode cX8_describe 77 = .ok (.invokevirtual 232, 3) := by decide +kernel
theorem dX8_describe_80 : decode cX8_describe 80 = .ok (.aload_n 0, 1) := by decide +kernel
theorem dX8_describe_81 : decode cX8_describe 81 = .ok (.iload_n 1, 1) := by decide +kernel
theorem dX8_describe_82 : decode cX8_describe 82 = .ok (.iconst 4, 1) := by decide +kernel
theorem dX8_describe_83 : decode cX8_describe 83 = .ok (.invokevirtual 69, 3) := by decide +kernel
theorem dX8_describe_86 : decode cX8_describe 86 = .ok (.ifCond .le 19, 3) := by decide +kernel
theorem dX8_describe_89 : decode cX8_describe 89 = .ok (.aload_n 0, 1) := by decide +kernel
theorem dX8_describe_90 : decode cX8_describe 90 = .ok (.ldc 246, 2) := by decide +kernel
theorem dX8_describe_92 : decode cX8_describe 92 = .ok (.invokevirtual 238, 3) := by decide +kernel
theorem dX8_describe_95 : decode cX8_describe 95 = .ok (.aload_n 0, 1) := by decide +kernel
theorem dX8_describe_96 : decode cX8_describe 96 = .ok (.aload_n 0, 1) := by decide +kernel
theorem dX8_describe_97 : decode cX8_describe 97 = .ok (.iload_n 1, 1) := by decide +kernel
theorem dX8_describe_98 : decode cX8_describe 98 = .ok (.iconst 4, 1) := by decide +kernel
theorem dX8_describe_99 : decode cX8_describe 99 = .ok (.invokevirtual 69, 3) := by decide +kernel
theorem dX8_describe_102 : decode cX8_describe 102 = .ok (.invokevirtual 232, 3) := by decide +kernel
theorem dX8_describe_105 : decode cX8_describe 105 = .ok (.iconst 0, 1) := by decide +kernel
theorem dX8_describe_106 : decode cX8_describe 106 = .ok (.istore_n 2, 1) := by decide +kernel
theorem dX8_describe_107 : decode cX8_describe 107 = .ok (.iload_n 2, 1) := by decide +kernel
theorem dX8_describe_108 : decode cX8_describe 108 = .ok (.aload_n 0, 1) := by decide +kernel
theorem dX8_describe_109 : decode cX8_describe 109 = .ok (.iload_n 1, 1) := by decide +kernel
theorem dX8_describe_110 : decode cX8_describe 110 = .ok (.iconst 1, 1) := by decide +kernel
theorem dX8_describe_111 : decode cX8_describe 111 = .ok (.invokevirtual 207, 3) := by decide +kernel
theorem dX8_describe_114 : decode cX8_describe 114 = .ok (.if_icmp .ge 42, 3) := by decide +kernel
theorem dX8_describe_117 : decode cX8_describe 117 = .ok (.aload_n 0, 1) := by decide +kernel
theorem dX8_describe_118 : decode cX8_describe 118 = .ok (.iload_n 1, 1) := by decide +kernel
theorem dX8_describe_119 : decode cX8_describe 119 = .ok (.iload_n 2, 1) := by decide +kernel
theorem dX8_describe_120 : decode cX8_describe 120 = .ok (.invokevirtual 214, 3) := by decide +kernel
theorem dX8_describe_123 : decode cX8_describe 123 = .ok (.istore_n 3, 1) := by decide +kernel
theorem dX8_describe_124 : decode cX8_describe 124 = .ok (.aload_n 0, 1) := by decide +kernel
theorem dX8_describe_125 : decode cX8_describe 125 = .ok (.ldc 248, 2) := by decide +kernel
theorem dX8_describe_127 : decode cX8_describe 127 = .ok (.invokevirtual 238, 3) := by decide +kernel
theorem dX8_describe_130 : decode cX8_describe 130 = .ok (.aload_n 0, 1) := by decide +kernel
theorem dX8_describe_131 : decode cX8_describe 131 = .ok (.iload_n 3, 1) := by decide +kernel
theorem dX8_describe_132 : decode cX8_describe 132 = .ok (.invokevirtual 232, 3) := by decide +kernel
theorem dX8_describe_135 : decode cX8_describe 135 = .ok (.aload_n 0, 1) := by decide +kernel
theorem dX8_describe_136 : decode cX8_describe 136 = .ok (.ldc 250, 2) := by decide +kernel
theorem dX8_describe_138 : decode cX8_describe 138 = .ok (.invokevirtual 238, 3) := by decide +kernel
theorem dX8_describe_141 : decode cX8_describe 141 = .ok (.aload_n 0, 1) := by decide +kernel
theorem dX8_describe_142 : decode cX8_describe 142 = .ok (.aload_n 0, 1) := by decide +kernel
theorem dX8_describe_143 : decode cX8_describe 143 = .ok (.iload_n 3, 1) := by decide +kernel
theorem dX8_describe_144 : decode cX8_describe 144 = .ok (.invokevirtual 135, 3) := by decide +kernel
theorem dX8_describe_147 : decode cX8_describe 147 = .ok (.invokevirtual 232, 3) := by decide +kernel
theorem dX8_describe_150 : decode cX8_describe 150 = .ok (.iinc 2 1, 3) := by decide +kernel
theorem dX8_describe_153 : decode cX8_describe 153 = .ok (.goto (-46), 3) := by decide +kernel
theorem dX8_describe_156 : decode cX8_describe 156 = .ok (.aload_n 0, 1) := by decide +kernel
theorem dX8_describe_157 : decode cX8_describe 157 = .ok (.getfield 225, 3) := by decide +kernel
theorem dX8_describe_160 : decode cX8_describe 160 = .ok (.ireturn, 1) := by decide +kernel
theorem dX8_written_0 : decode cX8_written 0 = .ok (.iload_n 1, 1) := by decide +kernel
theorem dX8_written_1 : decode cX8_written 1 = .ok (.iconst 0, 1) := by decide +kernel
theorem dX8_written_2 : decode cX8_written 2 = .ok (.aload_n 0, 1) := by decide +kernel
theorem dX8_written_3 : decode cX8_written 3 = .ok (.getfield 225, 3) := by decide +kernel
theorem dX8_written_6 : decode cX8_written 6 = .ok (.iconst 1, 1) := by decide +kernel
theorem dX8_written_7 : decode cX8_written 7 = .ok (.isub, 1) := by decide +kernel
theorem dX8_written_8 : decode cX8_written 8 = .ok (.invokestatic 55, 3) := by decide +kernel
theorem dX8_written_11 : decode cX8_written 11 = .ok (.ifCond .eq 12, 3) := by decide +kernel
theorem dX8_written_14 : decode cX8_written 14 = .ok (.aload_n 0, 1) := by decide +kernel
theorem dX8_written_15 : decode cX8_written 15 = .ok (.getfield 22, 3) := by decide +kernel
theorem dX8_written_18 : decode cX8_written 18 = .ok (.iload_n 1, 1) := by decide +kernel
theorem dX8_written_19 : decode cX8_written 19 = .ok (.iaload, 1) := by decide +kernel
theorem dX8_written_20 : decode cX8_written 20 = .ok (.goto 4, 3) := by decide +kernel
theorem dX8_written_23 : decode cX8_written 23 = .ok (.iconst (-1), 1) := by decide +kernel
theorem dX8_written_24 : decode cX8_written 24 = .ok (.ireturn, 1) := by decide +kernel
theorem dX8_meanWet_0 : decode cX8_meanWet 0 = .ok (.aload_n 0, 1) := by decide +kernel
theorem dX8_meanWet_1 : decode cX8_meanWet 1 = .ok (.getfield 9, 3) := by decide +kernel
theorem dX8_meanWet_4 : decode cX8_meanWet 4 = .ok (.iconst 3, 1) := by decide +kernel
theorem dX8_meanWet_5 : decode cX8_meanWet 5 = .ok (.iaload, 1) := by decide +kernel
theorem dX8_meanWet_6 : decode cX8_meanWet 6 = .ok (.istore_n 1, 1) := by decide +kernel
theorem dX8_meanWet_7 : decode cX8_meanWet 7 = .ok (.iload_n 1, 1) := by decide +kernel
theorem dX8_meanWet_8 : decode cX8_meanWet 8 = .ok (.ifCond .ne 5, 3) := by decide +kernel
theorem dX8_meanWet_11 : decode cX8_meanWet 11 = .ok (.fconst 0, 1) := by decide +kernel
theorem dX8_meanWet_12 : decode cX8_meanWet 12 = .ok (.freturn, 1) := by decide +kernel
theorem dX8_meanWet_13 : decode cX8_meanWet 13 = .ok (.iconst 0, 1) := by decide +kernel
theorem dX8_meanWet_14 : decode cX8_meanWet 14 = .ok (.istore_n 2, 1) := by decide +kernel
theorem dX8_meanWet_15 : decode cX8_meanWet 15 = .ok (.iconst 0, 1) := by decide +kernel
theorem dX8_meanWet_16 : decode cX8_meanWet 16 = .ok (.istore_n 3, 1) := by decide +kernel
theorem dX8_meanWet_17 : decode cX8_meanWet 17 = .ok (.iload_n 3, 1) := by decide +kernel
theorem dX8_meanWet_18 : decode cX8_meanWet 18 = .ok (.iload_n 1, 1) := by decide +kernel
theorem dX8_meanWet_19 : decode cX8_meanWet 19 = .ok (.if_icmp .ge 18, 3) := by decide +kernel
theorem dX8_meanWet_22 : decode cX8_meanWet 22 = .ok (.iload_n 2, 1) := by decide +kernel
theorem dX8_meanWet_23 : decode cX8_meanWet 23 = .ok (.aload_n 0, 1) := by decide +kernel
theorem dX8_meanWet_24 : decode cX8_meanWet 24 = .ok (.iload_n 3, 1) := by decide +kernel
theorem dX8_meanWet_25 : decode cX8_meanWet 25 = .ok (.iconst 2, 1) := by decide +kernel
theorem dX8_meanWet_26 : decode cX8_meanWet 26 = .ok (.invokevirtual 69, 3) := by decide +kernel
theorem dX8_meanWet_29 : decode cX8_meanWet 29 = .ok (.iadd, 1) := by decide +kernel
theorem dX8_meanWet_30 : decode cX8_meanWet 30 = .ok (.istore_n 2, 1) := by decide +kernel
theorem dX8_meanWet_31 : decode cX8_meanWet 31 = .ok (.iinc 3 1, 3) := by decide +kernel
theorem dX8_meanWet_34 : decode cX8_meanWet 34 = .ok (.goto (-17), 3) := by decide +kernel
theorem dX8_meanWet_37 : decode cX8_meanWet 37 = .ok (.iload_n 2, 1) := by decide +kernel
theorem dX8_meanWet_38 : decode cX8_meanWet 38 = .ok (.i2f, 1) := by decide +kernel
theorem dX8_meanWet_39 : decode cX8_meanWet 39 = .ok (.iload_n 1, 1) := by decide +kernel
theorem dX8_meanWet_40 : decode cX8_meanWet 40 = .ok (.i2f, 1) := by decide +kernel
theorem dX8_meanWet_41 : decode cX8_meanWet 41 = .ok (.fdiv, 1) := by decide +kernel
theorem dX8_meanWet_42 : decode cX8_meanWet 42 = .ok (.freturn, 1) := by decide +kernel
theorem dX8_closed_0 : decode cX8_closed 0 = .ok (.iconst 0, 1) := by decide +kernel
theorem dX8_closed_1 : decode cX8_closed 1 = .ok (.istore_n 1, 1) := by decide +kernel
theorem dX8_closed_2 : decode cX8_closed 2 = .ok (.iconst 0, 1) := by decide +kernel
theorem dX8_closed_3 : decode cX8_closed 3 = .ok (.istore_n 2, 1) := by decide +kernel
theorem dX8_closed_4 : decode cX8_closed 4 = .ok (.iload_n 2, 1) := by decide +kernel
theorem dX8_closed_5 : decode cX8_closed 5 = .ok (.aload_n 0, 1) := by decide +kernel
theorem dX8_closed_6 : decode cX8_closed 6 = .ok (.getfield 9, 3) := by decide +kernel
theorem dX8_closed_9 : decode cX8_closed 9 = .ok (.iconst 3, 1) := by decide +kernel
theorem dX8_closed_10 : decode cX8_closed 10 = .ok (.iaload, 1) := by decide +kernel
theorem dX8_closed_11 : decode cX8_closed 11 = .ok (.if_icmp .ge 19, 3) := by decide +kernel
theorem dX8_closed_14 : decode cX8_closed 14 = .ok (.iload_n 1, 1) := by decide +kernel
theorem dX8_closed_15 : decode cX8_closed 15 = .ok (.aload_n 0, 1) := by decide +kernel
theorem dX8_closed_16 : decode cX8_closed 16 = .ok (.iload_n 2, 1) := by decide +kernel
theorem dX8_closed_17 : decode cX8_closed 17 = .ok (.bipush 9, 2) := by decide +kernel
theorem dX8_closed_19 : decode cX8_closed 19 = .ok (.invokevirtual 69, 3) := by decide +kernel
theorem dX8_closed_22 : decode cX8_closed 22 = .ok (.iadd, 1) := by decide +kernel
theorem dX8_closed_23 : decode cX8_closed 23 = .ok (.istore_n 1, 1) := by decide +kernel
theorem dX8_closed_24 : decode cX8_closed 24 = .ok (.iinc 2 1, 3) := by decide +kernel
theorem dX8_closed_27 : decode cX8_closed 27 = .ok (.goto (-23), 3) := by decide +kernel
theorem dX8_closed_30 : decode cX8_closed 30 = .ok (.iload_n 1, 1) := by decide +kernel
theorem dX8_closed_31 : decode cX8_closed 31 = .ok (.ireturn, 1) := by decide +kernel
theorem dX8_winShare_0 : decode cX8_winShare 0 = .ok (.aload_n 0, 1) := by decide +kernel
theorem dX8_winShare_1 : decode cX8_winShare 1 = .ok (.invokevirtual 252, 3) := by decide +kernel
theorem dX8_winShare_4 : decode cX8_winShare 4 = .ok (.istore_n 1, 1) := by decide +kernel
theorem dX8_winShare_5 : decode cX8_winShare 5 = .ok (.iload_n 1, 1) := by decide +kernel
theorem dX8_winShare_6 : decode cX8_winShare 6 = .ok (.ifCond .ne 7, 3) := by decide +kernel
theorem dX8_winShare_9 : decode cX8_winShare 9 = .ok (.dconst 0, 1) := by decide +kernel
theorem dX8_winShare_10 : decode cX8_winShare 10 = .ok (.goto 22, 3) := by decide +kernel
theorem dX8_winShare_13 : decode cX8_winShare 13 = .ok (.aload_n 0, 1) := by decide +kernel
theorem dX8_winShare_14 : decode cX8_winShare 14 = .ok (.getfield 9, 3) := by decide +kernel
theorem dX8_winShare_17 : decode cX8_winShare 17 = .ok (.bipush 10, 2) := by decide +kernel
theorem dX8_winShare_19 : decode cX8_winShare 19 = .ok (.iaload, 1) := by decide +kernel
theorem dX8_winShare_20 : decode cX8_winShare 20 = .ok (.aload_n 0, 1) := by decide +kernel
theorem dX8_winShare_21 : decode cX8_winShare 21 = .ok (.getfield 9, 3) := by decide +kernel
theorem dX8_winShare_24 : decode cX8_winShare 24 = .ok (.bipush 14, 2) := by decide +kernel
theorem dX8_winShare_26 : decode cX8_winShare 26 = .ok (.iaload, 1) := by decide +kernel
theorem dX8_winShare_27 : decode cX8_winShare 27 = .ok (.iadd, 1) := by decide +kernel
theorem dX8_winShare_28 : decode cX8_winShare 28 = .ok (.i2d, 1) := by decide +kernel
theorem dX8_winShare_29 : decode cX8_winShare 29 = .ok (.iload_n 1, 1) := by decide +kernel
theorem dX8_winShare_30 : decode cX8_winShare 30 = .ok (.i2d, 1) := by decide +kernel
theorem dX8_winShare_31 : decode cX8_winShare 31 = .ok (.ddiv, 1) := by decide +kernel
theorem dX8_winShare_32 : decode cX8_winShare 32 = .ok (.dreturn, 1) := by decide +kernel
theorem dX8_account_0 : decode cX8_account 0 = .ok (.iconst 0, 1) := by decide +kernel
theorem dX8_account_1 : decode cX8_account 1 = .ok (.istore_n 2, 1) := by decide +kernel
theorem dX8_account_2 : decode cX8_account 2 = .ok (.iload_n 1, 1) := by decide +kernel
theorem dX8_account_3 : decode cX8_account 3 = .ok (.tableswitch 177 0 14 #[73, 73, 73, 73, 73, 80, 112, 117, 124, 132, 140, 145, 153, 167, 172], 73) := by decide +kernel
theorem dX8_account_76 : decode cX8_account 76 = .ok (.aload_n 0, 1) := by decide +kernel
theorem dX8_account_77 : decode cX8_account 77 = .ok (.getfield 9, 3) := by decide +kernel
theorem dX8_account_80 : decode cX8_account 80 = .ok (.iload_n 1, 1) := by decide +kernel
theorem dX8_account_81 : decode cX8_account 81 = .ok (.iaload, 1) := by decide +kernel
theorem dX8_account_82 : decode cX8_account 82 = .ok (.ireturn, 1) := by decide +kernel
theorem dX8_account_83 : decode cX8_account 83 = .ok (.iconst 0, 1) := by decide +kernel
theorem dX8_account_84 : decode cX8_account 84 = .ok (.istore_n 3, 1) := by decide +kernel
theorem dX8_account_85 : decode cX8_account 85 = .ok (.iload_n 3, 1) := by decide +kernel
theorem dX8_account_86 : decode cX8_account 86 = .ok (.aload_n 0, 1) := by decide +kernel
theorem dX8_account_87 : decode cX8_account 87 = .ok (.getfield 9, 3) := by decide +kernel
theorem dX8_account_90 : decode cX8_account 90 = .ok (.iconst 3, 1) := by decide +kernel
theorem dX8_account_91 : decode cX8_account 91 = .ok (.iaload, 1) := by decide +kernel
theorem dX8_account_92 : decode cX8_account 92 = .ok (.if_icmp .ge 21, 3) := by decide +kernel
theorem dX8_account_95 : decode cX8_account 95 = .ok (.aload_n 0, 1) := by decide +kernel
theorem dX8_account_96 : decode cX8_account 96 = .ok (.iload_n 3, 1) := by decide +kernel
theorem dX8_account_97 : decode cX8_account 97 = .ok (.iconst 4, 1) := by decide +kernel
theorem dX8_account_98 : decode cX8_account 98 = .ok (.invokevirtual 69, 3) := by decide +kernel
theorem dX8_account_101 : decode cX8_account 101 = .ok (.ifCond .le 6, 3) := by decide +kernel
theorem dX8_account_104 : decode cX8_account 104 = .ok (.iinc 2 1, 3) := by decide +kernel
theorem dX8_account_107 : decode cX8_account 107 = .ok (.iinc 3 1, 3) := by decide +kernel
theorem dX8_account_110 : decode cX8_account 110 = .ok (.goto (-25), 3) := by decide +kernel
theorem dX8_account_113 : decode cX8_account 113 = .ok (.iload_n 2, 1) := by decide +kernel
theorem dX8_account_114 : decode cX8_account 114 = .ok (.ireturn, 1) := by decide +kernel
theorem dX8_account_115 : decode cX8_account 115 = .ok (.aload_n 0, 1) := by decide +kernel
theorem dX8_account_116 : decode cX8_account 116 = .ok (.invokevirtual 252, 3) := by decide +kernel
theorem dX8_account_119 : decode cX8_account 119 = .ok (.ireturn, 1) := by decide +kernel
theorem dX8_account_120 : decode cX8_account 120 = .ok (.aload_n 0, 1) := by decide +kernel
theorem dX8_account_121 : decode cX8_account 121 = .ok (.getfield 9, 3) := by decide +kernel
theorem dX8_account_124 : decode cX8_account 124 = .ok (.iconst 5, 1) := by decide +kernel
theorem dX8_account_125 : decode cX8_account 125 = .ok (.iaload, 1) := by decide +kernel
theorem dX8_account_126 : decode cX8_account 126 = .ok (.ireturn, 1) := by decide +kernel
theorem dX8_account_127 : decode cX8_account 127 = .ok (.aload_n 0, 1) := by decide +kernel
theorem dX8_account_128 : decode cX8_account 128 = .ok (.getfield 9, 3) := by decide +kernel
theorem dX8_account_131 : decode cX8_account 131 = .ok (.bipush 6, 2) := by decide +kernel
theorem dX8_account_133 : decode cX8_account 133 = .ok (.iaload, 1) := by decide +kernel
theorem dX8_account_134 : decode cX8_account 134 = .ok (.ireturn, 1) := by decide +kernel
theorem dX8_account_135 : decode cX8_account 135 = .ok (.aload_n 0, 1) := by decide +kernel
theorem dX8_account_136 : decode cX8_account 136 = .ok (.getfield 9, 3) := by decide +kernel
theorem dX8_account_139 : decode cX8_account 139 = .ok (.bipush 7, 2) := by decide +kernel
theorem dX8_account_141 : decode cX8_account 141 = .ok (.iaload, 1) := by decide +kernel
theorem dX8_account_142 : decode cX8_account 142 = .ok (.ireturn, 1) := by decide +kernel
theorem dX8_account_143 : decode cX8_account 143 = .ok (.aload_n 0, 1) := by decide +kernel
theorem dX8_account_144 : decode cX8_account 144 = .ok (.invokevirtual 169, 3) := by decide +kernel
theorem dX8_account_147 : decode cX8_account 147 = .ok (.ireturn, 1) := by decide +kernel
theorem dX8_account_148 : decode cX8_account 148 = .ok (.aload_n 0, 1) := by decide +kernel
theorem dX8_account_149 : decode cX8_account 149 = .ok (.getfield 9, 3) := by decide +kernel
theorem dX8_account_152 : decode cX8_account 152 = .ok (.bipush 8, 2) := by decide +kernel
theorem dX8_account_154 : decode cX8_account 154 = .ok (.iaload, 1) := by decide +kernel
theorem dX8_account_155 : decode cX8_account 155 = .ok (.ireturn, 1) := by decide +kernel
theorem dX8_account_156 : decode cX8_account 156 = .ok (.aload_n 0, 1) := by decide +kernel
theorem dX8_account_157 : decode cX8_account 157 = .ok (.iconst 0, 1) := by decide +kernel
theorem dX8_account_158 : decode cX8_account 158 = .ok (.iconst 1, 1) := by decide +kernel
theorem dX8_account_159 : decode cX8_account 159 = .ok (.invokevirtual 210, 3) := by decide +kernel
theorem dX8_account_162 : decode cX8_account 162 = .ok (.aload_n 0, 1) := by decide +kernel
theorem dX8_account_163 : decode cX8_account 163 = .ok (.iconst 1, 1) := by decide +kernel
theorem dX8_account_164 : decode cX8_account 164 = .ok (.iconst 1, 1) := by decide +kernel
theorem dX8_account_165 : decode cX8_account 165 = .ok (.invokevirtual 210, 3) := by decide +kernel
theorem dX8_account_168 : decode cX8_account 168 = .ok (.iadd, 1) := by decide +kernel
theorem dX8_account_169 : decode cX8_account 169 = .ok (.ireturn, 1) := by decide +kernel
theorem dX8_account_170 : decode cX8_account 170 = .ok (.aload_n 0, 1) := by decide +kernel
theorem dX8_account_171 : decode cX8_account 171 = .ok (.getfield 59, 3) := by decide +kernel
theorem dX8_account_174 : decode cX8_account 174 = .ok (.ireturn, 1) := by decide +kernel
theorem dX8_account_175 : decode cX8_account 175 = .ok (.aload_n 0, 1) := by decide +kernel
theorem dX8_account_176 : decode cX8_account 176 = .ok (.getfield 42, 3) := by decide +kernel
theorem dX8_account_179 : decode cX8_account 179 = .ok (.ireturn, 1) := by decide +kernel
theorem dX8_account_180 : decode cX8_account 180 = .ok (.bipush (-2), 2) := by decide +kernel
theorem dX8_account_182 : decode cX8_account 182 = .ok (.ireturn, 1) := by decide +kernel
theorem dX8_undo_0 : decode cX8_undo 0 = .ok (.aload_n 0, 1) := by decide +kernel
theorem dX8_undo_1 : decode cX8_undo 1 = .ok (.getfield 42, 3) := by decide +kernel
theorem dX8_undo_4 : decode cX8_undo 4 = .ok (.ifCond .ne 6, 3) := by decide +kernel
theorem dX8_undo_7 : decode cX8_undo 7 = .ok (.bipush (-4), 2) := by decide +kernel
theorem dX8_undo_9 : decode cX8_undo 9 = .ok (.ireturn, 1) := by decide +kernel
theorem dX8_undo_10 : decode cX8_undo 10 = .ok (.aload_n 0, 1) := by decide +kernel
theorem dX8_undo_11 : decode cX8_undo 11 = .ok (.dup, 1) := by decide +kernel
theorem dX8_undo_12 : decode cX8_undo 12 = .ok (.getfield 42, 3) := by decide +kernel
theorem dX8_undo_15 : decode cX8_undo 15 = .ok (.iconst 1, 1) := by decide +kernel
theorem dX8_undo_16 : decode cX8_undo 16 = .ok (.isub, 1) := by decide +kernel
theorem dX8_undo_17 : decode cX8_undo 17 = .ok (.putfield 42, 3) := by decide +kernel
theorem dX8_undo_20 : decode cX8_undo 20 = .ok (.iconst 0, 1) := by decide +kernel
theorem dX8_undo_21 : decode cX8_undo 21 = .ok (.istore_n 1, 1) := by decide +kernel
theorem dX8_undo_22 : decode cX8_undo 22 = .ok (.iload_n 1, 1) := by decide +kernel
theorem dX8_undo_23 : decode cX8_undo 23 = .ok (.sipush 169, 3) := by decide +kernel
theorem dX8_undo_26 : decode cX8_undo 26 = .ok (.if_icmp .ge 30, 3) := by decide +kernel
theorem dX8_undo_29 : decode cX8_undo 29 = .ok (.aload_n 0, 1) := by decide +kernel
theorem dX8_undo_30 : decode cX8_undo 30 = .ok (.getfield 9, 3) := by decide +kernel
theorem dX8_undo_33 : decode cX8_undo 33 = .ok (.iload_n 1, 1) := by decide +kernel
theorem dX8_undo_34 : decode cX8_undo 34 = .ok (.aload_n 0, 1) := by decide +kernel
theorem dX8_undo_35 : decode cX8_undo 35 = .ok (.getfield 16, 3) := by decide +kernel
theorem dX8_undo_38 : decode cX8_undo 38 = .ok (.sipush 169, 3) := by decide +kernel
theorem dX8_undo_41 : decode cX8_undo 41 = .ok (.aload_n 0, 1) := by decide +kernel
theorem dX8_undo_42 : decode cX8_undo 42 = .ok (.getfield 42, 3) := by decide +kernel
theorem dX8_undo_45 : decode cX8_undo 45 = .ok (.imul, 1) := by decide +kernel
theorem dX8_undo_46 : decode cX8_undo 46 = .ok (.iload_n 1, 1) := by decide +kernel
theorem dX8_undo_47 : decode cX8_undo 47 = .ok (.iadd, 1) := by decide +kernel
theorem dX8_undo_48 : decode cX8_undo 48 = .ok (.iaload, 1) := by decide +kernel
theorem dX8_undo_49 : decode cX8_undo 49 = .ok (.iastore, 1) := by decide +kernel
theorem dX8_undo_50 : decode cX8_undo 50 = .ok (.iinc 1 1, 3) := by decide +kernel
theorem dX8_undo_53 : decode cX8_undo 53 = .ok (.goto (-31), 3) := by decide +kernel
theorem dX8_undo_56 : decode cX8_undo 56 = .ok (.aload_n 0, 1) := by decide +kernel
theorem dX8_undo_57 : decode cX8_undo 57 = .ok (.getfield 42, 3) := by decide +kernel
theorem dX8_undo_60 : decode cX8_undo 60 = .ok (.ireturn, 1) := by decide +kernel
theorem dX8_save_0 : decode cX8_save 0 = .ok (.aload_n 0, 1) := by decide +kernel
theorem dX8_save_1 : decode cX8_save 1 = .ok (.iconst 1, 1) := by decide +kernel
theorem dX8_save_2 : decode cX8_save 2 = .ok (.putfield 255, 3) := by decide +kernel
theorem dX8_save_5 : decode cX8_save 5 = .ok (.iconst 0, 1) := by decide +kernel
theorem dX8_save_6 : decode cX8_save 6 = .ok (.istore_n 1, 1) := by decide +kernel
theorem dX8_save_7 : decode cX8_save 7 = .ok (.iload_n 1, 1) := by decide +kernel
theorem dX8_save_8 : decode cX8_save 8 = .ok (.sipush 169, 3) := by decide +kernel
theorem dX8_save_11 : decode cX8_save 11 = .ok (.if_icmp .ge 21, 3) := by decide +kernel
theorem dX8_save_14 : decode cX8_save 14 = .ok (.aload_n 0, 1) := by decide +kernel
theorem dX8_save_15 : decode cX8_save 15 = .ok (.getfield 19, 3) := by decide +kernel
theorem dX8_save_18 : decode cX8_save 18 = .ok (.iload_n 1, 1) := by decide +kernel
theorem dX8_save_19 : decode cX8_save 19 = .ok (.aload_n 0, 1) := by decide +kernel
theorem dX8_save_20 : decode cX8_save 20 = .ok (.getfield 9, 3) := by decide +kernel
theorem dX8_save_23 : decode cX8_save 23 = .ok (.iload_n 1, 1) := by decide +kernel
theorem dX8_save_24 : decode cX8_save 24 = .ok (.iaload, 1) := by decide +kernel
theorem dX8_save_25 : decode cX8_save 25 = .ok (.iastore, 1) := by decide +kernel
theorem dX8_save_26 : decode cX8_save 26 = .ok (.iinc 1 1, 3) := by decide +kernel
theorem dX8_save_29 : decode cX8_save 29 = .ok (.goto (-22), 3) := by decide +kernel
theorem dX8_save_32 : decode cX8_save 32 = .ok (.aload_n 0, 1) := by decide +kernel
theorem dX8_save_33 : decode cX8_save 33 = .ok (.getfield 9, 3) := by decide +kernel
theorem dX8_save_36 : decode cX8_save 36 = .ok (.iconst 0, 1) := by decide +kernel
theorem dX8_save_37 : decode cX8_save 37 = .ok (.iaload, 1) := by decide +kernel
theorem dX8_save_38 : decode cX8_save 38 = .ok (.ireturn, 1) := by decide +kernel
theorem dX8_restore_0 : decode cX8_restore 0 = .ok (.aload_n 0, 1) := by decide +kernel
theorem dX8_restore_1 : decode cX8_restore 1 = .ok (.getfield 255, 3) := by decide +kernel
theorem dX8_restore_4 : decode cX8_restore 4 = .ok (.ifCond .ne 6, 3) := by decide +kernel
theorem dX8_restore_7 : decode cX8_restore 7 = .ok (.bipush (-4), 2) := by decide +kernel
theorem dX8_restore_9 : decode cX8_restore 9 = .ok (.ireturn, 1) := by decide +kernel
theorem dX8_restore_10 : decode cX8_restore 10 = .ok (.iconst 0, 1) := by decide +kernel
theorem dX8_restore_11 : decode cX8_restore 11 = .ok (.istore_n 1, 1) := by decide +kernel
theorem dX8_restore_12 : decode cX8_restore 12 = .ok (.iload_n 1, 1) := by decide +kernel
theorem dX8_restore_13 : decode cX8_restore 13 = .ok (.sipush 169, 3) := by decide +kernel
theorem dX8_restore_16 : decode cX8_restore 16 = .ok (.if_icmp .ge 21, 3) := by decide +kernel
theorem dX8_restore_19 : decode cX8_restore 19 = .ok (.aload_n 0, 1) := by decide +kernel
theorem dX8_restore_20 : decode cX8_restore 20 = .ok (.getfield 9, 3) := by decide +kernel
theorem dX8_restore_23 : decode cX8_restore 23 = .ok (.iload_n 1, 1) := by decide +kernel
theorem dX8_restore_24 : decode cX8_restore 24 = .ok (.aload_n 0, 1) := by decide +kernel
theorem dX8_restore_25 : decode cX8_restore 25 = .ok (.getfield 19, 3) := by decide +kernel
theorem dX8_restore_28 : decode cX8_restore 28 = .ok (.iload_n 1, 1) := by decide +kernel
theorem dX8_restore_29 : decode cX8_restore 29 = .ok (.iaload, 1) := by decide +kernel
theorem dX8_restore_30 : decode cX8_restore 30 = .ok (.iastore, 1) := by decide +kernel
theorem dX8_restore_31 : decode cX8_restore 31 = .ok (.iinc 1 1, 3) := by decide +kernel
theorem dX8_restore_34 : decode cX8_restore 34 = .ok (.goto (-22), 3) := by decide +kernel
theorem dX8_restore_37 : decode cX8_restore 37 = .ok (.aload_n 0, 1) := by decide +kernel
theorem dX8_restore_38 : decode cX8_restore 38 = .ok (.iconst 0, 1) := by decide +kernel
theorem dX8_restore_39 : decode cX8_restore 39 = .ok (.putfield 42, 3) := by decide +kernel
theorem dX8_restore_42 : decode cX8_restore 42 = .ok (.aload_n 0, 1) := by decide +kernel
theorem dX8_restore_43 : decode cX8_restore 43 = .ok (.getfield 9, 3) := by decide +kernel
theorem dX8_restore_46 : decode cX8_restore 46 = .ok (.iconst 0, 1) := by decide +kernel
theorem dX8_restore_47 : decode cX8_restore 47 = .ok (.iaload, 1) := by decide +kernel
theorem dX8_restore_48 : decode cX8_restore 48 = .ok (.ireturn, 1) := by decide +kernel
theorem dJ5_init_d00df_0 : decode cJ5_init_d00df 0 = .ok (.aload_n 0, 1) := by decide +kernel
theorem dJ5_init_d00df_1 : decode cJ5_init_d00df 1 = .ok (.invokespecial 3, 3) := by decide +kernel
theorem dJ5_init_d00df_4 : decode cJ5_init_d00df 4 = .ok (.getstatic 18, 3) := by decide +kernel
theorem dJ5_init_d00df_7 : decode cJ5_init_d00df 7 = .ok (.ifCond .eq 18, 3) := by decide +kernel
theorem dJ5_init_d00df_10 : decode cJ5_init_d00df 10 = .ok (.aload_n 0, 1) := by decide +kernel
theorem dJ5_init_d00df_11 : decode cJ5_init_d00df 11 = .ok (.iload_n 1, 1) := by decide +kernel
theorem dJ5_init_d00df_12 : decode cJ5_init_d00df 12 = .ok (.newarray .byte, 2) := by decide +kernel
theorem dJ5_init_d00df_14 : decode cJ5_init_d00df 14 = .ok (.putfield 15, 3) := by decide +kernel
theorem dJ5_init_d00df_17 : decode cJ5_init_d00df 17 = .ok (.aload_n 0, 1) := by decide +kernel
theorem dJ5_init_d00df_18 : decode cJ5_init_d00df 18 = .ok (.iconst 0, 1) := by decide +kernel
theorem dJ5_init_d00df_19 : decode cJ5_init_d00df 19 = .ok (.putfield 22, 3) := by decide +kernel
theorem dJ5_init_d00df_22 : decode cJ5_init_d00df 22 = .ok (.goto 16, 3) := by decide +kernel
theorem dJ5_init_d00df_25 : decode cJ5_init_d00df 25 = .ok (.aload_n 0, 1) := by decide +kernel
theorem dJ5_init_d00df_26 : decode cJ5_init_d00df 26 = .ok (.iload_n 1, 1) := by decide +kernel
theorem dJ5_init_d00df_27 : decode cJ5_init_d00df 27 = .ok (.invokestatic 26, 3) := by decide +kernel
theorem dJ5_init_d00df_30 : decode cJ5_init_d00df 30 = .ok (.putfield 15, 3) := by decide +kernel
theorem dJ5_init_d00df_33 : decode cJ5_init_d00df 33 = .ok (.aload_n 0, 1) := by decide +kernel
theorem dJ5_init_d00df_34 : decode cJ5_init_d00df 34 = .ok (.iconst 1, 1) := by decide +kernel
theorem dJ5_init_d00df_35 : decode cJ5_init_d00df 35 = .ok (.putfield 22, 3) := by decide +kernel
theorem dJ5_init_d00df_38 : decode cJ5_init_d00df 38 = .ok (.return_, 1) := by decide +kernel
theorem dJ5_length_8abf5_0 : decode cJ5_length_8abf5 0 = .ok (.aload_n 0, 1) := by decide +kernel
theorem dJ5_length_8abf5_1 : decode cJ5_length_8abf5 1 = .ok (.getfield 79, 3) := by decide +kernel
theorem dJ5_length_8abf5_4 : decode cJ5_length_8abf5 4 = .ok (.ireturn, 1) := by decide +kernel
theorem dJ5_ensureCapacityInternal_d00df_0 : decode cJ5_ensureCapacityInternal_d00df 0 = .ok (.aload_n 0, 1) := by decide +kernel
theorem dJ5_ensureCapacityInternal_d00df_1 : decode cJ5_ensureCapacityInternal_d00df 1 = .ok (.getfield 15, 3) := by decide +kernel
theorem dJ5_ensureCapacityInternal_d00df_4 : decode cJ5_ensureCapacityInternal_d00df 4 = .ok (.arraylength, 1) := by decide +kernel
theorem dJ5_ensureCapacityInternal_d00df_5 : decode cJ5_ensureCapacityInternal_d00df 5 = .ok (.aload_n 0, 1) := by decide +kernel
theorem dJ5_ensureCapacityInternal_d00df_6 : decode cJ5_ensureCapacityInternal_d00df 6 = .ok (.getfield 22, 3) := by decide +kernel
theorem dJ5_ensureCapacityInternal_d00df_9 : decode cJ5_ensureCapacityInternal_d00df 9 = .ok (.ishr, 1) := by decide +kernel
theorem dJ5_ensureCapacityInternal_d00df_10 : decode cJ5_ensureCapacityInternal_d00df 10 = .ok (.istore_n 2, 1) := by decide +kernel
theorem dJ5_ensureCapacityInternal_d00df_11 : decode cJ5_ensureCapacityInternal_d00df 11 = .ok (.iload_n 1, 1) := by decide +kernel
theorem dJ5_ensureCapacityInternal_d00df_12 : decode cJ5_ensureCapacityInternal_d00df 12 = .ok (.iload_n 2, 1) := by decide +kernel
theorem dJ5_ensureCapacityInternal_d00df_13 : decode cJ5_ensureCapacityInternal_d00df 13 = .ok (.isub, 1) := by decide +kernel
theorem dJ5_ensureCapacityInternal_d00df_14 : decode cJ5_ensureCapacityInternal_d00df 14 = .ok (.ifCond .le 24, 3) := by decide +kernel
theorem dJ5_ensureCapacityInternal_d00df_17 : decode cJ5_ensureCapacityInternal_d00df 17 = .ok (.aload_n 0, 1) := by decide +kernel
theorem dJ5_ensureCapacityInternal_d00df_18 : decode cJ5_ensureCapacityInternal_d00df 18 = .ok (.aload_n 0, 1) := by decide +kernel
theorem dJ5_ensureCapacityInternal_d00df_19 : decode cJ5_ensureCapacityInternal_d00df 19 = .ok (.getfield 15, 3) := by decide +kernel
theorem dJ5_ensureCapacityInternal_d00df_22 : decode cJ5_ensureCapacityInternal_d00df 22 = .ok (.aload_n 0, 1) := by decide +kernel
theorem dJ5_ensureCapacityInternal_d00df_23 : decode cJ5_ensureCapacityInternal_d00df 23 = .ok (.iload_n 1, 1) := by decide +kernel
theorem dJ5_ensureCapacityInternal_d00df_24 : decode cJ5_ensureCapacityInternal_d00df 24 = .ok (.invokevirtual 104, 3) := by decide +kernel
theorem dJ5_ensureCapacityInternal_d00df_27 : decode cJ5_ensureCapacityInternal_d00df 27 = .ok (.aload_n 0, 1) := by decide +kernel
theorem dJ5_ensureCapacityInternal_d00df_28 : decode cJ5_ensureCapacityInternal_d00df 28 = .ok (.getfield 22, 3) := by decide +kernel
theorem dJ5_ensureCapacityInternal_d00df_31 : decode cJ5_ensureCapacityInternal_d00df 31 = .ok (.ishl, 1) := by decide +kernel
theorem dJ5_ensureCapacityInternal_d00df_32 : decode cJ5_ensureCapacityInternal_d00df 32 = .ok (.invokestatic 108, 3) := by decide +kernel
theorem dJ5_ensureCapacityInternal_d00df_35 : decode cJ5_ensureCapacityInternal_d00df 35 = .ok (.putfield 15, 3) := by decide +kernel
theorem dJ5_ensureCapacityInternal_d00df_38 : decode cJ5_ensureCapacityInternal_d00df 38 = .ok (.return_, 1) := by decide +kernel
theorem dJ5_newCapacity_0f7a4_0 : decode cJ5_newCapacity_0f7a4 0 = .ok (.aload_n 0, 1) := by decide +kernel
theorem dJ5_newCapacity_0f7a4_1 : decode cJ5_newCapacity_0f7a4 1 = .ok (.getfield 15, 3) := by decide +kernel
theorem dJ5_newCapacity_0f7a4_4 : decode cJ5_newCapacity_0f7a4 4 = .ok (.arraylength, 1) := by decide +kernel
theorem dJ5_newCapacity_0f7a4_5 : decode cJ5_newCapacity_0f7a4 5 = .ok (.istore_n 2, 1) := by decide +kernel
theorem dJ5_newCapacity_0f7a4_6 : decode cJ5_newCapacity_0f7a4 6 = .ok (.iload_n 1, 1) := by decide +kernel
theorem dJ5_newCapacity_0f7a4_7 : decode cJ5_newCapacity_0f7a4 7 = .ok (.aload_n 0, 1) := by decide +kernel
theorem dJ5_newCapacity_0f7a4_8 : decode cJ5_newCapacity_0f7a4 8 = .ok (.getfield 22, 3) := by decide +kernel
theorem dJ5_newCapacity_0f7a4_11 : decode cJ5_newCapacity_0f7a4 11 = .ok (.ishl, 1) := by decide +kernel
theorem dJ5_newCapacity_0f7a4_12 : decode cJ5_newCapacity_0f7a4 12 = .ok (.istore_n 3, 1) := by decide +kernel
theorem dJ5_newCapacity_0f7a4_13 : decode cJ5_newCapacity_0f7a4 13 = .ok (.iload_n 3, 1) := by decide +kernel
theorem dJ5_newCapacity_0f7a4_14 : decode cJ5_newCapacity_0f7a4 14 = .ok (.iload_n 2, 1) := by decide +kernel
theorem dJ5_newCapacity_0f7a4_15 : decode cJ5_newCapacity_0f7a4 15 = .ok (.isub, 1) := by decide +kernel
theorem dJ5_newCapacity_0f7a4_16 : decode cJ5_newCapacity_0f7a4 16 = .ok (.istore 4, 2) := by decide +kernel
theorem dJ5_newCapacity_0f7a4_18 : decode cJ5_newCapacity_0f7a4 18 = .ok (.iload_n 2, 1) := by decide +kernel
theorem dJ5_newCapacity_0f7a4_19 : decode cJ5_newCapacity_0f7a4 19 = .ok (.iload 4, 2) := by decide +kernel
theorem dJ5_newCapacity_0f7a4_21 : decode cJ5_newCapacity_0f7a4 21 = .ok (.iload_n 2, 1) := by decide +kernel
theorem dJ5_newCapacity_0f7a4_22 : decode cJ5_newCapacity_0f7a4 22 = .ok (.iconst 2, 1) := by decide +kernel
theorem dJ5_newCapacity_0f7a4_23 : decode cJ5_newCapacity_0f7a4 23 = .ok (.aload_n 0, 1) := by decide +kernel
theorem dJ5_newCapacity_0f7a4_24 : decode cJ5_newCapacity_0f7a4 24 = .ok (.getfield 22, 3) := by decide +kernel
theorem dJ5_newCapacity_0f7a4_27 : decode cJ5_newCapacity_0f7a4 27 = .ok (.ishl, 1) := by decide +kernel
theorem dJ5_newCapacity_0f7a4_28 : decode cJ5_newCapacity_0f7a4 28 = .ok (.iadd, 1) := by decide +kernel
theorem dJ5_newCapacity_0f7a4_29 : decode cJ5_newCapacity_0f7a4 29 = .ok (.invokestatic 114, 3) := by decide +kernel
theorem dJ5_newCapacity_0f7a4_32 : decode cJ5_newCapacity_0f7a4 32 = .ok (.istore 5, 2) := by decide +kernel
theorem dJ5_newCapacity_0f7a4_34 : decode cJ5_newCapacity_0f7a4 34 = .ok (.iload 5, 2) := by decide +kernel
theorem dJ5_newCapacity_0f7a4_36 : decode cJ5_newCapacity_0f7a4 36 = .ok (.ldc 39, 2) := by decide +kernel
theorem dJ5_newCapacity_0f7a4_38 : decode cJ5_newCapacity_0f7a4 38 = .ok (.if_icmp .ne 13, 3) := by decide +kernel
theorem dJ5_newCapacity_0f7a4_41 : decode cJ5_newCapacity_0f7a4 41 = .ok (.new 120, 3) := by decide +kernel
theorem dJ5_newCapacity_0f7a4_44 : decode cJ5_newCapacity_0f7a4 44 = .ok (.dup, 1) := by decide +kernel
theorem dJ5_newCapacity_0f7a4_45 : decode cJ5_newCapacity_0f7a4 45 = .ok (.ldc 122, 2) := by decide +kernel
theorem dJ5_newCapacity_0f7a4_47 : decode cJ5_newCapacity_0f7a4 47 = .ok (.invokespecial 124, 3) := by decide +kernel
theorem dJ5_newCapacity_0f7a4_50 : decode cJ5_newCapacity_0f7a4 50 = .ok (.athrow, 1) := by decide +kernel
theorem dJ5_newCapacity_0f7a4_51 : decode cJ5_newCapacity_0f7a4 51 = .ok (.iload 5, 2) := by decide +kernel
theorem dJ5_newCapacity_0f7a4_53 : decode cJ5_newCapacity_0f7a4 53 = .ok (.aload_n 0, 1) := by decide +kernel
theorem dJ5_newCapacity_0f7a4_54 : decode cJ5_newCapacity_0f7a4 54 = .ok (.getfield 22, 3) := by decide +kernel
theorem dJ5_newCapacity_0f7a4_57 : decode cJ5_newCapacity_0f7a4 57 = .ok (.ishr, 1) := by decide +kernel
theorem dJ5_newCapacity_0f7a4_58 : decode cJ5_newCapacity_0f7a4 58 = .ok (.ireturn, 1) := by decide +kernel
theorem dJ5_inflate_da8c8_0 : decode cJ5_inflate_da8c8 0 = .ok (.aload_n 0, 1) := by decide +kernel
theorem dJ5_inflate_da8c8_1 : decode cJ5_inflate_da8c8 1 = .ok (.invokevirtual 83, 3) := by decide +kernel
theorem dJ5_inflate_da8c8_4 : decode cJ5_inflate_da8c8 4 = .ok (.ifCond .ne 4, 3) := by decide +kernel
theorem dJ5_inflate_da8c8_7 : decode cJ5_inflate_da8c8 7 = .ok (.return_, 1) := by decide +kernel
theorem dJ5_inflate_da8c8_8 : decode cJ5_inflate_da8c8 8 = .ok (.aload_n 0, 1) := by decide +kernel
theorem dJ5_inflate_da8c8_9 : decode cJ5_inflate_da8c8 9 = .ok (.getfield 15, 3) := by decide +kernel
theorem dJ5_inflate_da8c8_12 : decode cJ5_inflate_da8c8 12 = .ok (.arraylength, 1) := by decide +kernel
theorem dJ5_inflate_da8c8_13 : decode cJ5_inflate_da8c8 13 = .ok (.invokestatic 26, 3) := by decide +kernel
theorem dJ5_inflate_da8c8_16 : decode cJ5_inflate_da8c8 16 = .ok (.astore_n 1, 1) := by decide +kernel
theorem dJ5_inflate_da8c8_17 : decode cJ5_inflate_da8c8 17 = .ok (.aload_n 0, 1) := by decide +kernel
theorem dJ5_inflate_da8c8_18 : decode cJ5_inflate_da8c8 18 = .ok (.getfield 15, 3) := by decide +kernel
theorem dJ5_inflate_da8c8_21 : decode cJ5_inflate_da8c8 21 = .ok (.iconst 0, 1) := by decide +kernel
theorem dJ5_inflate_da8c8_22 : decode cJ5_inflate_da8c8 22 = .ok (.aload_n 1, 1) := by decide +kernel
theorem dJ5_inflate_da8c8_23 : decode cJ5_inflate_da8c8 23 = .ok (.iconst 0, 1) := by decide +kernel
theorem dJ5_inflate_da8c8_24 : decode cJ5_inflate_da8c8 24 = .ok (.aload_n 0, 1) := by decide +kernel
theorem dJ5_inflate_da8c8_25 : decode cJ5_inflate_da8c8 25 = .ok (.getfield 79, 3) := by decide +kernel
theorem dJ5_inflate_da8c8_28 : decode cJ5_inflate_da8c8 28 = .ok (.invokestatic 125, 3) := by decide +kernel
theorem dJ5_inflate_da8c8_31 : decode cJ5_inflate_da8c8 31 = .ok (.aload_n 0, 1) := by decide +kernel
theorem dJ5_inflate_da8c8_32 : decode cJ5_inflate_da8c8 32 = .ok (.aload_n 1, 1) := by decide +kernel
theorem dJ5_inflate_da8c8_33 : decode cJ5_inflate_da8c8 33 = .ok (.putfield 15, 3) := by decide +kernel
theorem dJ5_inflate_da8c8_36 : decode cJ5_inflate_da8c8 36 = .ok (.aload_n 0, 1) := by decide +kernel
theorem dJ5_inflate_da8c8_37 : decode cJ5_inflate_da8c8 37 = .ok (.iconst 1, 1) := by decide +kernel
theorem dJ5_inflate_da8c8_38 : decode cJ5_inflate_da8c8 38 = .ok (.putfield 22, 3) := by decide +kernel
theorem dJ5_inflate_da8c8_41 : decode cJ5_inflate_da8c8 41 = .ok (.return_, 1) := by decide +kernel
theorem dJ5_setLength_d00df_0 : decode cJ5_setLength_d00df 0 = .ok (.iload_n 1, 1) := by decide +kernel
theorem dJ5_setLength_d00df_1 : decode cJ5_setLength_d00df 1 = .ok (.ifCond .ge 12, 3) := by decide +kernel
theorem dJ5_setLength_d00df_4 : decode cJ5_setLength_d00df 4 = .ok (.new 129, 3) := by decide +kernel
theorem dJ5_setLength_d00df_7 : decode cJ5_setLength_d00df 7 = .ok (.dup, 1) := by decide +kernel
theorem dJ5_setLength_d00df_8 : decode cJ5_setLength_d00df 8 = .ok (.iload_n 1, 1) := by decide +kernel
theorem dJ5_setLength_d00df_9 : decode cJ5_setLength_d00df 9 = .ok (.invokespecial 131, 3) := by decide +kernel
theorem dJ5_setLength_d00df_12 : decode cJ5_setLength_d00df 12 = .ok (.athrow, 1) := by decide +kernel
theorem dJ5_setLength_d00df_13 : decode cJ5_setLength_d00df 13 = .ok (.aload_n 0, 1) := by decide +kernel
theorem dJ5_setLength_d00df_14 : decode cJ5_setLength_d00df 14 = .ok (.iload_n 1, 1) := by decide +kernel
theorem dJ5_setLength_d00df_15 : decode cJ5_setLength_d00df 15 = .ok (.invokevirtual 100, 3) := by decide +kernel
theorem dJ5_setLength_d00df_18 : decode cJ5_setLength_d00df 18 = .ok (.aload_n 0, 1) := by decide +kernel
theorem dJ5_setLength_d00df_19 : decode cJ5_setLength_d00df 19 = .ok (.getfield 79, 3) := by decide +kernel
theorem dJ5_setLength_d00df_22 : decode cJ5_setLength_d00df 22 = .ok (.iload_n 1, 1) := by decide +kernel
theorem dJ5_setLength_d00df_23 : decode cJ5_setLength_d00df 23 = .ok (.if_icmp .ge 40, 3) := by decide +kernel
theorem dJ5_setLength_d00df_26 : decode cJ5_setLength_d00df 26 = .ok (.aload_n 0, 1) := by decide +kernel
theorem dJ5_setLength_d00df_27 : decode cJ5_setLength_d00df 27 = .ok (.invokevirtual 83, 3) := by decide +kernel
theorem dJ5_setLength_d00df_30 : decode cJ5_setLength_d00df 30 = .ok (.ifCond .eq 18, 3) := by decide +kernel
theorem dJ5_setLength_d00df_33 : decode cJ5_setLength_d00df 33 = .ok (.aload_n 0, 1) := by decide +kernel
theorem dJ5_setLength_d00df_34 : decode cJ5_setLength_d00df 34 = .ok (.getfield 15, 3) := by decide +kernel
theorem dJ5_setLength_d00df_37 : decode cJ5_setLength_d00df 37 = .ok (.aload_n 0, 1) := by decide +kernel
theorem dJ5_setLength_d00df_38 : decode cJ5_setLength_d00df 38 = .ok (.getfield 79, 3) := by decide +kernel
theorem dJ5_setLength_d00df_41 : decode cJ5_setLength_d00df 41 = .ok (.iload_n 1, 1) := by decide +kernel
theorem dJ5_setLength_d00df_42 : decode cJ5_setLength_d00df 42 = .ok (.invokestatic 133, 3) := by decide +kernel
theorem dJ5_setLength_d00df_45 : decode cJ5_setLength_d00df 45 = .ok (.goto 31, 3) := by decide +kernel
theorem dJ5_setLength_d00df_48 : decode cJ5_setLength_d00df 48 = .ok (.aload_n 0, 1) := by decide +kernel
theorem dJ5_setLength_d00df_49 : decode cJ5_setLength_d00df 49 = .ok (.getfield 15, 3) := by decide +kernel
theorem dJ5_setLength_d00df_52 : decode cJ5_setLength_d00df 52 = .ok (.aload_n 0, 1) := by decide +kernel
theorem dJ5_setLength_d00df_53 : decode cJ5_setLength_d00df 53 = .ok (.getfield 79, 3) := by decide +kernel
theorem dJ5_setLength_d00df_56 : decode cJ5_setLength_d00df 56 = .ok (.iload_n 1, 1) := by decide +kernel
theorem dJ5_setLength_d00df_57 : decode cJ5_setLength_d00df 57 = .ok (.invokestatic 137, 3) := by decide +kernel
theorem dJ5_setLength_d00df_60 : decode cJ5_setLength_d00df 60 = .ok (.goto 16, 3) := by decide +kernel
theorem dJ5_setLength_d00df_63 : decode cJ5_setLength_d00df 63 = .ok (.aload_n 0, 1) := by decide +kernel
theorem dJ5_setLength_d00df_64 : decode cJ5_setLength_d00df 64 = .ok (.getfield 79, 3) := by decide +kernel
theorem dJ5_setLength_d00df_67 : decode cJ5_setLength_d00df 67 = .ok (.iload_n 1, 1) := by decide +kernel
theorem dJ5_setLength_d00df_68 : decode cJ5_setLength_d00df 68 = .ok (.if_icmp .le 8, 3) := by decide +kernel
theorem dJ5_setLength_d00df_71 : decode cJ5_setLength_d00df 71 = .ok (.aload_n 0, 1) := by decide +kernel
theorem dJ5_setLength_d00df_72 : decode cJ5_setLength_d00df 72 = .ok (.iconst 1, 1) := by decide +kernel
theorem dJ5_setLength_d00df_73 : decode cJ5_setLength_d00df 73 = .ok (.putfield 73, 3) := by decide +kernel
theorem dJ5_setLength_d00df_76 : decode cJ5_setLength_d00df 76 = .ok (.aload_n 0, 1) := by decide +kernel
theorem dJ5_setLength_d00df_77 : decode cJ5_setLength_d00df 77 = .ok (.iload_n 1, 1) := by decide +kernel
theorem dJ5_setLength_d00df_78 : decode cJ5_setLength_d00df 78 = .ok (.putfield 79, 3) := by decide +kernel
theorem dJ5_setLength_d00df_81 : decode cJ5_setLength_d00df 81 = .ok (.return_, 1) := by decide +kernel
theorem dJ5_charAt_5068e_0 : decode cJ5_charAt_5068e 0 = .ok (.aload_n 0, 1) := by decide +kernel
theorem dJ5_charAt_5068e_1 : decode cJ5_charAt_5068e 1 = .ok (.getfield 22, 3) := by decide +kernel
theorem dJ5_charAt_5068e_4 : decode cJ5_charAt_5068e 4 = .ok (.istore_n 2, 1) := by decide +kernel
theorem dJ5_charAt_5068e_5 : decode cJ5_charAt_5068e 5 = .ok (.aload_n 0, 1) := by decide +kernel
theorem dJ5_charAt_5068e_6 : decode cJ5_charAt_5068e 6 = .ok (.getfield 15, 3) := by decide +kernel
theorem dJ5_charAt_5068e_9 : decode cJ5_charAt_5068e 9 = .ok (.astore_n 3, 1) := by decide +kernel
theorem dJ5_charAt_5068e_10 : decode cJ5_charAt_5068e 10 = .ok (.aload_n 0, 1) := by decide +kernel
theorem dJ5_charAt_5068e_11 : decode cJ5_charAt_5068e 11 = .ok (.getfield 79, 3) := by decide +kernel
theorem dJ5_charAt_5068e_14 : decode cJ5_charAt_5068e 14 = .ok (.aload_n 3, 1) := by decide +kernel
theorem dJ5_charAt_5068e_15 : decode cJ5_charAt_5068e 15 = .ok (.arraylength, 1) := by decide +kernel
theorem dJ5_charAt_5068e_16 : decode cJ5_charAt_5068e 16 = .ok (.iload_n 2, 1) := by decide +kernel
theorem dJ5_charAt_5068e_17 : decode cJ5_charAt_5068e 17 = .ok (.ishr, 1) := by decide +kernel
theorem dJ5_charAt_5068e_18 : decode cJ5_charAt_5068e 18 = .ok (.invokestatic 138, 3) := by decide +kernel
theorem dJ5_charAt_5068e_21 : decode cJ5_charAt_5068e 21 = .ok (.istore 4, 2) := by decide +kernel
theorem dJ5_charAt_5068e_23 : decode cJ5_charAt_5068e 23 = .ok (.iload_n 1, 1) := by decide +kernel
theorem dJ5_charAt_5068e_24 : decode cJ5_charAt_5068e 24 = .ok (.iload 4, 2) := by decide +kernel
theorem dJ5_charAt_5068e_26 : decode cJ5_charAt_5068e 26 = .ok (.invokestatic 144, 3) := by decide +kernel
theorem dJ5_charAt_5068e_29 : decode cJ5_charAt_5068e 29 = .ok (.iload_n 2, 1) := by decide +kernel
theorem dJ5_charAt_5068e_30 : decode cJ5_charAt_5068e 30 = .ok (.ifCond .ne 12, 3) := by decide +kernel
theorem dJ5_charAt_5068e_33 : decode cJ5_charAt_5068e 33 = .ok (.aload_n 3, 1) := by decide +kernel
theorem dJ5_charAt_5068e_34 : decode cJ5_charAt_5068e 34 = .ok (.iload_n 1, 1) := by decide +kernel
theorem dJ5_charAt_5068e_35 : decode cJ5_charAt_5068e 35 = .ok (.baload, 1) := by decide +kernel
theorem dJ5_charAt_5068e_36 : decode cJ5_charAt_5068e 36 = .ok (.sipush 255, 3) := by decide +kernel
theorem dJ5_charAt_5068e_39 : decode cJ5_charAt_5068e 39 = .ok (.iand, 1) := by decide +kernel
theorem dJ5_charAt_5068e_40 : decode cJ5_charAt_5068e 40 = .ok (.i2c, 1) := by decide +kernel
theorem dJ5_charAt_5068e_41 : decode cJ5_charAt_5068e 41 = .ok (.ireturn, 1) := by decide +kernel
theorem dJ5_charAt_5068e_42 : decode cJ5_charAt_5068e 42 = .ok (.aload_n 3, 1) := by decide +kernel
theorem dJ5_charAt_5068e_43 : decode cJ5_charAt_5068e 43 = .ok (.iload_n 1, 1) := by decide +kernel
theorem dJ5_charAt_5068e_44 : decode cJ5_charAt_5068e 44 = .ok (.invokestatic 148, 3) := by decide +kernel
theorem dJ5_charAt_5068e_47 : decode cJ5_charAt_5068e 47 = .ok (.ireturn, 1) := by decide +kernel
theorem dJ5_append_cf1ce_0 : decode cJ5_append_cf1ce 0 = .ok (.aload_n 1, 1) := by decide +kernel
theorem dJ5_append_cf1ce_1 : decode cJ5_append_cf1ce 1 = .ok (.ifnonnull 8, 3) := by decide +kernel
theorem dJ5_append_cf1ce_4 : decode cJ5_append_cf1ce 4 = .ok (.aload_n 0, 1) := by decide +kernel
theorem dJ5_append_cf1ce_5 : decode cJ5_append_cf1ce 5 = .ok (.invokevirtual 204, 3) := by decide +kernel
theorem dJ5_append_cf1ce_8 : decode cJ5_append_cf1ce 8 = .ok (.areturn, 1) := by decide +kernel
theorem dJ5_append_cf1ce_9 : decode cJ5_append_cf1ce 9 = .ok (.aload_n 1, 1) := by decide +kernel
theorem dJ5_append_cf1ce_10 : decode cJ5_append_cf1ce 10 = .ok (.invokevirtual 32, 3) := by decide +kernel
theorem dJ5_append_cf1ce_13 : decode cJ5_append_cf1ce 13 = .ok (.istore_n 2, 1) := by decide +kernel
theorem dJ5_append_cf1ce_14 : decode cJ5_append_cf1ce 14 = .ok (.aload_n 0, 1) := by decide +kernel
theorem dJ5_append_cf1ce_15 : decode cJ5_append_cf1ce 15 = .ok (.aload_n 0, 1) := by decide +kernel
theorem dJ5_append_cf1ce_16 : decode cJ5_append_cf1ce 16 = .ok (.getfield 79, 3) := by decide +kernel
theorem dJ5_append_cf1ce_19 : decode cJ5_append_cf1ce 19 = .ok (.iload_n 2, 1) := by decide +kernel
theorem dJ5_append_cf1ce_20 : decode cJ5_append_cf1ce 20 = .ok (.iadd, 1) := by decide +kernel
theorem dJ5_append_cf1ce_21 : decode cJ5_append_cf1ce 21 = .ok (.invokevirtual 100, 3) := by decide +kernel
theorem dJ5_append_cf1ce_24 : decode cJ5_append_cf1ce 24 = .ok (.aload_n 0, 1) := by decide +kernel
theorem dJ5_append_cf1ce_25 : decode cJ5_append_cf1ce 25 = .ok (.aload_n 0, 1) := by decide +kernel
theorem dJ5_append_cf1ce_26 : decode cJ5_append_cf1ce 26 = .ok (.getfield 79, 3) := by decide +kernel
theorem dJ5_append_cf1ce_29 : decode cJ5_append_cf1ce 29 = .ok (.aload_n 1, 1) := by decide +kernel
theorem dJ5_append_cf1ce_30 : decode cJ5_append_cf1ce 30 = .ok (.invokevirtual 208, 3) := by decide +kernel
theorem dJ5_append_cf1ce_33 : decode cJ5_append_cf1ce 33 = .ok (.aload_n 0, 1) := by decide +kernel
theorem dJ5_append_cf1ce_34 : decode cJ5_append_cf1ce 34 = .ok (.dup, 1) := by decide +kernel
theorem dJ5_append_cf1ce_35 : decode cJ5_append_cf1ce 35 = .ok (.getfield 79, 3) := by decide +kernel
theorem dJ5_append_cf1ce_38 : decode cJ5_append_cf1ce 38 = .ok (.iload_n 2, 1) := by decide +kernel
theorem dJ5_append_cf1ce_39 : decode cJ5_append_cf1ce 39 = .ok (.iadd, 1) := by decide +kernel
theorem dJ5_append_cf1ce_40 : decode cJ5_append_cf1ce 40 = .ok (.putfield 79, 3) := by decide +kernel
theorem dJ5_append_cf1ce_43 : decode cJ5_append_cf1ce 43 = .ok (.aload_n 0, 1) := by decide +kernel
theorem dJ5_append_cf1ce_44 : decode cJ5_append_cf1ce 44 = .ok (.areturn, 1) := by decide +kernel
theorem dJ5_appendNull_278bc_0 : decode cJ5_appendNull_278bc 0 = .ok (.aload_n 0, 1) := by decide +kernel
theorem dJ5_appendNull_278bc_1 : decode cJ5_appendNull_278bc 1 = .ok (.aload_n 0, 1) := by decide +kernel
theorem dJ5_appendNull_278bc_2 : decode cJ5_appendNull_278bc 2 = .ok (.getfield 79, 3) := by decide +kernel
theorem dJ5_appendNull_278bc_5 : decode cJ5_appendNull_278bc 5 = .ok (.iconst 4, 1) := by decide +kernel
theorem dJ5_appendNull_278bc_6 : decode cJ5_appendNull_278bc 6 = .ok (.iadd, 1) := by decide +kernel
theorem dJ5_appendNull_278bc_7 : decode cJ5_appendNull_278bc 7 = .ok (.invokevirtual 100, 3) := by decide +kernel
theorem dJ5_appendNull_278bc_10 : decode cJ5_appendNull_278bc 10 = .ok (.aload_n 0, 1) := by decide +kernel
theorem dJ5_appendNull_278bc_11 : decode cJ5_appendNull_278bc 11 = .ok (.getfield 79, 3) := by decide +kernel
theorem dJ5_appendNull_278bc_14 : decode cJ5_appendNull_278bc 14 = .ok (.istore_n 1, 1) := by decide +kernel
theorem dJ5_appendNull_278bc_15 : decode cJ5_appendNull_278bc 15 = .ok (.aload_n 0, 1) := by decide +kernel
theorem dJ5_appendNull_278bc_16 : decode cJ5_appendNull_278bc 16 = .ok (.getfield 15, 3) := by decide +kernel
theorem dJ5_appendNull_278bc_19 : decode cJ5_appendNull_278bc 19 = .ok (.astore_n 2, 1) := by decide +kernel
theorem dJ5_appendNull_278bc_20 : decode cJ5_appendNull_278bc 20 = .ok (.aload_n 0, 1) := by decide +kernel
theorem dJ5_appendNull_278bc_21 : decode cJ5_appendNull_278bc 21 = .ok (.invokevirtual 83, 3) := by decide +kernel
theorem dJ5_appendNull_278bc_24 : decode cJ5_appendNull_278bc 24 = .ok (.ifCond .eq 38, 3) := by decide +kernel
theorem dJ5_appendNull_278bc_27 : decode cJ5_appendNull_278bc 27 = .ok (.aload_n 2, 1) := by decide +kernel
theorem dJ5_appendNull_278bc_28 : decode cJ5_appendNull_278bc 28 = .ok (.iload_n 1, 1) := by decide +kernel
theorem dJ5_appendNull_278bc_29 : decode cJ5_appendNull_278bc 29 = .ok (.iinc 1 1, 3) := by decide +kernel
theorem dJ5_appendNull_278bc_32 : decode cJ5_appendNull_278bc 32 = .ok (.bipush 110, 2) := by decide +kernel
theorem dJ5_appendNull_278bc_34 : decode cJ5_appendNull_278bc 34 = .ok (.bastore, 1) := by decide +kernel
theorem dJ5_appendNull_278bc_35 : decode cJ5_appendNull_278bc 35 = .ok (.aload_n 2, 1) := by decide +kernel
theorem dJ5_appendNull_278bc_36 : decode cJ5_appendNull_278bc 36 = .ok (.iload_n 1, 1) := by decide +kernel
theorem dJ5_appendNull_278bc_37 : decode cJ5_appendNull_278bc 37 = .ok (.iinc 1 1, 3) := by decide +kernel
theorem dJ5_appendNull_278bc_40 : decode cJ5_appendNull_278bc 40 = .ok (.bipush 117, 2) := by decide +kernel
theorem dJ5_appendNull_278bc_42 : decode cJ5_appendNull_278bc 42 = .ok (.bastore, 1) := by decide +kernel
theorem dJ5_appendNull_278bc_43 : decode cJ5_appendNull_278bc 43 = .ok (.aload_n 2, 1) := by decide +kernel
theorem dJ5_appendNull_278bc_44 : decode cJ5_appendNull_278bc 44 = .ok (.iload_n 1, 1) := by decide +kernel
theorem dJ5_appendNull_278bc_45 : decode cJ5_appendNull_278bc 45 = .ok (.iinc 1 1, 3) := by decide +kernel
theorem dJ5_appendNull_278bc_48 : decode cJ5_appendNull_278bc 48 = .ok (.bipush 108, 2) := by decide +kernel
theorem dJ5_appendNull_278bc_50 : decode cJ5_appendNull_278bc 50 = .ok (.bastore, 1) := by decide +kernel
theorem dJ5_appendNull_278bc_51 : decode cJ5_appendNull_278bc 51 = .ok (.aload_n 2, 1) := by decide +kernel
theorem dJ5_appendNull_278bc_52 : decode cJ5_appendNull_278bc 52 = .ok (.iload_n 1, 1) := by decide +kernel
theorem dJ5_appendNull_278bc_53 : decode cJ5_appendNull_278bc 53 = .ok (.iinc 1 1, 3) := by decide +kernel
theorem dJ5_appendNull_278bc_56 : decode cJ5_appendNull_278bc 56 = .ok (.bipush 108, 2) := by decide +kernel
theorem dJ5_appendNull_278bc_58 : decode cJ5_appendNull_278bc 58 = .ok (.bastore, 1) := by decide +kernel
theorem dJ5_appendNull_278bc_59 : decode cJ5_appendNull_278bc 59 = .ok (.goto 17, 3) := by decide +kernel
theorem dJ5_appendNull_278bc_62 : decode cJ5_appendNull_278bc 62 = .ok (.aload_n 2, 1) := by decide +kernel
theorem dJ5_appendNull_278bc_63 : decode cJ5_appendNull_278bc 63 = .ok (.iload_n 1, 1) := by decide +kernel
theorem dJ5_appendNull_278bc_64 : decode cJ5_appendNull_278bc 64 = .ok (.bipush 110, 2) := by decide +kernel
theorem dJ5_appendNull_278bc_66 : decode cJ5_appendNull_278bc 66 = .ok (.bipush 117, 2) := by decide +kernel
theorem dJ5_appendNull_278bc_68 : decode cJ5_appendNull_278bc 68 = .ok (.bipush 108, 2) := by decide +kernel
theorem dJ5_appendNull_278bc_70 : decode cJ5_appendNull_278bc 70 = .ok (.bipush 108, 2) := by decide +kernel
theorem dJ5_appendNull_278bc_72 : decode cJ5_appendNull_278bc 72 = .ok (.invokestatic 226, 3) := by decide +kernel
theorem dJ5_appendNull_278bc_75 : decode cJ5_appendNull_278bc 75 = .ok (.istore_n 1, 1) := by decide +kernel
theorem dJ5_appendNull_278bc_76 : decode cJ5_appendNull_278bc 76 = .ok (.aload_n 0, 1) := by decide +kernel
theorem dJ5_appendNull_278bc_77 : decode cJ5_appendNull_278bc 77 = .ok (.iload_n 1, 1) := by decide +kernel
theorem dJ5_appendNull_278bc_78 : decode cJ5_appendNull_278bc 78 = .ok (.putfield 79, 3) := by decide +kernel
theorem dJ5_appendNull_278bc_81 : decode cJ5_appendNull_278bc 81 = .ok (.aload_n 0, 1) := by decide +kernel
theorem dJ5_appendNull_278bc_82 : decode cJ5_appendNull_278bc 82 = .ok (.areturn, 1) := by decide +kernel
theorem dJ5_append_3fe6f_0 : decode cJ5_append_3fe6f 0 = .ok (.aload_n 0, 1) := by decide +kernel
theorem dJ5_append_3fe6f_1 : decode cJ5_append_3fe6f 1 = .ok (.aload_n 0, 1) := by decide +kernel
theorem dJ5_append_3fe6f_2 : decode cJ5_append_3fe6f 2 = .ok (.getfield 79, 3) := by decide +kernel
theorem dJ5_append_3fe6f_5 : decode cJ5_append_3fe6f 5 = .ok (.iconst 1, 1) := by decide +kernel
theorem dJ5_append_3fe6f_6 : decode cJ5_append_3fe6f 6 = .ok (.iadd, 1) := by decide +kernel
theorem dJ5_append_3fe6f_7 : decode cJ5_append_3fe6f 7 = .ok (.invokevirtual 100, 3) := by decide +kernel
theorem dJ5_append_3fe6f_10 : decode cJ5_append_3fe6f 10 = .ok (.aload_n 0, 1) := by decide +kernel
theorem dJ5_append_3fe6f_11 : decode cJ5_append_3fe6f 11 = .ok (.invokevirtual 83, 3) := by decide +kernel
theorem dJ5_append_3fe6f_14 : decode cJ5_append_3fe6f 14 = .ok (.ifCond .eq 31, 3) := by decide +kernel
theorem dJ5_append_3fe6f_17 : decode cJ5_append_3fe6f 17 = .ok (.iload_n 1, 1) := by decide +kernel
theorem dJ5_append_3fe6f_18 : decode cJ5_append_3fe6f 18 = .ok (.invokestatic 191, 3) := by decide +kernel
theorem dJ5_append_3fe6f_21 : decode cJ5_append_3fe6f 21 = .ok (.ifCond .eq 24, 3) := by decide +kernel
theorem dJ5_append_3fe6f_24 : decode cJ5_append_3fe6f 24 = .ok (.aload_n 0, 1) := by decide +kernel
theorem dJ5_append_3fe6f_25 : decode cJ5_append_3fe6f 25 = .ok (.getfield 15, 3) := by decide +kernel
theorem dJ5_append_3fe6f_28 : decode cJ5_append_3fe6f 28 = .ok (.aload_n 0, 1) := by decide +kernel
theorem dJ5_append_3fe6f_29 : decode cJ5_append_3fe6f 29 = .ok (.dup, 1) := by decide +kernel
theorem dJ5_append_3fe6f_30 : decode cJ5_append_3fe6f 30 = .ok (.getfield 79, 3) := by decide +kernel
theorem dJ5_append_3fe6f_33 : decode cJ5_append_3fe6f 33 = .ok (.dup_x1, 1) := by decide +kernel
theorem dJ5_append_3fe6f_34 : decode cJ5_append_3fe6f 34 = .ok (.iconst 1, 1) := by decide +kernel
theorem dJ5_append_3fe6f_35 : decode cJ5_append_3fe6f 35 = .ok (.iadd, 1) := by decide +kernel
theorem dJ5_append_3fe6f_36 : decode cJ5_append_3fe6f 36 = .ok (.putfield 79, 3) := by decide +kernel
theorem dJ5_append_3fe6f_39 : decode cJ5_append_3fe6f 39 = .ok (.iload_n 1, 1) := by decide +kernel
theorem dJ5_append_3fe6f_40 : decode cJ5_append_3fe6f 40 = .ok (.i2b, 1) := by decide +kernel
theorem dJ5_append_3fe6f_41 : decode cJ5_append_3fe6f 41 = .ok (.bastore, 1) := by decide +kernel
theorem dJ5_append_3fe6f_42 : decode cJ5_append_3fe6f 42 = .ok (.goto 33, 3) := by decide +kernel
theorem dJ5_append_3fe6f_45 : decode cJ5_append_3fe6f 45 = .ok (.aload_n 0, 1) := by decide +kernel
theorem dJ5_append_3fe6f_46 : decode cJ5_append_3fe6f 46 = .ok (.invokevirtual 83, 3) := by decide +kernel
theorem dJ5_append_3fe6f_49 : decode cJ5_append_3fe6f 49 = .ok (.ifCond .eq 7, 3) := by decide +kernel
theorem dJ5_append_3fe6f_52 : decode cJ5_append_3fe6f 52 = .ok (.aload_n 0, 1) := by decide +kernel
theorem dJ5_append_3fe6f_53 : decode cJ5_append_3fe6f 53 = .ok (.invokevirtual 195, 3) := by decide +kernel
theorem dJ5_append_3fe6f_56 : decode cJ5_append_3fe6f 56 = .ok (.aload_n 0, 1) := by decide +kernel
theorem dJ5_append_3fe6f_57 : decode cJ5_append_3fe6f 57 = .ok (.getfield 15, 3) := by decide +kernel
theorem dJ5_append_3fe6f_60 : decode cJ5_append_3fe6f 60 = .ok (.aload_n 0, 1) := by decide +kernel
theorem dJ5_append_3fe6f_61 : decode cJ5_append_3fe6f 61 = .ok (.dup, 1) := by decide +kernel
theorem dJ5_append_3fe6f_62 : decode cJ5_append_3fe6f 62 = .ok (.getfield 79, 3) := by decide +kernel
theorem dJ5_append_3fe6f_65 : decode cJ5_append_3fe6f 65 = .ok (.dup_x1, 1) := by decide +kernel
theorem dJ5_append_3fe6f_66 : decode cJ5_append_3fe6f 66 = .ok (.iconst 1, 1) := by decide +kernel
theorem dJ5_append_3fe6f_67 : decode cJ5_append_3fe6f 67 = .ok (.iadd, 1) := by decide +kernel
theorem dJ5_append_3fe6f_68 : decode cJ5_append_3fe6f 68 = .ok (.putfield 79, 3) := by decide +kernel
theorem dJ5_append_3fe6f_71 : decode cJ5_append_3fe6f 71 = .ok (.iload_n 1, 1) := by decide +kernel
theorem dJ5_append_3fe6f_72 : decode cJ5_append_3fe6f 72 = .ok (.invokestatic 197, 3) := by decide +kernel
theorem dJ5_append_3fe6f_75 : decode cJ5_append_3fe6f 75 = .ok (.aload_n 0, 1) := by decide +kernel
theorem dJ5_append_3fe6f_76 : decode cJ5_append_3fe6f 76 = .ok (.areturn, 1) := by decide +kernel
theorem dJ5_append_c97b9_0 : decode cJ5_append_c97b9 0 = .ok (.aload_n 0, 1) := by decide +kernel
theorem dJ5_append_c97b9_1 : decode cJ5_append_c97b9 1 = .ok (.getfield 79, 3) := by decide +kernel
theorem dJ5_append_c97b9_4 : decode cJ5_append_c97b9 4 = .ok (.istore_n 2, 1) := by decide +kernel
theorem dJ5_append_c97b9_5 : decode cJ5_append_c97b9 5 = .ok (.iload_n 2, 1) := by decide +kernel
theorem dJ5_append_c97b9_6 : decode cJ5_append_c97b9 6 = .ok (.iload_n 1, 1) := by decide +kernel
theorem dJ5_append_c97b9_7 : decode cJ5_append_c97b9 7 = .ok (.invokestatic 245, 3) := by decide +kernel
theorem dJ5_append_c97b9_10 : decode cJ5_append_c97b9 10 = .ok (.iadd, 1) := by decide +kernel
theorem dJ5_append_c97b9_11 : decode cJ5_append_c97b9 11 = .ok (.istore_n 3, 1) := by decide +kernel
theorem dJ5_append_c97b9_12 : decode cJ5_append_c97b9 12 = .ok (.aload_n 0, 1) := by decide +kernel
theorem dJ5_append_c97b9_13 : decode cJ5_append_c97b9 13 = .ok (.iload_n 3, 1) := by decide +kernel
theorem dJ5_append_c97b9_14 : decode cJ5_append_c97b9 14 = .ok (.invokevirtual 100, 3) := by decide +kernel
theorem dJ5_append_c97b9_17 : decode cJ5_append_c97b9 17 = .ok (.aload_n 0, 1) := by decide +kernel
theorem dJ5_append_c97b9_18 : decode cJ5_append_c97b9 18 = .ok (.invokevirtual 83, 3) := by decide +kernel
theorem dJ5_append_c97b9_21 : decode cJ5_append_c97b9 21 = .ok (.ifCond .eq 16, 3) := by decide +kernel
theorem dJ5_append_c97b9_24 : decode cJ5_append_c97b9 24 = .ok (.iload_n 1, 1) := by decide +kernel
theorem dJ5_append_c97b9_25 : decode cJ5_append_c97b9 25 = .ok (.iload_n 3, 1) := by decide +kernel
theorem dJ5_append_c97b9_26 : decode cJ5_append_c97b9 26 = .ok (.aload_n 0, 1) := by decide +kernel
theorem dJ5_append_c97b9_27 : decode cJ5_append_c97b9 27 = .ok (.getfield 15, 3) := by decide +kernel
theorem dJ5_append_c97b9_30 : decode cJ5_append_c97b9 30 = .ok (.invokestatic 248, 3) := by decide +kernel
theorem dJ5_append_c97b9_33 : decode cJ5_append_c97b9 33 = .ok (.pop, 1) := by decide +kernel
theorem dJ5_append_c97b9_34 : decode cJ5_append_c97b9 34 = .ok (.goto 14, 3) := by decide +kernel
theorem dJ5_append_c97b9_37 : decode cJ5_append_c97b9 37 = .ok (.iload_n 1, 1) := by decide +kernel
theorem dJ5_append_c97b9_38 : decode cJ5_append_c97b9 38 = .ok (.iload_n 2, 1) := by decide +kernel
theorem dJ5_append_c97b9_39 : decode cJ5_append_c97b9 39 = .ok (.iload_n 3, 1) := by decide +kernel
theorem dJ5_append_c97b9_40 : decode cJ5_append_c97b9 40 = .ok (.aload_n 0, 1) := by decide +kernel
theorem dJ5_append_c97b9_41 : decode cJ5_append_c97b9 41 = .ok (.getfield 15, 3) := by decide +kernel
theorem dJ5_append_c97b9_44 : decode cJ5_append_c97b9 44 = .ok (.invokestatic 251, 3) := by decide +kernel
theorem dJ5_append_c97b9_47 : decode cJ5_append_c97b9 47 = .ok (.pop, 1) := by decide +kernel
theorem dJ5_append_c97b9_48 : decode cJ5_append_c97b9 48 = .ok (.aload_n 0, 1) := by decide +kernel
theorem dJ5_append_c97b9_49 : decode cJ5_append_c97b9 49 = .ok (.iload_n 3, 1) := by decide +kernel
theorem dJ5_append_c97b9_50 : decode cJ5_append_c97b9 50 = .ok (.putfield 79, 3) := by decide +kernel
theorem dJ5_append_c97b9_53 : decode cJ5_append_c97b9 53 = .ok (.aload_n 0, 1) := by decide +kernel
theorem dJ5_append_c97b9_54 : decode cJ5_append_c97b9 54 = .ok (.areturn, 1) := by decide +kernel
theorem dJ5_isLatin1_aae02_0 : decode cJ5_isLatin1_aae02 0 = .ok (.getstatic 18, 3) := by decide +kernel
theorem dJ5_isLatin1_aae02_3 : decode cJ5_isLatin1_aae02 3 = .ok (.ifCond .eq 14, 3) := by decide +kernel
theorem dJ5_isLatin1_aae02_6 : decode cJ5_isLatin1_aae02 6 = .ok (.aload_n 0, 1) := by decide +kernel
theorem dJ5_isLatin1_aae02_7 : decode cJ5_isLatin1_aae02 7 = .ok (.getfield 22, 3) := by decide +kernel
theorem dJ5_isLatin1_aae02_10 : decode cJ5_isLatin1_aae02 10 = .ok (.ifCond .ne 7, 3) := by decide +kernel
theorem dJ5_isLatin1_aae02_13 : decode cJ5_isLatin1_aae02 13 = .ok (.iconst 1, 1) := by decide +kernel
theorem dJ5_isLatin1_aae02_14 : decode cJ5_isLatin1_aae02 14 = .ok (.goto 4, 3) := by decide +kernel
theorem dJ5_isLatin1_aae02_17 : decode cJ5_isLatin1_aae02 17 = .ok (.iconst 0, 1) := by decide +kernel
theorem dJ5_isLatin1_aae02_18 : decode cJ5_isLatin1_aae02 18 = .ok (.ireturn, 1) := by decide +kernel
theorem dJ5_inflateIfNeededFor_a7421_0 : decode cJ5_inflateIfNeededFor_a7421 0 = .ok (.getstatic 18, 3) := by decide +kernel
theorem dJ5_inflateIfNeededFor_a7421_3 : decode cJ5_inflateIfNeededFor_a7421 3 = .ok (.ifCond .eq 18, 3) := by decide +kernel
theorem dJ5_inflateIfNeededFor_a7421_6 : decode cJ5_inflateIfNeededFor_a7421 6 = .ok (.aload_n 0, 1) := by decide +kernel
theorem dJ5_inflateIfNeededFor_a7421_7 : decode cJ5_inflateIfNeededFor_a7421 7 = .ok (.getfield 22, 3) := by decide +kernel
theorem dJ5_inflateIfNeededFor_a7421_10 : decode cJ5_inflateIfNeededFor_a7421 10 = .ok (.aload_n 1, 1) := by decide +kernel
theorem dJ5_inflateIfNeededFor_a7421_11 : decode cJ5_inflateIfNeededFor_a7421 11 = .ok (.invokevirtual 40, 3) := by decide +kernel
theorem dJ5_inflateIfNeededFor_a7421_14 : decode cJ5_inflateIfNeededFor_a7421 14 = .ok (.if_icmp .eq 7, 3) := by decide +kernel
theorem dJ5_inflateIfNeededFor_a7421_17 : decode cJ5_inflateIfNeededFor_a7421 17 = .ok (.aload_n 0, 1) := by decide +kernel
theorem dJ5_inflateIfNeededFor_a7421_18 : decode cJ5_inflateIfNeededFor_a7421 18 = .ok (.invokevirtual 195, 3) := by decide +kernel
theorem dJ5_inflateIfNeededFor_a7421_21 : decode cJ5_inflateIfNeededFor_a7421 21 = .ok (.return_, 1) := by decide +kernel
theorem dJ5_putStringAt_47b60_0 : decode cJ5_putStringAt_47b60 0 = .ok (.aload_n 0, 1) := by decide +kernel
theorem dJ5_putStringAt_47b60_1 : decode cJ5_putStringAt_47b60 1 = .ok (.aload_n 2, 1) := by decide +kernel
theorem dJ5_putStringAt_47b60_2 : decode cJ5_putStringAt_47b60 2 = .ok (.invokevirtual 397, 3) := by decide +kernel
theorem dJ5_putStringAt_47b60_5 : decode cJ5_putStringAt_47b60 5 = .ok (.aload_n 2, 1) := by decide +kernel
theorem dJ5_putStringAt_47b60_6 : decode cJ5_putStringAt_47b60 6 = .ok (.aload_n 0, 1) := by decide +kernel
theorem dJ5_putStringAt_47b60_7 : decode cJ5_putStringAt_47b60 7 = .ok (.getfield 15, 3) := by decide +kernel
theorem dJ5_putStringAt_47b60_10 : decode cJ5_putStringAt_47b60 10 = .ok (.iload_n 1, 1) := by decide +kernel
theorem dJ5_putStringAt_47b60_11 : decode cJ5_putStringAt_47b60 11 = .ok (.aload_n 0, 1) := by decide +kernel
theorem dJ5_putStringAt_47b60_12 : decode cJ5_putStringAt_47b60 12 = .ok (.getfield 22, 3) := by decide +kernel
theorem dJ5_putStringAt_47b60_15 : decode cJ5_putStringAt_47b60 15 = .ok (.invokevirtual 399, 3) := by decide +kernel
theorem dJ5_putStringAt_47b60_18 : decode cJ5_putStringAt_47b60 18 = .ok (.return_, 1) := by decide +kernel
theorem dJ6_getChars_ba4f3_0 : decode cJ6_getChars_ba4f3 0 = .ok (.iload_n 1, 1) := by decide +kernel
theorem dJ6_getChars_ba4f3_1 : decode cJ6_getChars_ba4f3 1 = .ok (.istore 5, 2) := by decide +kernel
theorem dJ6_getChars_ba4f3_3 : decode cJ6_getChars_ba4f3 3 = .ok (.iload_n 0, 1) := by decide +kernel
theorem dJ6_getChars_ba4f3_4 : decode cJ6_getChars_ba4f3 4 = .ok (.ifCond .ge 7, 3) := by decide +kernel
theorem dJ6_getChars_ba4f3_7 : decode cJ6_getChars_ba4f3 7 = .ok (.iconst 1, 1) := by decide +kernel
theorem dJ6_getChars_ba4f3_8 : decode cJ6_getChars_ba4f3 8 = .ok (.goto 4, 3) := by decide +kernel
theorem dJ6_getChars_ba4f3_11 : decode cJ6_getChars_ba4f3 11 = .ok (.iconst 0, 1) := by decide +kernel
theorem dJ6_getChars_ba4f3_12 : decode cJ6_getChars_ba4f3 12 = .ok (.istore 6, 2) := by decide +kernel
theorem dJ6_getChars_ba4f3_14 : decode cJ6_getChars_ba4f3 14 = .ok (.iload 6, 2) := by decide +kernel
theorem dJ6_getChars_ba4f3_16 : decode cJ6_getChars_ba4f3 16 = .ok (.ifCond .ne 6, 3) := by decide +kernel
theorem dJ6_getChars_ba4f3_19 : decode cJ6_getChars_ba4f3 19 = .ok (.iload_n 0, 1) := by decide +kernel
theorem dJ6_getChars_ba4f3_20 : decode cJ6_getChars_ba4f3 20 = .ok (.ineg, 1) := by decide +kernel
theorem dJ6_getChars_ba4f3_21 : decode cJ6_getChars_ba4f3 21 = .ok (.istore_n 0, 1) := by decide +kernel
theorem dJ6_getChars_ba4f3_22 : decode cJ6_getChars_ba4f3 22 = .ok (.iload_n 0, 1) := by decide +kernel
theorem dJ6_getChars_ba4f3_23 : decode cJ6_getChars_ba4f3 23 = .ok (.bipush (-100), 2) := by decide +kernel
theorem dJ6_getChars_ba4f3_25 : decode cJ6_getChars_ba4f3 25 = .ok (.if_icmp .gt 47, 3) := by decide +kernel
theorem dJ6_getChars_ba4f3_28 : decode cJ6_getChars_ba4f3 28 = .ok (.iload_n 0, 1) := by decide +kernel
theorem dJ6_getChars_ba4f3_29 : decode cJ6_getChars_ba4f3 29 = .ok (.bipush 100, 2) := by decide +kernel
theorem dJ6_getChars_ba4f3_31 : decode cJ6_getChars_ba4f3 31 = .ok (.idiv, 1) := by decide +kernel
theorem dJ6_getChars_ba4f3_32 : decode cJ6_getChars_ba4f3 32 = .ok (.istore_n 3, 1) := by decide +kernel
theorem dJ6_getChars_ba4f3_33 : decode cJ6_getChars_ba4f3 33 = .ok (.iload_n 3, 1) := by decide +kernel
theorem dJ6_getChars_ba4f3_34 : decode cJ6_getChars_ba4f3 34 = .ok (.bipush 100, 2) := by decide +kernel
theorem dJ6_getChars_ba4f3_36 : decode cJ6_getChars_ba4f3 36 = .ok (.imul, 1) := by decide +kernel
theorem dJ6_getChars_ba4f3_37 : decode cJ6_getChars_ba4f3 37 = .ok (.iload_n 0, 1) := by decide +kernel
theorem dJ6_getChars_ba4f3_38 : decode cJ6_getChars_ba4f3 38 = .ok (.isub, 1) := by decide +kernel
theorem dJ6_getChars_ba4f3_39 : decode cJ6_getChars_ba4f3 39 = .ok (.istore 4, 2) := by decide +kernel
theorem dJ6_getChars_ba4f3_41 : decode cJ6_getChars_ba4f3 41 = .ok (.iload_n 3, 1) := by decide +kernel
theorem dJ6_getChars_ba4f3_42 : decode cJ6_getChars_ba4f3 42 = .ok (.istore_n 0, 1) := by decide +kernel
theorem dJ6_getChars_ba4f3_43 : decode cJ6_getChars_ba4f3 43 = .ok (.aload_n 2, 1) := by decide +kernel
theorem dJ6_getChars_ba4f3_44 : decode cJ6_getChars_ba4f3 44 = .ok (.iinc 5 (-1), 3) := by decide +kernel
theorem dJ6_getChars_ba4f3_47 : decode cJ6_getChars_ba4f3 47 = .ok (.iload 5, 2) := by decide +kernel
theorem dJ6_getChars_ba4f3_49 : decode cJ6_getChars_ba4f3 49 = .ok (.getstatic 83, 3) := by decide +kernel
theorem dJ6_getChars_ba4f3_52 : decode cJ6_getChars_ba4f3 52 = .ok (.iload 4, 2) := by decide +kernel
theorem dJ6_getChars_ba4f3_54 : decode cJ6_getChars_ba4f3 54 = .ok (.baload, 1) := by decide +kernel
theorem dJ6_getChars_ba4f3_55 : decode cJ6_getChars_ba4f3 55 = .ok (.bastore, 1) := by decide +kernel
theorem dJ6_getChars_ba4f3_56 : decode cJ6_getChars_ba4f3 56 = .ok (.aload_n 2, 1) := by decide +kernel
theorem dJ6_getChars_ba4f3_57 : decode cJ6_getChars_ba4f3 57 = .ok (.iinc 5 (-1), 3) := by decide +kernel
theorem dJ6_getChars_ba4f3_60 : decode cJ6_getChars_ba4f3 60 = .ok (.iload 5, 2) := by decide +kernel
theorem dJ6_getChars_ba4f3_62 : decode cJ6_getChars_ba4f3 62 = .ok (.getstatic 87, 3) := by decide +kernel
theorem dJ6_getChars_ba4f3_65 : decode cJ6_getChars_ba4f3 65 = .ok (.iload 4, 2) := by decide +kernel
theorem dJ6_getChars_ba4f3_67 : decode cJ6_getChars_ba4f3 67 = .ok (.baload, 1) := by decide +kernel
theorem dJ6_getChars_ba4f3_68 : decode cJ6_getChars_ba4f3 68 = .ok (.bastore, 1) := by decide +kernel
theorem dJ6_getChars_ba4f3_69 : decode cJ6_getChars_ba4f3 69 = .ok (.goto (-47), 3) := by decide +kernel
theorem dJ6_getChars_ba4f3_72 : decode cJ6_getChars_ba4f3 72 = .ok (.aload_n 2, 1) := by decide +kernel
theorem dJ6_getChars_ba4f3_73 : decode cJ6_getChars_ba4f3 73 = .ok (.iinc 5 (-1), 3) := by decide +kernel
theorem dJ6_getChars_ba4f3_76 : decode cJ6_getChars_ba4f3 76 = .ok (.iload 5, 2) := by decide +kernel
theorem dJ6_getChars_ba4f3_78 : decode cJ6_getChars_ba4f3 78 = .ok (.getstatic 83, 3) := by decide +kernel
theorem dJ6_getChars_ba4f3_81 : decode cJ6_getChars_ba4f3 81 = .ok (.iload_n 0, 1) := by decide +kernel
theorem dJ6_getChars_ba4f3_82 : decode cJ6_getChars_ba4f3 82 = .ok (.ineg, 1) := by decide +kernel
theorem dJ6_getChars_ba4f3_83 : decode cJ6_getChars_ba4f3 83 = .ok (.baload, 1) := by decide +kernel
theorem dJ6_getChars_ba4f3_84 : decode cJ6_getChars_ba4f3 84 = .ok (.bastore, 1) := by decide +kernel
theorem dJ6_getChars_ba4f3_85 : decode cJ6_getChars_ba4f3 85 = .ok (.iload_n 0, 1) := by decide +kernel
theorem dJ6_getChars_ba4f3_86 : decode cJ6_getChars_ba4f3 86 = .ok (.bipush (-9), 2) := by decide +kernel
theorem dJ6_getChars_ba4f3_88 : decode cJ6_getChars_ba4f3 88 = .ok (.if_icmp .ge 16, 3) := by decide +kernel
theorem dJ6_getChars_ba4f3_91 : decode cJ6_getChars_ba4f3 91 = .ok (.aload_n 2, 1) := by decide +kernel
theorem dJ6_getChars_ba4f3_92 : decode cJ6_getChars_ba4f3 92 = .ok (.iinc 5 (-1), 3) := by decide +kernel
theorem dJ6_getChars_ba4f3_95 : decode cJ6_getChars_ba4f3 95 = .ok (.iload 5, 2) := by decide +kernel
theorem dJ6_getChars_ba4f3_97 : decode cJ6_getChars_ba4f3 97 = .ok (.getstatic 87, 3) := by decide +kernel
theorem dJ6_getChars_ba4f3_100 : decode cJ6_getChars_ba4f3 100 = .ok (.iload_n 0, 1) := by decide +kernel
theorem dJ6_getChars_ba4f3_101 : decode cJ6_getChars_ba4f3 101 = .ok (.ineg, 1) := by decide +kernel
theorem dJ6_getChars_ba4f3_102 : decode cJ6_getChars_ba4f3 102 = .ok (.baload, 1) := by decide +kernel
theorem dJ6_getChars_ba4f3_103 : decode cJ6_getChars_ba4f3 103 = .ok (.bastore, 1) := by decide +kernel
theorem dJ6_getChars_ba4f3_104 : decode cJ6_getChars_ba4f3 104 = .ok (.iload 6, 2) := by decide +kernel
theorem dJ6_getChars_ba4f3_106 : decode cJ6_getChars_ba4f3 106 = .ok (.ifCond .eq 12, 3) := by decide +kernel
theorem dJ6_getChars_ba4f3_109 : decode cJ6_getChars_ba4f3 109 = .ok (.aload_n 2, 1) := by decide +kernel
theorem dJ6_getChars_ba4f3_110 : decode cJ6_getChars_ba4f3 110 = .ok (.iinc 5 (-1), 3) := by decide +kernel
theorem dJ6_getChars_ba4f3_113 : decode cJ6_getChars_ba4f3 113 = .ok (.iload 5, 2) := by decide +kernel
theorem dJ6_getChars_ba4f3_115 : decode cJ6_getChars_ba4f3 115 = .ok (.bipush 45, 2) := by decide +kernel
theorem dJ6_getChars_ba4f3_117 : decode cJ6_getChars_ba4f3 117 = .ok (.bastore, 1) := by decide +kernel
theorem dJ6_getChars_ba4f3_118 : decode cJ6_getChars_ba4f3 118 = .ok (.iload 5, 2) := by decide +kernel
theorem dJ6_getChars_ba4f3_120 : decode cJ6_getChars_ba4f3 120 = .ok (.ireturn, 1) := by decide +kernel
theorem dJ6_stringSize_0f7a4_0 : decode cJ6_stringSize_0f7a4 0 = .ok (.iconst 1, 1) := by decide +kernel
theorem dJ6_stringSize_0f7a4_1 : decode cJ6_stringSize_0f7a4 1 = .ok (.istore_n 1, 1) := by decide +kernel
theorem dJ6_stringSize_0f7a4_2 : decode cJ6_stringSize_0f7a4 2 = .ok (.iload_n 0, 1) := by decide +kernel
theorem dJ6_stringSize_0f7a4_3 : decode cJ6_stringSize_0f7a4 3 = .ok (.ifCond .lt 8, 3) := by decide +kernel
theorem dJ6_stringSize_0f7a4_6 : decode cJ6_stringSize_0f7a4 6 = .ok (.iconst 0, 1) := by decide +kernel
theorem dJ6_stringSize_0f7a4_7 : decode cJ6_stringSize_0f7a4 7 = .ok (.istore_n 1, 1) := by decide +kernel
theorem dJ6_stringSize_0f7a4_8 : decode cJ6_stringSize_0f7a4 8 = .ok (.iload_n 0, 1) := by decide +kernel
theorem dJ6_stringSize_0f7a4_9 : decode cJ6_stringSize_0f7a4 9 = .ok (.ineg, 1) := by decide +kernel
theorem dJ6_stringSize_0f7a4_10 : decode cJ6_stringSize_0f7a4 10 = .ok (.istore_n 0, 1) := by decide +kernel
theorem dJ6_stringSize_0f7a4_11 : decode cJ6_stringSize_0f7a4 11 = .ok (.bipush (-10), 2) := by decide +kernel
theorem dJ6_stringSize_0f7a4_13 : decode cJ6_stringSize_0f7a4 13 = .ok (.istore_n 2, 1) := by decide +kernel
theorem dJ6_stringSize_0f7a4_14 : decode cJ6_stringSize_0f7a4 14 = .ok (.iconst 1, 1) := by decide +kernel
theorem dJ6_stringSize_0f7a4_15 : decode cJ6_stringSize_0f7a4 15 = .ok (.istore_n 3, 1) := by decide +kernel
theorem dJ6_stringSize_0f7a4_16 : decode cJ6_stringSize_0f7a4 16 = .ok (.iload_n 3, 1) := by decide +kernel
theorem dJ6_stringSize_0f7a4_17 : decode cJ6_stringSize_0f7a4 17 = .ok (.bipush 10, 2) := by decide +kernel
theorem dJ6_stringSize_0f7a4_19 : decode cJ6_stringSize_0f7a4 19 = .ok (.if_icmp .ge 23, 3) := by decide +kernel
theorem dJ6_stringSize_0f7a4_22 : decode cJ6_stringSize_0f7a4 22 = .ok (.iload_n 0, 1) := by decide +kernel
theorem dJ6_stringSize_0f7a4_23 : decode cJ6_stringSize_0f7a4 23 = .ok (.iload_n 2, 1) := by decide +kernel
theorem dJ6_stringSize_0f7a4_24 : decode cJ6_stringSize_0f7a4 24 = .ok (.if_icmp .le 7, 3) := by decide +kernel
theorem dJ6_stringSize_0f7a4_27 : decode cJ6_stringSize_0f7a4 27 = .ok (.iload_n 3, 1) := by decide +kernel
theorem dJ6_stringSize_0f7a4_28 : decode cJ6_stringSize_0f7a4 28 = .ok (.iload_n 1, 1) := by decide +kernel
theorem dJ6_stringSize_0f7a4_29 : decode cJ6_stringSize_0f7a4 29 = .ok (.iadd, 1) := by decide +kernel
theorem dJ6_stringSize_0f7a4_30 : decode cJ6_stringSize_0f7a4 30 = .ok (.ireturn, 1) := by decide +kernel
theorem dJ6_stringSize_0f7a4_31 : decode cJ6_stringSize_0f7a4 31 = .ok (.bipush 10, 2) := by decide +kernel
theorem dJ6_stringSize_0f7a4_33 : decode cJ6_stringSize_0f7a4 33 = .ok (.iload_n 2, 1) := by decide +kernel
theorem dJ6_stringSize_0f7a4_34 : decode cJ6_stringSize_0f7a4 34 = .ok (.imul, 1) := by decide +kernel
theorem dJ6_stringSize_0f7a4_35 : decode cJ6_stringSize_0f7a4 35 = .ok (.istore_n 2, 1) := by decide +kernel
theorem dJ6_stringSize_0f7a4_36 : decode cJ6_stringSize_0f7a4 36 = .ok (.iinc 3 1, 3) := by decide +kernel
theorem dJ6_stringSize_0f7a4_39 : decode cJ6_stringSize_0f7a4 39 = .ok (.goto (-23), 3) := by decide +kernel
theorem dJ6_stringSize_0f7a4_42 : decode cJ6_stringSize_0f7a4 42 = .ok (.bipush 10, 2) := by decide +kernel
theorem dJ6_stringSize_0f7a4_44 : decode cJ6_stringSize_0f7a4 44 = .ok (.iload_n 1, 1) := by decide +kernel
theorem dJ6_stringSize_0f7a4_45 : decode cJ6_stringSize_0f7a4 45 = .ok (.iadd, 1) := by decide +kernel
theorem dJ6_stringSize_0f7a4_46 : decode cJ6_stringSize_0f7a4 46 = .ok (.ireturn, 1) := by decide +kernel
theorem dJ9_max_7cf53_0 : decode cJ9_max_7cf53 0 = .ok (.iload_n 0, 1) := by decide +kernel
theorem dJ9_max_7cf53_1 : decode cJ9_max_7cf53 1 = .ok (.iload_n 1, 1) := by decide +kernel
theorem dJ9_max_7cf53_2 : decode cJ9_max_7cf53 2 = .ok (.if_icmp .lt 7, 3) := by decide +kernel
theorem dJ9_max_7cf53_5 : decode cJ9_max_7cf53 5 = .ok (.iload_n 0, 1) := by decide +kernel
theorem dJ9_max_7cf53_6 : decode cJ9_max_7cf53 6 = .ok (.goto 4, 3) := by decide +kernel
theorem dJ9_max_7cf53_9 : decode cJ9_max_7cf53 9 = .ok (.iload_n 1, 1) := by decide +kernel
theorem dJ9_max_7cf53_10 : decode cJ9_max_7cf53 10 = .ok (.ireturn, 1) := by decide +kernel
theorem dJ9_min_7cf53_0 : decode cJ9_min_7cf53 0 = .ok (.iload_n 0, 1) := by decide +kernel
theorem dJ9_min_7cf53_1 : decode cJ9_min_7cf53 1 = .ok (.iload_n 1, 1) := by decide +kernel
theorem dJ9_min_7cf53_2 : decode cJ9_min_7cf53 2 = .ok (.if_icmp .gt 7, 3) := by decide +kernel
theorem dJ9_min_7cf53_5 : decode cJ9_min_7cf53 5 = .ok (.iload_n 0, 1) := by decide +kernel
theorem dJ9_min_7cf53_6 : decode cJ9_min_7cf53 6 = .ok (.goto 4, 3) := by decide +kernel
theorem dJ9_min_7cf53_9 : decode cJ9_min_7cf53 9 = .ok (.iload_n 1, 1) := by decide +kernel
theorem dJ9_min_7cf53_10 : decode cJ9_min_7cf53 10 = .ok (.ireturn, 1) := by decide +kernel
theorem dJ0_length_8abf5_0 : decode cJ0_length_8abf5 0 = .ok (.aload_n 0, 1) := by decide +kernel
theorem dJ0_length_8abf5_1 : decode cJ0_length_8abf5 1 = .ok (.getfield 9, 3) := by decide +kernel
theorem dJ0_length_8abf5_4 : decode cJ0_length_8abf5 4 = .ok (.arraylength, 1) := by decide +kernel
theorem dJ0_length_8abf5_5 : decode cJ0_length_8abf5 5 = .ok (.aload_n 0, 1) := by decide +kernel
theorem dJ0_length_8abf5_6 : decode cJ0_length_8abf5 6 = .ok (.invokevirtual 335, 3) := by decide +kernel
theorem dJ0_length_8abf5_9 : decode cJ0_length_8abf5 9 = .ok (.ishr, 1) := by decide +kernel
theorem dJ0_length_8abf5_10 : decode cJ0_length_8abf5 10 = .ok (.ireturn, 1) := by decide +kernel
theorem dJ0_isEmpty_aae02_0 : decode cJ0_isEmpty_aae02 0 = .ok (.aload_n 0, 1) := by decide +kernel
theorem dJ0_isEmpty_aae02_1 : decode cJ0_isEmpty_aae02 1 = .ok (.getfield 9, 3) := by decide +kernel
theorem dJ0_isEmpty_aae02_4 : decode cJ0_isEmpty_aae02 4 = .ok (.arraylength, 1) := by decide +kernel
theorem dJ0_isEmpty_aae02_5 : decode cJ0_isEmpty_aae02 5 = .ok (.ifCond .ne 7, 3) := by decide +kernel
theorem dJ0_isEmpty_aae02_8 : decode cJ0_isEmpty_aae02 8 = .ok (.iconst 1, 1) := by decide +kernel
theorem dJ0_isEmpty_aae02_9 : decode cJ0_isEmpty_aae02 9 = .ok (.goto 4, 3) := by decide +kernel
theorem dJ0_isEmpty_aae02_12 : decode cJ0_isEmpty_aae02 12 = .ok (.iconst 0, 1) := by decide +kernel
theorem dJ0_isEmpty_aae02_13 : decode cJ0_isEmpty_aae02 13 = .ok (.ireturn, 1) := by decide +kernel
theorem dJ0_charAt_5068e_0 : decode cJ0_charAt_5068e 0 = .ok (.aload_n 0, 1) := by decide +kernel
theorem dJ0_charAt_5068e_1 : decode cJ0_charAt_5068e 1 = .ok (.invokevirtual 492, 3) := by decide +kernel
theorem dJ0_charAt_5068e_4 : decode cJ0_charAt_5068e 4 = .ok (.ifCond .eq 12, 3) := by decide +kernel
theorem dJ0_charAt_5068e_7 : decode cJ0_charAt_5068e 7 = .ok (.aload_n 0, 1) := by decide +kernel
theorem dJ0_charAt_5068e_8 : decode cJ0_charAt_5068e 8 = .ok (.getfield 9, 3) := by decide +kernel
theorem dJ0_charAt_5068e_11 : decode cJ0_charAt_5068e 11 = .ok (.iload_n 1, 1) := by decide +kernel
theorem dJ0_charAt_5068e_12 : decode cJ0_charAt_5068e 12 = .ok (.invokestatic 495, 3) := by decide +kernel
theorem dJ0_charAt_5068e_15 : decode cJ0_charAt_5068e 15 = .ok (.ireturn, 1) := by decide +kernel
theorem dJ0_charAt_5068e_16 : decode cJ0_charAt_5068e 16 = .ok (.aload_n 0, 1) := by decide +kernel
theorem dJ0_charAt_5068e_17 : decode cJ0_charAt_5068e 17 = .ok (.getfield 9, 3) := by decide +kernel
theorem dJ0_charAt_5068e_20 : decode cJ0_charAt_5068e 20 = .ok (.iload_n 1, 1) := by decide +kernel
theorem dJ0_charAt_5068e_21 : decode cJ0_charAt_5068e 21 = .ok (.invokestatic 498, 3) := by decide +kernel
theorem dJ0_charAt_5068e_24 : decode cJ0_charAt_5068e 24 = .ok (.ireturn, 1) := by decide +kernel
theorem dJ0_getBytes_840e7_0 : decode cJ0_getBytes_840e7 0 = .ok (.aload_n 0, 1) := by decide +kernel
theorem dJ0_getBytes_840e7_1 : decode cJ0_getBytes_840e7 1 = .ok (.invokevirtual 335, 3) := by decide +kernel
theorem dJ0_getBytes_840e7_4 : decode cJ0_getBytes_840e7 4 = .ok (.iload_n 3, 1) := by decide +kernel
theorem dJ0_getBytes_840e7_5 : decode cJ0_getBytes_840e7 5 = .ok (.if_icmp .ne 23, 3) := by decide +kernel
theorem dJ0_getBytes_840e7_8 : decode cJ0_getBytes_840e7 8 = .ok (.aload_n 0, 1) := by decide +kernel
theorem dJ0_getBytes_840e7_9 : decode cJ0_getBytes_840e7 9 = .ok (.getfield 9, 3) := by decide +kernel
theorem dJ0_getBytes_840e7_12 : decode cJ0_getBytes_840e7 12 = .ok (.iconst 0, 1) := by decide +kernel
theorem dJ0_getBytes_840e7_13 : decode cJ0_getBytes_840e7 13 = .ok (.aload_n 1, 1) := by decide +kernel
theorem dJ0_getBytes_840e7_14 : decode cJ0_getBytes_840e7 14 = .ok (.iload_n 2, 1) := by decide +kernel
theorem dJ0_getBytes_840e7_15 : decode cJ0_getBytes_840e7 15 = .ok (.iload_n 3, 1) := by decide +kernel
theorem dJ0_getBytes_840e7_16 : decode cJ0_getBytes_840e7 16 = .ok (.ishl, 1) := by decide +kernel
theorem dJ0_getBytes_840e7_17 : decode cJ0_getBytes_840e7 17 = .ok (.aload_n 0, 1) := by decide +kernel
theorem dJ0_getBytes_840e7_18 : decode cJ0_getBytes_840e7 18 = .ok (.getfield 9, 3) := by decide +kernel
theorem dJ0_getBytes_840e7_21 : decode cJ0_getBytes_840e7 21 = .ok (.arraylength, 1) := by decide +kernel
theorem dJ0_getBytes_840e7_22 : decode cJ0_getBytes_840e7 22 = .ok (.invokestatic 212, 3) := by decide +kernel
theorem dJ0_getBytes_840e7_25 : decode cJ0_getBytes_840e7 25 = .ok (.goto 18, 3) := by decide +kernel
theorem dJ0_getBytes_840e7_28 : decode cJ0_getBytes_840e7 28 = .ok (.aload_n 0, 1) := by decide +kernel
theorem dJ0_getBytes_840e7_29 : decode cJ0_getBytes_840e7 29 = .ok (.getfield 9, 3) := by decide +kernel
theorem dJ0_getBytes_840e7_32 : decode cJ0_getBytes_840e7 32 = .ok (.iconst 0, 1) := by decide +kernel
theorem dJ0_getBytes_840e7_33 : decode cJ0_getBytes_840e7 33 = .ok (.aload_n 1, 1) := by decide +kernel
theorem dJ0_getBytes_840e7_34 : decode cJ0_getBytes_840e7 34 = .ok (.iload_n 2, 1) := by decide +kernel
theorem dJ0_getBytes_840e7_35 : decode cJ0_getBytes_840e7 35 = .ok (.aload_n 0, 1) := by decide +kernel
theorem dJ0_getBytes_840e7_36 : decode cJ0_getBytes_840e7 36 = .ok (.getfield 9, 3) := by decide +kernel
theorem dJ0_getBytes_840e7_39 : decode cJ0_getBytes_840e7 39 = .ok (.arraylength, 1) := by decide +kernel
theorem dJ0_getBytes_840e7_40 : decode cJ0_getBytes_840e7 40 = .ok (.invokestatic 106, 3) := by decide +kernel
theorem dJ0_getBytes_840e7_43 : decode cJ0_getBytes_840e7 43 = .ok (.return_, 1) := by decide +kernel
theorem dJ0_coder_7d493_0 : decode cJ0_coder_7d493 0 = .ok (.getstatic 38, 3) := by decide +kernel
theorem dJ0_coder_7d493_3 : decode cJ0_coder_7d493 3 = .ok (.ifCond .eq 10, 3) := by decide +kernel
theorem dJ0_coder_7d493_6 : decode cJ0_coder_7d493 6 = .ok (.aload_n 0, 1) := by decide +kernel
theorem dJ0_coder_7d493_7 : decode cJ0_coder_7d493 7 = .ok (.getfield 15, 3) := by decide +kernel
theorem dJ0_coder_7d493_10 : decode cJ0_coder_7d493 10 = .ok (.goto 4, 3) := by decide +kernel
theorem dJ0_coder_7d493_13 : decode cJ0_coder_7d493 13 = .ok (.iconst 1, 1) := by decide +kernel
theorem dJ0_coder_7d493_14 : decode cJ0_coder_7d493 14 = .ok (.ireturn, 1) := by decide +kernel
theorem dJ0_isLatin1_aae02_0 : decode cJ0_isLatin1_aae02 0 = .ok (.getstatic 38, 3) := by decide +kernel
theorem dJ0_isLatin1_aae02_3 : decode cJ0_isLatin1_aae02 3 = .ok (.ifCond .eq 14, 3) := by decide +kernel
theorem dJ0_isLatin1_aae02_6 : decode cJ0_isLatin1_aae02 6 = .ok (.aload_n 0, 1) := by decide +kernel
theorem dJ0_isLatin1_aae02_7 : decode cJ0_isLatin1_aae02 7 = .ok (.getfield 15, 3) := by decide +kernel
theorem dJ0_isLatin1_aae02_10 : decode cJ0_isLatin1_aae02 10 = .ok (.ifCond .ne 7, 3) := by decide +kernel
theorem dJ0_isLatin1_aae02_13 : decode cJ0_isLatin1_aae02 13 = .ok (.iconst 1, 1) := by decide +kernel
theorem dJ0_isLatin1_aae02_14 : decode cJ0_isLatin1_aae02 14 = .ok (.goto 4, 3) := by decide +kernel
theorem dJ0_isLatin1_aae02_17 : decode cJ0_isLatin1_aae02 17 = .ok (.iconst 0, 1) := by decide +kernel
theorem dJ0_isLatin1_aae02_18 : decode cJ0_isLatin1_aae02 18 = .ok (.ireturn, 1) := by decide +kernel
theorem dJ0_checkIndex_df160_0 : decode cJ0_checkIndex_df160 0 = .ok (.iload_n 0, 1) := by decide +kernel
theorem dJ0_checkIndex_df160_1 : decode cJ0_checkIndex_df160 1 = .ok (.iload_n 1, 1) := by decide +kernel
theorem dJ0_checkIndex_df160_2 : decode cJ0_checkIndex_df160 2 = .ok (.getstatic 1053, 3) := by decide +kernel
theorem dJ0_checkIndex_df160_5 : decode cJ0_checkIndex_df160 5 = .ok (.invokestatic 1059, 3) := by decide +kernel
theorem dJ0_checkIndex_df160_8 : decode cJ0_checkIndex_df160 8 = .ok (.pop, 1) := by decide +kernel
theorem dJ0_checkIndex_df160_9 : decode cJ0_checkIndex_df160 9 = .ok (.return_, 1) := by decide +kernel
theorem dJ0_checkBoundsOffCount_cabcc_0 : decode cJ0_checkBoundsOffCount_cabcc 0 = .ok (.iload_n 0, 1) := by decide +kernel
theorem dJ0_checkBoundsOffCount_cabcc_1 : decode cJ0_checkBoundsOffCount_cabcc 1 = .ok (.iload_n 1, 1) := by decide +kernel
theorem dJ0_checkBoundsOffCount_cabcc_2 : decode cJ0_checkBoundsOffCount_cabcc 2 = .ok (.iload_n 2, 1) := by decide +kernel
theorem dJ0_checkBoundsOffCount_cabcc_3 : decode cJ0_checkBoundsOffCount_cabcc 3 = .ok (.getstatic 1053, 3) := by decide +kernel
theorem dJ0_checkBoundsOffCount_cabcc_6 : decode cJ0_checkBoundsOffCount_cabcc 6 = .ok (.invokestatic 1065, 3) := by decide +kernel
theorem dJ0_checkBoundsOffCount_cabcc_9 : decode cJ0_checkBoundsOffCount_cabcc 9 = .ok (.ireturn, 1) := by decide +kernel
theorem dJ0_checkBoundsBeginEnd_23922_0 : decode cJ0_checkBoundsBeginEnd_23922 0 = .ok (.iload_n 0, 1) := by decide +kernel
theorem dJ0_checkBoundsBeginEnd_23922_1 : decode cJ0_checkBoundsBeginEnd_23922 1 = .ok (.iload_n 1, 1) := by decide +kernel
theorem dJ0_checkBoundsBeginEnd_23922_2 : decode cJ0_checkBoundsBeginEnd_23922 2 = .ok (.iload_n 2, 1) := by decide +kernel
theorem dJ0_checkBoundsBeginEnd_23922_3 : decode cJ0_checkBoundsBeginEnd_23922 3 = .ok (.getstatic 1053, 3) := by decide +kernel
theorem dJ0_checkBoundsBeginEnd_23922_6 : decode cJ0_checkBoundsBeginEnd_23922 6 = .ok (.invokestatic 1062, 3) := by decide +kernel
theorem dJ0_checkBoundsBeginEnd_23922_9 : decode cJ0_checkBoundsBeginEnd_23922 9 = .ok (.pop, 1) := by decide +kernel
theorem dJ0_checkBoundsBeginEnd_23922_10 : decode cJ0_checkBoundsBeginEnd_23922 10 = .ok (.return_, 1) := by decide +kernel
theorem dJ4_init_da8c8_0 : decode cJ4_init_da8c8 0 = .ok (.aload_n 0, 1) := by decide +kernel
theorem dJ4_init_da8c8_1 : decode cJ4_init_da8c8 1 = .ok (.bipush 16, 2) := by decide +kernel
theorem dJ4_init_da8c8_3 : decode cJ4_init_da8c8 3 = .ok (.invokespecial 1, 3) := by decide +kernel
theorem dJ4_init_da8c8_6 : decode cJ4_init_da8c8 6 = .ok (.return_, 1) := by decide +kernel
theorem dJ4_append_15ec4_0 : decode cJ4_append_15ec4 0 = .ok (.aload_n 0, 1) := by decide +kernel
theorem dJ4_append_15ec4_1 : decode cJ4_append_15ec4 1 = .ok (.aload_n 1, 1) := by decide +kernel
theorem dJ4_append_15ec4_2 : decode cJ4_append_15ec4 2 = .ok (.invokespecial 29, 3) := by decide +kernel
theorem dJ4_append_15ec4_5 : decode cJ4_append_15ec4 5 = .ok (.pop, 1) := by decide +kernel
theorem dJ4_append_15ec4_6 : decode cJ4_append_15ec4 6 = .ok (.aload_n 0, 1) := by decide +kernel
theorem dJ4_append_15ec4_7 : decode cJ4_append_15ec4 7 = .ok (.areturn, 1) := by decide +kernel
theorem dJ4_append_cf468_0 : decode cJ4_append_cf468 0 = .ok (.aload_n 0, 1) := by decide +kernel
theorem dJ4_append_cf468_1 : decode cJ4_append_cf468 1 = .ok (.iload_n 1, 1) := by decide +kernel
theorem dJ4_append_cf468_2 : decode cJ4_append_cf468 2 = .ok (.invokespecial 50, 3) := by decide +kernel
theorem dJ4_append_cf468_5 : decode cJ4_append_cf468 5 = .ok (.pop, 1) := by decide +kernel
theorem dJ4_append_cf468_6 : decode cJ4_append_cf468 6 = .ok (.aload_n 0, 1) := by decide +kernel
theorem dJ4_append_cf468_7 : decode cJ4_append_cf468 7 = .ok (.areturn, 1) := by decide +kernel
theorem dJ4_append_bf812_0 : decode cJ4_append_bf812 0 = .ok (.aload_n 0, 1) := by decide +kernel
theorem dJ4_append_bf812_1 : decode cJ4_append_bf812 1 = .ok (.iload_n 1, 1) := by decide +kernel
theorem dJ4_append_bf812_2 : decode cJ4_append_bf812 2 = .ok (.invokespecial 53, 3) := by decide +kernel
theorem dJ4_append_bf812_5 : decode cJ4_append_bf812 5 = .ok (.pop, 1) := by decide +kernel
theorem dJ4_append_bf812_6 : decode cJ4_append_bf812 6 = .ok (.aload_n 0, 1) := by decide +kernel
theorem dJ4_append_bf812_7 : decode cJ4_append_bf812 7 = .ok (.areturn, 1) := by decide +kernel
theorem dJ4_charAt_5068e_0 : decode cJ4_charAt_5068e 0 = .ok (.aload_n 0, 1) := by decide +kernel
theorem dJ4_charAt_5068e_1 : decode cJ4_charAt_5068e 1 = .ok (.iload_n 1, 1) := by decide +kernel
theorem dJ4_charAt_5068e_2 : decode cJ4_charAt_5068e 2 = .ok (.invokespecial 329, 3) := by decide +kernel
theorem dJ4_charAt_5068e_5 : decode cJ4_charAt_5068e 5 = .ok (.ireturn, 1) := by decide +kernel
theorem dJ4_setLength_d00df_0 : decode cJ4_setLength_d00df 0 = .ok (.aload_n 0, 1) := by decide +kernel
theorem dJ4_setLength_d00df_1 : decode cJ4_setLength_d00df 1 = .ok (.iload_n 1, 1) := by decide +kernel
theorem dJ4_setLength_d00df_2 : decode cJ4_setLength_d00df 2 = .ok (.invokespecial 333, 3) := by decide +kernel
theorem dJ4_setLength_d00df_5 : decode cJ4_setLength_d00df 5 = .ok (.return_, 1) := by decide +kernel
theorem dJ4_length_8abf5_0 : decode cJ4_length_8abf5 0 = .ok (.aload_n 0, 1) := by decide +kernel
theorem dJ4_length_8abf5_1 : decode cJ4_length_8abf5 1 = .ok (.invokespecial 343, 3) := by decide +kernel
theorem dJ4_length_8abf5_4 : decode cJ4_length_8abf5 4 = .ok (.ireturn, 1) := by decide +kernel
theorem dJ1_charAt_3b067_0 : decode cJ1_charAt_3b067 0 = .ok (.iload_n 1, 1) := by decide +kernel
theorem dJ1_charAt_3b067_1 : decode cJ1_charAt_3b067 1 = .ok (.aload_n 0, 1) := by decide +kernel
theorem dJ1_charAt_3b067_2 : decode cJ1_charAt_3b067 2 = .ok (.arraylength, 1) := by decide +kernel
theorem dJ1_charAt_3b067_3 : decode cJ1_charAt_3b067 3 = .ok (.invokestatic 9, 3) := by decide +kernel
theorem dJ1_charAt_3b067_6 : decode cJ1_charAt_3b067 6 = .ok (.aload_n 0, 1) := by decide +kernel
theorem dJ1_charAt_3b067_7 : decode cJ1_charAt_3b067 7 = .ok (.iload_n 1, 1) := by decide +kernel
theorem dJ1_charAt_3b067_8 : decode cJ1_charAt_3b067 8 = .ok (.baload, 1) := by decide +kernel
theorem dJ1_charAt_3b067_9 : decode cJ1_charAt_3b067 9 = .ok (.sipush 255, 3) := by decide +kernel
theorem dJ1_charAt_3b067_12 : decode cJ1_charAt_3b067 12 = .ok (.iand, 1) := by decide +kernel
theorem dJ1_charAt_3b067_13 : decode cJ1_charAt_3b067 13 = .ok (.i2c, 1) := by decide +kernel
theorem dJ1_charAt_3b067_14 : decode cJ1_charAt_3b067 14 = .ok (.ireturn, 1) := by decide +kernel
theorem dJ1_canEncode_fc78d_0 : decode cJ1_canEncode_fc78d 0 = .ok (.iload_n 0, 1) := by decide +kernel
theorem dJ1_canEncode_fc78d_1 : decode cJ1_canEncode_fc78d 1 = .ok (.sipush 255, 3) := by decide +kernel
theorem dJ1_canEncode_fc78d_4 : decode cJ1_canEncode_fc78d 4 = .ok (.if_icmp .gt 7, 3) := by decide +kernel
theorem dJ1_canEncode_fc78d_7 : decode cJ1_canEncode_fc78d 7 = .ok (.iconst 1, 1) := by decide +kernel
theorem dJ1_canEncode_fc78d_8 : decode cJ1_canEncode_fc78d 8 = .ok (.goto 4, 3) := by decide +kernel
theorem dJ1_canEncode_fc78d_11 : decode cJ1_canEncode_fc78d 11 = .ok (.iconst 0, 1) := by decide +kernel
theorem dJ1_canEncode_fc78d_12 : decode cJ1_canEncode_fc78d 12 = .ok (.ireturn, 1) := by decide +kernel
theorem dJ1_fillNull_b72d1_0 : decode cJ1_fillNull_b72d1 0 = .ok (.aload_n 0, 1) := by decide +kernel
theorem dJ1_fillNull_b72d1_1 : decode cJ1_fillNull_b72d1 1 = .ok (.iload_n 1, 1) := by decide +kernel
theorem dJ1_fillNull_b72d1_2 : decode cJ1_fillNull_b72d1 2 = .ok (.iload_n 2, 1) := by decide +kernel
theorem dJ1_fillNull_b72d1_3 : decode cJ1_fillNull_b72d1 3 = .ok (.iconst 0, 1) := by decide +kernel
theorem dJ1_fillNull_b72d1_4 : decode cJ1_fillNull_b72d1 4 = .ok (.invokestatic 236, 3) := by decide +kernel
theorem dJ1_fillNull_b72d1_7 : decode cJ1_fillNull_b72d1 7 = .ok (.return_, 1) := by decide +kernel
theorem dJ1_inflate_0e8fd_0 : decode cJ1_inflate_0e8fd 0 = .ok (.aload_n 0, 1) := by decide +kernel
theorem dJ1_inflate_0e8fd_1 : decode cJ1_inflate_0e8fd 1 = .ok (.iload_n 1, 1) := by decide +kernel
theorem dJ1_inflate_0e8fd_2 : decode cJ1_inflate_0e8fd 2 = .ok (.aload_n 2, 1) := by decide +kernel
theorem dJ1_inflate_0e8fd_3 : decode cJ1_inflate_0e8fd 3 = .ok (.iload_n 3, 1) := by decide +kernel
theorem dJ1_inflate_0e8fd_4 : decode cJ1_inflate_0e8fd 4 = .ok (.iload 4, 2) := by decide +kernel
theorem dJ1_inflate_0e8fd_6 : decode cJ1_inflate_0e8fd 6 = .ok (.invokestatic 240, 3) := by decide +kernel
theorem dJ1_inflate_0e8fd_9 : decode cJ1_inflate_0e8fd 9 = .ok (.return_, 1) := by decide +kernel
theorem dJ2_newBytesFor_77867_0 : decode cJ2_newBytesFor_77867 0 = .ok (.iload_n 0, 1) := by decide +kernel
theorem dJ2_newBytesFor_77867_1 : decode cJ2_newBytesFor_77867 1 = .ok (.invokestatic 11, 3) := by decide +kernel
theorem dJ2_newBytesFor_77867_4 : decode cJ2_newBytesFor_77867 4 = .ok (.newarray .byte, 2) := by decide +kernel
theorem dJ2_newBytesFor_77867_6 : decode cJ2_newBytesFor_77867 6 = .ok (.areturn, 1) := by decide +kernel
theorem dJ2_newBytesLength_0f7a4_0 : decode cJ2_newBytesLength_0f7a4 0 = .ok (.iload_n 0, 1) := by decide +kernel
theorem dJ2_newBytesLength_0f7a4_1 : decode cJ2_newBytesLength_0f7a4 1 = .ok (.ifCond .ge 11, 3) := by decide +kernel
theorem dJ2_newBytesLength_0f7a4_4 : decode cJ2_newBytesLength_0f7a4 4 = .ok (.new 17, 3) := by decide +kernel
theorem dJ2_newBytesLength_0f7a4_7 : decode cJ2_newBytesLength_0f7a4 7 = .ok (.dup, 1) := by decide +kernel
theorem dJ2_newBytesLength_0f7a4_8 : decode cJ2_newBytesLength_0f7a4 8 = .ok (.invokespecial 19, 3) := by decide +kernel
theorem dJ2_newBytesLength_0f7a4_11 : decode cJ2_newBytesLength_0f7a4 11 = .ok (.athrow, 1) := by decide +kernel
theorem dJ2_newBytesLength_0f7a4_12 : decode cJ2_newBytesLength_0f7a4 12 = .ok (.iload_n 0, 1) := by decide +kernel
theorem dJ2_newBytesLength_0f7a4_13 : decode cJ2_newBytesLength_0f7a4 13 = .ok (.ldc 20, 2) := by decide +kernel
theorem dJ2_newBytesLength_0f7a4_15 : decode cJ2_newBytesLength_0f7a4 15 = .ok (.if_icmp .lt 40, 3) := by decide +kernel
theorem dJ2_newBytesLength_0f7a4_18 : decode cJ2_newBytesLength_0f7a4 18 = .ok (.new 21, 3) := by decide +kernel
theorem dJ2_newBytesLength_0f7a4_21 : decode cJ2_newBytesLength_0f7a4 21 = .ok (.dup, 1) := by decide +kernel
theorem dJ2_newBytesLength_0f7a4_22 : decode cJ2_newBytesLength_0f7a4 22 = .ok (.new 23, 3) := by decide +kernel
theorem dJ2_newBytesLength_0f7a4_25 : decode cJ2_newBytesLength_0f7a4 25 = .ok (.dup, 1) := by decide +kernel
theorem dJ2_newBytesLength_0f7a4_26 : decode cJ2_newBytesLength_0f7a4 26 = .ok (.invokespecial 25, 3) := by decide +kernel
theorem dJ2_newBytesLength_0f7a4_29 : decode cJ2_newBytesLength_0f7a4 29 = .ok (.ldc 26, 2) := by decide +kernel
theorem dJ2_newBytesLength_0f7a4_31 : decode cJ2_newBytesLength_0f7a4 31 = .ok (.invokevirtual 28, 3) := by decide +kernel
theorem dJ2_newBytesLength_0f7a4_34 : decode cJ2_newBytesLength_0f7a4 34 = .ok (.iload_n 0, 1) := by decide +kernel
theorem dJ2_newBytesLength_0f7a4_35 : decode cJ2_newBytesLength_0f7a4 35 = .ok (.invokevirtual 32, 3) := by decide +kernel
theorem dJ2_newBytesLength_0f7a4_38 : decode cJ2_newBytesLength_0f7a4 38 = .ok (.ldc 35, 2) := by decide +kernel
theorem dJ2_newBytesLength_0f7a4_40 : decode cJ2_newBytesLength_0f7a4 40 = .ok (.invokevirtual 28, 3) := by decide +kernel
theorem dJ2_newBytesLength_0f7a4_43 : decode cJ2_newBytesLength_0f7a4 43 = .ok (.ldc 20, 2) := by decide +kernel
theorem dJ2_newBytesLength_0f7a4_45 : decode cJ2_newBytesLength_0f7a4 45 = .ok (.invokevirtual 32, 3) := by decide +kernel
theorem dJ2_newBytesLength_0f7a4_48 : decode cJ2_newBytesLength_0f7a4 48 = .ok (.invokevirtual 37, 3) := by decide +kernel
theorem dJ2_newBytesLength_0f7a4_51 : decode cJ2_newBytesLength_0f7a4 51 = .ok (.invokespecial 41, 3) := by decide +kernel
theorem dJ2_newBytesLength_0f7a4_54 : decode cJ2_newBytesLength_0f7a4 54 = .ok (.athrow, 1) := by decide +kernel
theorem dJ2_newBytesLength_0f7a4_55 : decode cJ2_newBytesLength_0f7a4 55 = .ok (.iload_n 0, 1) := by decide +kernel
theorem dJ2_newBytesLength_0f7a4_56 : decode cJ2_newBytesLength_0f7a4 56 = .ok (.iconst 1, 1) := by decide +kernel
theorem dJ2_newBytesLength_0f7a4_57 : decode cJ2_newBytesLength_0f7a4 57 = .ok (.ishl, 1) := by decide +kernel
theorem dJ2_newBytesLength_0f7a4_58 : decode cJ2_newBytesLength_0f7a4 58 = .ok (.ireturn, 1) := by decide +kernel
theorem dJ2_putChar_b72d1_0 : decode cJ2_putChar_b72d1 0 = .ok (.getstatic 44, 3) := by decide +kernel
theorem dJ2_putChar_b72d1_3 : decode cJ2_putChar_b72d1 3 = .ok (.ifCond .ne 25, 3) := by decide +kernel
theorem dJ2_putChar_b72d1_6 : decode cJ2_putChar_b72d1 6 = .ok (.iload_n 1, 1) := by decide +kernel
theorem dJ2_putChar_b72d1_7 : decode cJ2_putChar_b72d1 7 = .ok (.ifCond .lt 11, 3) := by decide +kernel
theorem dJ2_putChar_b72d1_10 : decode cJ2_putChar_b72d1 10 = .ok (.iload_n 1, 1) := by decide +kernel
theorem dJ2_putChar_b72d1_11 : decode cJ2_putChar_b72d1 11 = .ok (.aload_n 0, 1) := by decide +kernel
theorem dJ2_putChar_b72d1_12 : decode cJ2_putChar_b72d1 12 = .ok (.invokestatic 48, 3) := by decide +kernel
theorem dJ2_putChar_b72d1_15 : decode cJ2_putChar_b72d1 15 = .ok (.if_icmp .lt 13, 3) := by decide +kernel
theorem dJ2_putChar_b72d1_18 : decode cJ2_putChar_b72d1 18 = .ok (.new 52, 3) := by decide +kernel
theorem dJ2_putChar_b72d1_21 : decode cJ2_putChar_b72d1 21 = .ok (.dup, 1) := by decide +kernel
theorem dJ2_putChar_b72d1_22 : decode cJ2_putChar_b72d1 22 = .ok (.ldc 54, 2) := by decide +kernel
theorem dJ2_putChar_b72d1_24 : decode cJ2_putChar_b72d1 24 = .ok (.invokespecial 56, 3) := by decide +kernel
theorem dJ2_putChar_b72d1_27 : decode cJ2_putChar_b72d1 27 = .ok (.athrow, 1) := by decide +kernel
theorem dJ2_putChar_b72d1_28 : decode cJ2_putChar_b72d1 28 = .ok (.iload_n 1, 1) := by decide +kernel
theorem dJ2_putChar_b72d1_29 : decode cJ2_putChar_b72d1 29 = .ok (.iconst 1, 1) := by decide +kernel
theorem dJ2_putChar_b72d1_30 : decode cJ2_putChar_b72d1 30 = .ok (.ishl, 1) := by decide +kernel
theorem dJ2_putChar_b72d1_31 : decode cJ2_putChar_b72d1 31 = .ok (.istore_n 1, 1) := by decide +kernel
theorem dJ2_putChar_b72d1_32 : decode cJ2_putChar_b72d1 32 = .ok (.aload_n 0, 1) := by decide +kernel
theorem dJ2_putChar_b72d1_33 : decode cJ2_putChar_b72d1 33 = .ok (.iload_n 1, 1) := by decide +kernel
theorem dJ2_putChar_b72d1_34 : decode cJ2_putChar_b72d1 34 = .ok (.iinc 1 1, 3) := by decide +kernel
theorem dJ2_putChar_b72d1_37 : decode cJ2_putChar_b72d1 37 = .ok (.iload_n 2, 1) := by decide +kernel
theorem dJ2_putChar_b72d1_38 : decode cJ2_putChar_b72d1 38 = .ok (.getstatic 59, 3) := by decide +kernel
theorem dJ2_putChar_b72d1_41 : decode cJ2_putChar_b72d1 41 = .ok (.ishr, 1) := by decide +kernel
theorem dJ2_putChar_b72d1_42 : decode cJ2_putChar_b72d1 42 = .ok (.i2b, 1) := by decide +kernel
theorem dJ2_putChar_b72d1_43 : decode cJ2_putChar_b72d1 43 = .ok (.bastore, 1) := by decide +kernel
theorem dJ2_putChar_b72d1_44 : decode cJ2_putChar_b72d1 44 = .ok (.aload_n 0, 1) := by decide +kernel
theorem dJ2_putChar_b72d1_45 : decode cJ2_putChar_b72d1 45 = .ok (.iload_n 1, 1) := by decide +kernel
theorem dJ2_putChar_b72d1_46 : decode cJ2_putChar_b72d1 46 = .ok (.iload_n 2, 1) := by decide +kernel
theorem dJ2_putChar_b72d1_47 : decode cJ2_putChar_b72d1 47 = .ok (.getstatic 63, 3) := by decide +kernel
theorem dJ2_putChar_b72d1_50 : decode cJ2_putChar_b72d1 50 = .ok (.ishr, 1) := by decide +kernel
theorem dJ2_putChar_b72d1_51 : decode cJ2_putChar_b72d1 51 = .ok (.i2b, 1) := by decide +kernel
theorem dJ2_putChar_b72d1_52 : decode cJ2_putChar_b72d1 52 = .ok (.bastore, 1) := by decide +kernel
theorem dJ2_putChar_b72d1_53 : decode cJ2_putChar_b72d1 53 = .ok (.return_, 1) := by decide +kernel
theorem dJ2_getChar_3b067_0 : decode cJ2_getChar_3b067 0 = .ok (.getstatic 44, 3) := by decide +kernel
theorem dJ2_getChar_3b067_3 : decode cJ2_getChar_3b067 3 = .ok (.ifCond .ne 25, 3) := by decide +kernel
theorem dJ2_getChar_3b067_6 : decode cJ2_getChar_3b067 6 = .ok (.iload_n 1, 1) := by decide +kernel
theorem dJ2_getChar_3b067_7 : decode cJ2_getChar_3b067 7 = .ok (.ifCond .lt 11, 3) := by decide +kernel
theorem dJ2_getChar_3b067_10 : decode cJ2_getChar_3b067 10 = .ok (.iload_n 1, 1) := by decide +kernel
theorem dJ2_getChar_3b067_11 : decode cJ2_getChar_3b067 11 = .ok (.aload_n 0, 1) := by decide +kernel
theorem dJ2_getChar_3b067_12 : decode cJ2_getChar_3b067 12 = .ok (.invokestatic 48, 3) := by decide +kernel
theorem dJ2_getChar_3b067_15 : decode cJ2_getChar_3b067 15 = .ok (.if_icmp .lt 13, 3) := by decide +kernel
theorem dJ2_getChar_3b067_18 : decode cJ2_getChar_3b067 18 = .ok (.new 52, 3) := by decide +kernel
theorem dJ2_getChar_3b067_21 : decode cJ2_getChar_3b067 21 = .ok (.dup, 1) := by decide +kernel
theorem dJ2_getChar_3b067_22 : decode cJ2_getChar_3b067 22 = .ok (.ldc 54, 2) := by decide +kernel
theorem dJ2_getChar_3b067_24 : decode cJ2_getChar_3b067 24 = .ok (.invokespecial 56, 3) := by decide +kernel
theorem dJ2_getChar_3b067_27 : decode cJ2_getChar_3b067 27 = .ok (.athrow, 1) := by decide +kernel
theorem dJ2_getChar_3b067_28 : decode cJ2_getChar_3b067 28 = .ok (.iload_n 1, 1) := by decide +kernel
theorem dJ2_getChar_3b067_29 : decode cJ2_getChar_3b067 29 = .ok (.iconst 1, 1) := by decide +kernel
theorem dJ2_getChar_3b067_30 : decode cJ2_getChar_3b067 30 = .ok (.ishl, 1) := by decide +kernel
theorem dJ2_getChar_3b067_31 : decode cJ2_getChar_3b067 31 = .ok (.istore_n 1, 1) := by decide +kernel
theorem dJ2_getChar_3b067_32 : decode cJ2_getChar_3b067 32 = .ok (.aload_n 0, 1) := by decide +kernel
theorem dJ2_getChar_3b067_33 : decode cJ2_getChar_3b067 33 = .ok (.iload_n 1, 1) := by decide +kernel
theorem dJ2_getChar_3b067_34 : decode cJ2_getChar_3b067 34 = .ok (.iinc 1 1, 3) := by decide +kernel
theorem dJ2_getChar_3b067_37 : decode cJ2_getChar_3b067 37 = .ok (.baload, 1) := by decide +kernel
theorem dJ2_getChar_3b067_38 : decode cJ2_getChar_3b067 38 = .ok (.sipush 255, 3) := by decide +kernel
theorem dJ2_getChar_3b067_41 : decode cJ2_getChar_3b067 41 = .ok (.iand, 1) := by decide +kernel
theorem dJ2_getChar_3b067_42 : decode cJ2_getChar_3b067 42 = .ok (.getstatic 59, 3) := by decide +kernel
theorem dJ2_getChar_3b067_45 : decode cJ2_getChar_3b067 45 = .ok (.ishl, 1) := by decide +kernel
theorem dJ2_getChar_3b067_46 : decode cJ2_getChar_3b067 46 = .ok (.aload_n 0, 1) := by decide +kernel
theorem dJ2_getChar_3b067_47 : decode cJ2_getChar_3b067 47 = .ok (.iload_n 1, 1) := by decide +kernel
theorem dJ2_getChar_3b067_48 : decode cJ2_getChar_3b067 48 = .ok (.baload, 1) := by decide +kernel
theorem dJ2_getChar_3b067_49 : decode cJ2_getChar_3b067 49 = .ok (.sipush 255, 3) := by decide +kernel
theorem dJ2_getChar_3b067_52 : decode cJ2_getChar_3b067 52 = .ok (.iand, 1) := by decide +kernel
theorem dJ2_getChar_3b067_53 : decode cJ2_getChar_3b067 53 = .ok (.getstatic 63, 3) := by decide +kernel
theorem dJ2_getChar_3b067_56 : decode cJ2_getChar_3b067 56 = .ok (.ishl, 1) := by decide +kernel
theorem dJ2_getChar_3b067_57 : decode cJ2_getChar_3b067 57 = .ok (.ior, 1) := by decide +kernel
theorem dJ2_getChar_3b067_58 : decode cJ2_getChar_3b067 58 = .ok (.i2c, 1) := by decide +kernel
theorem dJ2_getChar_3b067_59 : decode cJ2_getChar_3b067 59 = .ok (.ireturn, 1) := by decide +kernel
theorem dJ2_length_9d52b_0 : decode cJ2_length_9d52b 0 = .ok (.aload_n 0, 1) := by decide +kernel
theorem dJ2_length_9d52b_1 : decode cJ2_length_9d52b 1 = .ok (.arraylength, 1) := by decide +kernel
theorem dJ2_length_9d52b_2 : decode cJ2_length_9d52b 2 = .ok (.iconst 1, 1) := by decide +kernel
theorem dJ2_length_9d52b_3 : decode cJ2_length_9d52b 3 = .ok (.ishr, 1) := by decide +kernel
theorem dJ2_length_9d52b_4 : decode cJ2_length_9d52b 4 = .ok (.ireturn, 1) := by decide +kernel
theorem dJ2_fillNull_b72d1_0 : decode cJ2_fillNull_b72d1 0 = .ok (.aload_n 0, 1) := by decide +kernel
theorem dJ2_fillNull_b72d1_1 : decode cJ2_fillNull_b72d1 1 = .ok (.iload_n 1, 1) := by decide +kernel
theorem dJ2_fillNull_b72d1_2 : decode cJ2_fillNull_b72d1 2 = .ok (.iconst 1, 1) := by decide +kernel
theorem dJ2_fillNull_b72d1_3 : decode cJ2_fillNull_b72d1 3 = .ok (.ishl, 1) := by decide +kernel
theorem dJ2_fillNull_b72d1_4 : decode cJ2_fillNull_b72d1 4 = .ok (.iload_n 2, 1) := by decide +kernel
theorem dJ2_fillNull_b72d1_5 : decode cJ2_fillNull_b72d1 5 = .ok (.iconst 1, 1) := by decide +kernel
theorem dJ2_fillNull_b72d1_6 : decode cJ2_fillNull_b72d1 6 = .ok (.ishl, 1) := by decide +kernel
theorem dJ2_fillNull_b72d1_7 : decode cJ2_fillNull_b72d1 7 = .ok (.iconst 0, 1) := by decide +kernel
theorem dJ2_fillNull_b72d1_8 : decode cJ2_fillNull_b72d1 8 = .ok (.invokestatic 380, 3) := by decide +kernel
theorem dJ2_fillNull_b72d1_11 : decode cJ2_fillNull_b72d1 11 = .ok (.return_, 1) := by decide +kernel
theorem dJ2_putCharSB_b72d1_0 : decode cJ2_putCharSB_b72d1 0 = .ok (.iload_n 1, 1) := by decide +kernel
theorem dJ2_putCharSB_b72d1_1 : decode cJ2_putCharSB_b72d1 1 = .ok (.aload_n 0, 1) := by decide +kernel
theorem dJ2_putCharSB_b72d1_2 : decode cJ2_putCharSB_b72d1 2 = .ok (.invokestatic 67, 3) := by decide +kernel
theorem dJ2_putCharSB_b72d1_5 : decode cJ2_putCharSB_b72d1 5 = .ok (.aload_n 0, 1) := by decide +kernel
theorem dJ2_putCharSB_b72d1_6 : decode cJ2_putCharSB_b72d1 6 = .ok (.iload_n 1, 1) := by decide +kernel
theorem dJ2_putCharSB_b72d1_7 : decode cJ2_putCharSB_b72d1 7 = .ok (.iload_n 2, 1) := by decide +kernel
theorem dJ2_putCharSB_b72d1_8 : decode cJ2_putCharSB_b72d1 8 = .ok (.invokestatic 111, 3) := by decide +kernel
theorem dJ2_putCharSB_b72d1_11 : decode cJ2_putCharSB_b72d1 11 = .ok (.return_, 1) := by decide +kernel
theorem dJ2_getChars_46870_0 : decode cJ2_getChars_46870 0 = .ok (.iload_n 1, 1) := by decide +kernel
theorem dJ2_getChars_46870_1 : decode cJ2_getChars_46870 1 = .ok (.iload_n 2, 1) := by decide +kernel
theorem dJ2_getChars_46870_2 : decode cJ2_getChars_46870 2 = .ok (.aload_n 3, 1) := by decide +kernel
theorem dJ2_getChars_46870_3 : decode cJ2_getChars_46870 3 = .ok (.invokestatic 96, 3) := by decide +kernel
theorem dJ2_getChars_46870_6 : decode cJ2_getChars_46870 6 = .ok (.iload_n 0, 1) := by decide +kernel
theorem dJ2_getChars_46870_7 : decode cJ2_getChars_46870 7 = .ok (.iload_n 2, 1) := by decide +kernel
theorem dJ2_getChars_46870_8 : decode cJ2_getChars_46870 8 = .ok (.aload_n 3, 1) := by decide +kernel
theorem dJ2_getChars_46870_9 : decode cJ2_getChars_46870 9 = .ok (.invokestatic 393, 3) := by decide +kernel
theorem dJ2_getChars_46870_12 : decode cJ2_getChars_46870 12 = .ok (.istore 4, 2) := by decide +kernel
theorem dJ2_getChars_46870_14 : decode cJ2_getChars_46870 14 = .ok (.getstatic 44, 3) := by decide +kernel
theorem dJ2_getChars_46870_17 : decode cJ2_getChars_46870 17 = .ok (.ifCond .ne 17, 3) := by decide +kernel
theorem dJ2_getChars_46870_20 : decode cJ2_getChars_46870 20 = .ok (.iload_n 1, 1) := by decide +kernel
theorem dJ2_getChars_46870_21 : decode cJ2_getChars_46870 21 = .ok (.iload 4, 2) := by decide +kernel
theorem dJ2_getChars_46870_23 : decode cJ2_getChars_46870 23 = .ok (.if_icmp .eq 11, 3) := by decide +kernel
theorem dJ2_getChars_46870_26 : decode cJ2_getChars_46870 26 = .ok (.new 52, 3) := by decide +kernel
theorem dJ2_getChars_46870_29 : decode cJ2_getChars_46870 29 = .ok (.dup, 1) := by decide +kernel
theorem dJ2_getChars_46870_30 : decode cJ2_getChars_46870 30 = .ok (.invokespecial 66, 3) := by decide +kernel
theorem dJ2_getChars_46870_33 : decode cJ2_getChars_46870 33 = .ok (.athrow, 1) := by decide +kernel
theorem dJ2_getChars_46870_34 : decode cJ2_getChars_46870 34 = .ok (.iload 4, 2) := by decide +kernel
theorem dJ2_getChars_46870_36 : decode cJ2_getChars_46870 36 = .ok (.ireturn, 1) := by decide +kernel
theorem dJ2_putCharsAt_cd4e5_0 : decode cJ2_putCharsAt_cd4e5 0 = .ok (.iload_n 1, 1) := by decide +kernel
theorem dJ2_putCharsAt_cd4e5_1 : decode cJ2_putCharsAt_cd4e5 1 = .ok (.iconst 4, 1) := by decide +kernel
theorem dJ2_putCharsAt_cd4e5_2 : decode cJ2_putCharsAt_cd4e5 2 = .ok (.iadd, 1) := by decide +kernel
theorem dJ2_putCharsAt_cd4e5_3 : decode cJ2_putCharsAt_cd4e5 3 = .ok (.istore 6, 2) := by decide +kernel
theorem dJ2_putCharsAt_cd4e5_5 : decode cJ2_putCharsAt_cd4e5 5 = .ok (.iload_n 1, 1) := by decide +kernel
theorem dJ2_putCharsAt_cd4e5_6 : decode cJ2_putCharsAt_cd4e5 6 = .ok (.iload 6, 2) := by decide +kernel
theorem dJ2_putCharsAt_cd4e5_8 : decode cJ2_putCharsAt_cd4e5 8 = .ok (.aload_n 0, 1) := by decide +kernel
theorem dJ2_putCharsAt_cd4e5_9 : decode cJ2_putCharsAt_cd4e5 9 = .ok (.invokestatic 96, 3) := by decide +kernel
theorem dJ2_putCharsAt_cd4e5_12 : decode cJ2_putCharsAt_cd4e5 12 = .ok (.aload_n 0, 1) := by decide +kernel
theorem dJ2_putCharsAt_cd4e5_13 : decode cJ2_putCharsAt_cd4e5 13 = .ok (.iload_n 1, 1) := by decide +kernel
theorem dJ2_putCharsAt_cd4e5_14 : decode cJ2_putCharsAt_cd4e5 14 = .ok (.iinc 1 1, 3) := by decide +kernel
theorem dJ2_putCharsAt_cd4e5_17 : decode cJ2_putCharsAt_cd4e5 17 = .ok (.iload_n 2, 1) := by decide +kernel
theorem dJ2_putCharsAt_cd4e5_18 : decode cJ2_putCharsAt_cd4e5 18 = .ok (.invokestatic 111, 3) := by decide +kernel
theorem dJ2_putCharsAt_cd4e5_21 : decode cJ2_putCharsAt_cd4e5 21 = .ok (.aload_n 0, 1) := by decide +kernel
theorem dJ2_putCharsAt_cd4e5_22 : decode cJ2_putCharsAt_cd4e5 22 = .ok (.iload_n 1, 1) := by decide +kernel
theorem dJ2_putCharsAt_cd4e5_23 : decode cJ2_putCharsAt_cd4e5 23 = .ok (.iinc 1 1, 3) := by decide +kernel
theorem dJ2_putCharsAt_cd4e5_26 : decode cJ2_putCharsAt_cd4e5 26 = .ok (.iload_n 3, 1) := by decide +kernel
theorem dJ2_putCharsAt_cd4e5_27 : decode cJ2_putCharsAt_cd4e5 27 = .ok (.invokestatic 111, 3) := by decide +kernel
theorem dJ2_putCharsAt_cd4e5_30 : decode cJ2_putCharsAt_cd4e5 30 = .ok (.aload_n 0, 1) := by decide +kernel
theorem dJ2_putCharsAt_cd4e5_31 : decode cJ2_putCharsAt_cd4e5 31 = .ok (.iload_n 1, 1) := by decide +kernel
theorem dJ2_putCharsAt_cd4e5_32 : decode cJ2_putCharsAt_cd4e5 32 = .ok (.iinc 1 1, 3) := by decide +kernel
theorem dJ2_putCharsAt_cd4e5_35 : decode cJ2_putCharsAt_cd4e5 35 = .ok (.iload 4, 2) := by decide +kernel
theorem dJ2_putCharsAt_cd4e5_37 : decode cJ2_putCharsAt_cd4e5 37 = .ok (.invokestatic 111, 3) := by decide +kernel
theorem dJ2_putCharsAt_cd4e5_40 : decode cJ2_putCharsAt_cd4e5 40 = .ok (.aload_n 0, 1) := by decide +kernel
theorem dJ2_putCharsAt_cd4e5_41 : decode cJ2_putCharsAt_cd4e5 41 = .ok (.iload_n 1, 1) := by decide +kernel
theorem dJ2_putCharsAt_cd4e5_42 : decode cJ2_putCharsAt_cd4e5 42 = .ok (.iinc 1 1, 3) := by decide +kernel
theorem dJ2_putCharsAt_cd4e5_45 : decode cJ2_putCharsAt_cd4e5 45 = .ok (.iload 5, 2) := by decide +kernel
theorem dJ2_putCharsAt_cd4e5_47 : decode cJ2_putCharsAt_cd4e5 47 = .ok (.invokestatic 111, 3) := by decide +kernel
theorem dJ2_putCharsAt_cd4e5_50 : decode cJ2_putCharsAt_cd4e5 50 = .ok (.getstatic 44, 3) := by decide +kernel
theorem dJ2_putCharsAt_cd4e5_53 : decode cJ2_putCharsAt_cd4e5 53 = .ok (.ifCond .ne 17, 3) := by decide +kernel
theorem dJ2_putCharsAt_cd4e5_56 : decode cJ2_putCharsAt_cd4e5 56 = .ok (.iload_n 1, 1) := by decide +kernel
theorem dJ2_putCharsAt_cd4e5_57 : decode cJ2_putCharsAt_cd4e5 57 = .ok (.iload 6, 2) := by decide +kernel
theorem dJ2_putCharsAt_cd4e5_59 : decode cJ2_putCharsAt_cd4e5 59 = .ok (.if_icmp .eq 11, 3) := by decide +kernel
theorem dJ2_putCharsAt_cd4e5_62 : decode cJ2_putCharsAt_cd4e5 62 = .ok (.new 52, 3) := by decide +kernel
theorem dJ2_putCharsAt_cd4e5_65 : decode cJ2_putCharsAt_cd4e5 65 = .ok (.dup, 1) := by decide +kernel
theorem dJ2_putCharsAt_cd4e5_66 : decode cJ2_putCharsAt_cd4e5 66 = .ok (.invokespecial 66, 3) := by decide +kernel
theorem dJ2_putCharsAt_cd4e5_69 : decode cJ2_putCharsAt_cd4e5 69 = .ok (.athrow, 1) := by decide +kernel
theorem dJ2_putCharsAt_cd4e5_70 : decode cJ2_putCharsAt_cd4e5 70 = .ok (.iload 6, 2) := by decide +kernel
theorem dJ2_putCharsAt_cd4e5_72 : decode cJ2_putCharsAt_cd4e5 72 = .ok (.ireturn, 1) := by decide +kernel
theorem dJ2_charAt_3b067_0 : decode cJ2_charAt_3b067 0 = .ok (.iload_n 1, 1) := by decide +kernel
theorem dJ2_charAt_3b067_1 : decode cJ2_charAt_3b067 1 = .ok (.aload_n 0, 1) := by decide +kernel
theorem dJ2_charAt_3b067_2 : decode cJ2_charAt_3b067 2 = .ok (.invokestatic 67, 3) := by decide +kernel
theorem dJ2_charAt_3b067_5 : decode cJ2_charAt_3b067 5 = .ok (.aload_n 0, 1) := by decide +kernel
theorem dJ2_charAt_3b067_6 : decode cJ2_charAt_3b067 6 = .ok (.iload_n 1, 1) := by decide +kernel
theorem dJ2_charAt_3b067_7 : decode cJ2_charAt_3b067 7 = .ok (.invokestatic 71, 3) := by decide +kernel
theorem dJ2_charAt_3b067_10 : decode cJ2_charAt_3b067 10 = .ok (.ireturn, 1) := by decide +kernel
theorem dJ2_inflate_0e8fd_0 : decode cJ2_inflate_0e8fd 0 = .ok (.iload_n 3, 1) := by decide +kernel
theorem dJ2_inflate_0e8fd_1 : decode cJ2_inflate_0e8fd 1 = .ok (.iload 4, 2) := by decide +kernel
theorem dJ2_inflate_0e8fd_3 : decode cJ2_inflate_0e8fd 3 = .ok (.aload_n 2, 1) := by decide +kernel
theorem dJ2_inflate_0e8fd_4 : decode cJ2_inflate_0e8fd 4 = .ok (.invokestatic 173, 3) := by decide +kernel
theorem dJ2_inflate_0e8fd_7 : decode cJ2_inflate_0e8fd 7 = .ok (.iconst 0, 1) := by decide +kernel
theorem dJ2_inflate_0e8fd_8 : decode cJ2_inflate_0e8fd 8 = .ok (.istore 5, 2) := by decide +kernel
theorem dJ2_inflate_0e8fd_10 : decode cJ2_inflate_0e8fd 10 = .ok (.iload 5, 2) := by decide +kernel
theorem dJ2_inflate_0e8fd_12 : decode cJ2_inflate_0e8fd 12 = .ok (.iload 4, 2) := by decide +kernel
theorem dJ2_inflate_0e8fd_14 : decode cJ2_inflate_0e8fd 14 = .ok (.if_icmp .ge 27, 3) := by decide +kernel
theorem dJ2_inflate_0e8fd_17 : decode cJ2_inflate_0e8fd 17 = .ok (.aload_n 2, 1) := by decide +kernel
theorem dJ2_inflate_0e8fd_18 : decode cJ2_inflate_0e8fd 18 = .ok (.iload_n 3, 1) := by decide +kernel
theorem dJ2_inflate_0e8fd_19 : decode cJ2_inflate_0e8fd 19 = .ok (.iinc 3 1, 3) := by decide +kernel
theorem dJ2_inflate_0e8fd_22 : decode cJ2_inflate_0e8fd 22 = .ok (.aload_n 0, 1) := by decide +kernel
theorem dJ2_inflate_0e8fd_23 : decode cJ2_inflate_0e8fd 23 = .ok (.iload_n 1, 1) := by decide +kernel
theorem dJ2_inflate_0e8fd_24 : decode cJ2_inflate_0e8fd 24 = .ok (.iinc 1 1, 3) := by decide +kernel
theorem dJ2_inflate_0e8fd_27 : decode cJ2_inflate_0e8fd 27 = .ok (.baload, 1) := by decide +kernel
theorem dJ2_inflate_0e8fd_28 : decode cJ2_inflate_0e8fd 28 = .ok (.sipush 255, 3) := by decide +kernel
theorem dJ2_inflate_0e8fd_31 : decode cJ2_inflate_0e8fd 31 = .ok (.iand, 1) := by decide +kernel
theorem dJ2_inflate_0e8fd_32 : decode cJ2_inflate_0e8fd 32 = .ok (.invokestatic 111, 3) := by decide +kernel
theorem dJ2_inflate_0e8fd_35 : decode cJ2_inflate_0e8fd 35 = .ok (.iinc 5 1, 3) := by decide +kernel
theorem dJ2_inflate_0e8fd_38 : decode cJ2_inflate_0e8fd 38 = .ok (.goto (-28), 3) := by decide +kernel
theorem dJ2_inflate_0e8fd_41 : decode cJ2_inflate_0e8fd 41 = .ok (.return_, 1) := by decide +kernel
theorem dJ2_getChars_ba4f3_0 : decode cJ2_getChars_ba4f3 0 = .ok (.iload_n 1, 1) := by decide +kernel
theorem dJ2_getChars_ba4f3_1 : decode cJ2_getChars_ba4f3 1 = .ok (.istore 5, 2) := by decide +kernel
theorem dJ2_getChars_ba4f3_3 : decode cJ2_getChars_ba4f3 3 = .ok (.iload_n 0, 1) := by decide +kernel
theorem dJ2_getChars_ba4f3_4 : decode cJ2_getChars_ba4f3 4 = .ok (.ifCond .ge 7, 3) := by decide +kernel
theorem dJ2_getChars_ba4f3_7 : decode cJ2_getChars_ba4f3 7 = .ok (.iconst 1, 1) := by decide +kernel
theorem dJ2_getChars_ba4f3_8 : decode cJ2_getChars_ba4f3 8 = .ok (.goto 4, 3) := by decide +kernel
theorem dJ2_getChars_ba4f3_11 : decode cJ2_getChars_ba4f3 11 = .ok (.iconst 0, 1) := by decide +kernel
theorem dJ2_getChars_ba4f3_12 : decode cJ2_getChars_ba4f3 12 = .ok (.istore 6, 2) := by decide +kernel
theorem dJ2_getChars_ba4f3_14 : decode cJ2_getChars_ba4f3 14 = .ok (.iload 6, 2) := by decide +kernel
theorem dJ2_getChars_ba4f3_16 : decode cJ2_getChars_ba4f3 16 = .ok (.ifCond .ne 6, 3) := by decide +kernel
theorem dJ2_getChars_ba4f3_19 : decode cJ2_getChars_ba4f3 19 = .ok (.iload_n 0, 1) := by decide +kernel
theorem dJ2_getChars_ba4f3_20 : decode cJ2_getChars_ba4f3 20 = .ok (.ineg, 1) := by decide +kernel
theorem dJ2_getChars_ba4f3_21 : decode cJ2_getChars_ba4f3 21 = .ok (.istore_n 0, 1) := by decide +kernel
theorem dJ2_getChars_ba4f3_22 : decode cJ2_getChars_ba4f3 22 = .ok (.iload_n 0, 1) := by decide +kernel
theorem dJ2_getChars_ba4f3_23 : decode cJ2_getChars_ba4f3 23 = .ok (.bipush (-100), 2) := by decide +kernel
theorem dJ2_getChars_ba4f3_25 : decode cJ2_getChars_ba4f3 25 = .ok (.if_icmp .gt 51, 3) := by decide +kernel
theorem dJ2_getChars_ba4f3_28 : decode cJ2_getChars_ba4f3 28 = .ok (.iload_n 0, 1) := by decide +kernel
theorem dJ2_getChars_ba4f3_29 : decode cJ2_getChars_ba4f3 29 = .ok (.bipush 100, 2) := by decide +kernel
theorem dJ2_getChars_ba4f3_31 : decode cJ2_getChars_ba4f3 31 = .ok (.idiv, 1) := by decide +kernel
theorem dJ2_getChars_ba4f3_32 : decode cJ2_getChars_ba4f3 32 = .ok (.istore_n 3, 1) := by decide +kernel
theorem dJ2_getChars_ba4f3_33 : decode cJ2_getChars_ba4f3 33 = .ok (.iload_n 3, 1) := by decide +kernel
theorem dJ2_getChars_ba4f3_34 : decode cJ2_getChars_ba4f3 34 = .ok (.bipush 100, 2) := by decide +kernel
theorem dJ2_getChars_ba4f3_36 : decode cJ2_getChars_ba4f3 36 = .ok (.imul, 1) := by decide +kernel
theorem dJ2_getChars_ba4f3_37 : decode cJ2_getChars_ba4f3 37 = .ok (.iload_n 0, 1) := by decide +kernel
theorem dJ2_getChars_ba4f3_38 : decode cJ2_getChars_ba4f3 38 = .ok (.isub, 1) := by decide +kernel
theorem dJ2_getChars_ba4f3_39 : decode cJ2_getChars_ba4f3 39 = .ok (.istore 4, 2) := by decide +kernel
theorem dJ2_getChars_ba4f3_41 : decode cJ2_getChars_ba4f3 41 = .ok (.iload_n 3, 1) := by decide +kernel
theorem dJ2_getChars_ba4f3_42 : decode cJ2_getChars_ba4f3 42 = .ok (.istore_n 0, 1) := by decide +kernel
theorem dJ2_getChars_ba4f3_43 : decode cJ2_getChars_ba4f3 43 = .ok (.aload_n 2, 1) := by decide +kernel
theorem dJ2_getChars_ba4f3_44 : decode cJ2_getChars_ba4f3 44 = .ok (.iinc 5 (-1), 3) := by decide +kernel
theorem dJ2_getChars_ba4f3_47 : decode cJ2_getChars_ba4f3 47 = .ok (.iload 5, 2) := by decide +kernel
theorem dJ2_getChars_ba4f3_49 : decode cJ2_getChars_ba4f3 49 = .ok (.getstatic 403, 3) := by decide +kernel
theorem dJ2_getChars_ba4f3_52 : decode cJ2_getChars_ba4f3 52 = .ok (.iload 4, 2) := by decide +kernel
theorem dJ2_getChars_ba4f3_54 : decode cJ2_getChars_ba4f3 54 = .ok (.baload, 1) := by decide +kernel
theorem dJ2_getChars_ba4f3_55 : decode cJ2_getChars_ba4f3 55 = .ok (.invokestatic 111, 3) := by decide +kernel
theorem dJ2_getChars_ba4f3_58 : decode cJ2_getChars_ba4f3 58 = .ok (.aload_n 2, 1) := by decide +kernel
theorem dJ2_getChars_ba4f3_59 : decode cJ2_getChars_ba4f3 59 = .ok (.iinc 5 (-1), 3) := by decide +kernel
theorem dJ2_getChars_ba4f3_62 : decode cJ2_getChars_ba4f3 62 = .ok (.iload 5, 2) := by decide +kernel
theorem dJ2_getChars_ba4f3_64 : decode cJ2_getChars_ba4f3 64 = .ok (.getstatic 407, 3) := by decide +kernel
theorem dJ2_getChars_ba4f3_67 : decode cJ2_getChars_ba4f3 67 = .ok (.iload 4, 2) := by decide +kernel
theorem dJ2_getChars_ba4f3_69 : decode cJ2_getChars_ba4f3 69 = .ok (.baload, 1) := by decide +kernel
theorem dJ2_getChars_ba4f3_70 : decode cJ2_getChars_ba4f3 70 = .ok (.invokestatic 111, 3) := by decide +kernel
theorem dJ2_getChars_ba4f3_73 : decode cJ2_getChars_ba4f3 73 = .ok (.goto (-51), 3) := by decide +kernel
theorem dJ2_getChars_ba4f3_76 : decode cJ2_getChars_ba4f3 76 = .ok (.aload_n 2, 1) := by decide +kernel
theorem dJ2_getChars_ba4f3_77 : decode cJ2_getChars_ba4f3 77 = .ok (.iinc 5 (-1), 3) := by decide +kernel
theorem dJ2_getChars_ba4f3_80 : decode cJ2_getChars_ba4f3 80 = .ok (.iload 5, 2) := by decide +kernel
theorem dJ2_getChars_ba4f3_82 : decode cJ2_getChars_ba4f3 82 = .ok (.getstatic 403, 3) := by decide +kernel
theorem dJ2_getChars_ba4f3_85 : decode cJ2_getChars_ba4f3 85 = .ok (.iload_n 0, 1) := by decide +kernel
theorem dJ2_getChars_ba4f3_86 : decode cJ2_getChars_ba4f3 86 = .ok (.ineg, 1) := by decide +kernel
theorem dJ2_getChars_ba4f3_87 : decode cJ2_getChars_ba4f3 87 = .ok (.baload, 1) := by decide +kernel
theorem dJ2_getChars_ba4f3_88 : decode cJ2_getChars_ba4f3 88 = .ok (.invokestatic 111, 3) := by decide +kernel
theorem dJ2_getChars_ba4f3_91 : decode cJ2_getChars_ba4f3 91 = .ok (.iload_n 0, 1) := by decide +kernel
theorem dJ2_getChars_ba4f3_92 : decode cJ2_getChars_ba4f3 92 = .ok (.bipush (-9), 2) := by decide +kernel
theorem dJ2_getChars_ba4f3_94 : decode cJ2_getChars_ba4f3 94 = .ok (.if_icmp .ge 18, 3) := by decide +kernel
theorem dJ2_getChars_ba4f3_97 : decode cJ2_getChars_ba4f3 97 = .ok (.aload_n 2, 1) := by decide +kernel
theorem dJ2_getChars_ba4f3_98 : decode cJ2_getChars_ba4f3 98 = .ok (.iinc 5 (-1), 3) := by decide +kernel
theorem dJ2_getChars_ba4f3_101 : decode cJ2_getChars_ba4f3 101 = .ok (.iload 5, 2) := by decide +kernel
theorem dJ2_getChars_ba4f3_103 : decode cJ2_getChars_ba4f3 103 = .ok (.getstatic 407, 3) := by decide +kernel
theorem dJ2_getChars_ba4f3_106 : decode cJ2_getChars_ba4f3 106 = .ok (.iload_n 0, 1) := by decide +kernel
theorem dJ2_getChars_ba4f3_107 : decode cJ2_getChars_ba4f3 107 = .ok (.ineg, 1) := by decide +kernel
theorem dJ2_getChars_ba4f3_108 : decode cJ2_getChars_ba4f3 108 = .ok (.baload, 1) := by decide +kernel
theorem dJ2_getChars_ba4f3_109 : decode cJ2_getChars_ba4f3 109 = .ok (.invokestatic 111, 3) := by decide +kernel
theorem dJ2_getChars_ba4f3_112 : decode cJ2_getChars_ba4f3 112 = .ok (.iload 6, 2) := by decide +kernel
theorem dJ2_getChars_ba4f3_114 : decode cJ2_getChars_ba4f3 114 = .ok (.ifCond .eq 14, 3) := by decide +kernel
theorem dJ2_getChars_ba4f3_117 : decode cJ2_getChars_ba4f3 117 = .ok (.aload_n 2, 1) := by decide +kernel
theorem dJ2_getChars_ba4f3_118 : decode cJ2_getChars_ba4f3 118 = .ok (.iinc 5 (-1), 3) := by decide +kernel
theorem dJ2_getChars_ba4f3_121 : decode cJ2_getChars_ba4f3 121 = .ok (.iload 5, 2) := by decide +kernel
theorem dJ2_getChars_ba4f3_123 : decode cJ2_getChars_ba4f3 123 = .ok (.bipush 45, 2) := by decide +kernel
theorem dJ2_getChars_ba4f3_125 : decode cJ2_getChars_ba4f3 125 = .ok (.invokestatic 111, 3) := by decide +kernel
theorem dJ2_getChars_ba4f3_128 : decode cJ2_getChars_ba4f3 128 = .ok (.iload 5, 2) := by decide +kernel
theorem dJ2_getChars_ba4f3_130 : decode cJ2_getChars_ba4f3 130 = .ok (.ireturn, 1) := by decide +kernel
theorem dJ2_checkIndex_2214a_0 : decode cJ2_checkIndex_2214a 0 = .ok (.iload_n 0, 1) := by decide +kernel
theorem dJ2_checkIndex_2214a_1 : decode cJ2_checkIndex_2214a 1 = .ok (.aload_n 1, 1) := by decide +kernel
theorem dJ2_checkIndex_2214a_2 : decode cJ2_checkIndex_2214a 2 = .ok (.invokestatic 48, 3) := by decide +kernel
theorem dJ2_checkIndex_2214a_5 : decode cJ2_checkIndex_2214a 5 = .ok (.invokestatic 414, 3) := by decide +kernel
theorem dJ2_checkIndex_2214a_8 : decode cJ2_checkIndex_2214a 8 = .ok (.return_, 1) := by decide +kernel
theorem dJ2_checkBoundsBeginEnd_d044e_0 : decode cJ2_checkBoundsBeginEnd_d044e 0 = .ok (.iload_n 0, 1) := by decide +kernel
theorem dJ2_checkBoundsBeginEnd_d044e_1 : decode cJ2_checkBoundsBeginEnd_d044e 1 = .ok (.iload_n 1, 1) := by decide +kernel
theorem dJ2_checkBoundsBeginEnd_d044e_2 : decode cJ2_checkBoundsBeginEnd_d044e 2 = .ok (.aload_n 2, 1) := by decide +kernel
theorem dJ2_checkBoundsBeginEnd_d044e_3 : decode cJ2_checkBoundsBeginEnd_d044e 3 = .ok (.invokestatic 48, 3) := by decide +kernel
theorem dJ2_checkBoundsBeginEnd_d044e_6 : decode cJ2_checkBoundsBeginEnd_d044e 6 = .ok (.invokestatic 241, 3) := by decide +kernel
theorem dJ2_checkBoundsBeginEnd_d044e_9 : decode cJ2_checkBoundsBeginEnd_d044e 9 = .ok (.return_, 1) := by decide +kernel
theorem dJ2_checkBoundsOffCount_d044e_0 : decode cJ2_checkBoundsOffCount_d044e 0 = .ok (.iload_n 0, 1) := by decide +kernel
theorem dJ2_checkBoundsOffCount_d044e_1 : decode cJ2_checkBoundsOffCount_d044e 1 = .ok (.iload_n 1, 1) := by decide +kernel
theorem dJ2_checkBoundsOffCount_d044e_2 : decode cJ2_checkBoundsOffCount_d044e 2 = .ok (.aload_n 2, 1) := by decide +kernel
theorem dJ2_checkBoundsOffCount_d044e_3 : decode cJ2_checkBoundsOffCount_d044e 3 = .ok (.invokestatic 48, 3) := by decide +kernel
theorem dJ2_checkBoundsOffCount_d044e_6 : decode cJ2_checkBoundsOffCount_d044e 6 = .ok (.invokestatic 419, 3) := by decide +kernel
theorem dJ2_checkBoundsOffCount_d044e_9 : decode cJ2_checkBoundsOffCount_d044e 9 = .ok (.pop, 1) := by decide +kernel
theorem dJ2_checkBoundsOffCount_d044e_10 : decode cJ2_checkBoundsOffCount_d044e 10 = .ok (.return_, 1) := by decide +kernel
theorem dJ7_rangeCheck_23922_0 : decode cJ7_rangeCheck_23922 0 = .ok (.iload_n 1, 1) := by decide +kernel
theorem dJ7_rangeCheck_23922_1 : decode cJ7_rangeCheck_23922 1 = .ok (.iload_n 2, 1) := by decide +kernel
theorem dJ7_rangeCheck_23922_2 : decode cJ7_rangeCheck_23922 2 = .ok (.if_icmp .le 44, 3) := by decide +kernel
theorem dJ7_rangeCheck_23922_5 : decode cJ7_rangeCheck_23922 5 = .ok (.new 43, 3) := by decide +kernel
theorem dJ7_rangeCheck_23922_8 : decode cJ7_rangeCheck_23922 8 = .ok (.dup, 1) := by decide +kernel
theorem dJ7_rangeCheck_23922_9 : decode cJ7_rangeCheck_23922 9 = .ok (.new 45, 3) := by decide +kernel
theorem dJ7_rangeCheck_23922_12 : decode cJ7_rangeCheck_23922 12 = .ok (.dup, 1) := by decide +kernel
theorem dJ7_rangeCheck_23922_13 : decode cJ7_rangeCheck_23922 13 = .ok (.invokespecial 47, 3) := by decide +kernel
theorem dJ7_rangeCheck_23922_16 : decode cJ7_rangeCheck_23922 16 = .ok (.ldc 48, 2) := by decide +kernel
theorem dJ7_rangeCheck_23922_18 : decode cJ7_rangeCheck_23922 18 = .ok (.invokevirtual 50, 3) := by decide +kernel
theorem dJ7_rangeCheck_23922_21 : decode cJ7_rangeCheck_23922 21 = .ok (.iload_n 1, 1) := by decide +kernel
theorem dJ7_rangeCheck_23922_22 : decode cJ7_rangeCheck_23922 22 = .ok (.invokevirtual 54, 3) := by decide +kernel
theorem dJ7_rangeCheck_23922_25 : decode cJ7_rangeCheck_23922 25 = .ok (.ldc 57, 2) := by decide +kernel
theorem dJ7_rangeCheck_23922_27 : decode cJ7_rangeCheck_23922 27 = .ok (.invokevirtual 50, 3) := by decide +kernel
theorem dJ7_rangeCheck_23922_30 : decode cJ7_rangeCheck_23922 30 = .ok (.iload_n 2, 1) := by decide +kernel
theorem dJ7_rangeCheck_23922_31 : decode cJ7_rangeCheck_23922 31 = .ok (.invokevirtual 54, 3) := by decide +kernel
theorem dJ7_rangeCheck_23922_34 : decode cJ7_rangeCheck_23922 34 = .ok (.ldc 59, 2) := by decide +kernel
theorem dJ7_rangeCheck_23922_36 : decode cJ7_rangeCheck_23922 36 = .ok (.invokevirtual 50, 3) := by decide +kernel
theorem dJ7_rangeCheck_23922_39 : decode cJ7_rangeCheck_23922 39 = .ok (.invokevirtual 61, 3) := by decide +kernel
theorem dJ7_rangeCheck_23922_42 : decode cJ7_rangeCheck_23922 42 = .ok (.invokespecial 65, 3) := by decide +kernel
theorem dJ7_rangeCheck_23922_45 : decode cJ7_rangeCheck_23922 45 = .ok (.athrow, 1) := by decide +kernel
theorem dJ7_rangeCheck_23922_46 : decode cJ7_rangeCheck_23922 46 = .ok (.iload_n 1, 1) := by decide +kernel
theorem dJ7_rangeCheck_23922_47 : decode cJ7_rangeCheck_23922 47 = .ok (.ifCond .ge 12, 3) := by decide +kernel
theorem dJ7_rangeCheck_23922_50 : decode cJ7_rangeCheck_23922 50 = .ok (.new 68, 3) := by decide +kernel
theorem dJ7_rangeCheck_23922_53 : decode cJ7_rangeCheck_23922 53 = .ok (.dup, 1) := by decide +kernel
theorem dJ7_rangeCheck_23922_54 : decode cJ7_rangeCheck_23922 54 = .ok (.iload_n 1, 1) := by decide +kernel
theorem dJ7_rangeCheck_23922_55 : decode cJ7_rangeCheck_23922 55 = .ok (.invokespecial 70, 3) := by decide +kernel
theorem dJ7_rangeCheck_23922_58 : decode cJ7_rangeCheck_23922 58 = .ok (.athrow, 1) := by decide +kernel
theorem dJ7_rangeCheck_23922_59 : decode cJ7_rangeCheck_23922 59 = .ok (.iload_n 2, 1) := by decide +kernel
theorem dJ7_rangeCheck_23922_60 : decode cJ7_rangeCheck_23922 60 = .ok (.iload_n 0, 1) := by decide +kernel
theorem dJ7_rangeCheck_23922_61 : decode cJ7_rangeCheck_23922 61 = .ok (.if_icmp .le 12, 3) := by decide +kernel
theorem dJ7_rangeCheck_23922_64 : decode cJ7_rangeCheck_23922 64 = .ok (.new 68, 3) := by decide +kernel
theorem dJ7_rangeCheck_23922_67 : decode cJ7_rangeCheck_23922 67 = .ok (.dup, 1) := by decide +kernel
theorem dJ7_rangeCheck_23922_68 : decode cJ7_rangeCheck_23922 68 = .ok (.iload_n 2, 1) := by decide +kernel
theorem dJ7_rangeCheck_23922_69 : decode cJ7_rangeCheck_23922 69 = .ok (.invokespecial 70, 3) := by decide +kernel
theorem dJ7_rangeCheck_23922_72 : decode cJ7_rangeCheck_23922 72 = .ok (.athrow, 1) := by decide +kernel
theorem dJ7_rangeCheck_23922_73 : decode cJ7_rangeCheck_23922 73 = .ok (.return_, 1) := by decide +kernel
theorem dJ7_fill_eb02e_0 : decode cJ7_fill_eb02e 0 = .ok (.aload_n 0, 1) := by decide +kernel
theorem dJ7_fill_eb02e_1 : decode cJ7_fill_eb02e 1 = .ok (.arraylength, 1) := by decide +kernel
theorem dJ7_fill_eb02e_2 : decode cJ7_fill_eb02e 2 = .ok (.iload_n 1, 1) := by decide +kernel
theorem dJ7_fill_eb02e_3 : decode cJ7_fill_eb02e 3 = .ok (.iload_n 2, 1) := by decide +kernel
theorem dJ7_fill_eb02e_4 : decode cJ7_fill_eb02e 4 = .ok (.invokestatic 13, 3) := by decide +kernel
theorem dJ7_fill_eb02e_7 : decode cJ7_fill_eb02e 7 = .ok (.iload_n 1, 1) := by decide +kernel
theorem dJ7_fill_eb02e_8 : decode cJ7_fill_eb02e 8 = .ok (.istore 4, 2) := by decide +kernel
theorem dJ7_fill_eb02e_10 : decode cJ7_fill_eb02e 10 = .ok (.iload 4, 2) := by decide +kernel
theorem dJ7_fill_eb02e_12 : decode cJ7_fill_eb02e 12 = .ok (.iload_n 2, 1) := by decide +kernel
theorem dJ7_fill_eb02e_13 : decode cJ7_fill_eb02e 13 = .ok (.if_icmp .ge 14, 3) := by decide +kernel
theorem dJ7_fill_eb02e_16 : decode cJ7_fill_eb02e 16 = .ok (.aload_n 0, 1) := by decide +kernel
theorem dJ7_fill_eb02e_17 : decode cJ7_fill_eb02e 17 = .ok (.iload 4, 2) := by decide +kernel
theorem dJ7_fill_eb02e_19 : decode cJ7_fill_eb02e 19 = .ok (.iload_n 3, 1) := by decide +kernel
theorem dJ7_fill_eb02e_20 : decode cJ7_fill_eb02e 20 = .ok (.bastore, 1) := by decide +kernel
theorem dJ7_fill_eb02e_21 : decode cJ7_fill_eb02e 21 = .ok (.iinc 4 1, 3) := by decide +kernel
theorem dJ7_fill_eb02e_24 : decode cJ7_fill_eb02e 24 = .ok (.goto (-14), 3) := by decide +kernel
theorem dJ7_fill_eb02e_27 : decode cJ7_fill_eb02e 27 = .ok (.return_, 1) := by decide +kernel
theorem dJ7_copyOf_9075b_0 : decode cJ7_copyOf_9075b 0 = .ok (.iload_n 1, 1) := by decide +kernel
theorem dJ7_copyOf_9075b_1 : decode cJ7_copyOf_9075b 1 = .ok (.aload_n 0, 1) := by decide +kernel
theorem dJ7_copyOf_9075b_2 : decode cJ7_copyOf_9075b 2 = .ok (.arraylength, 1) := by decide +kernel
theorem dJ7_copyOf_9075b_3 : decode cJ7_copyOf_9075b 3 = .ok (.if_icmp .ne 11, 3) := by decide +kernel
theorem dJ7_copyOf_9075b_6 : decode cJ7_copyOf_9075b 6 = .ok (.aload_n 0, 1) := by decide +kernel
theorem dJ7_copyOf_9075b_7 : decode cJ7_copyOf_9075b 7 = .ok (.invokevirtual 310, 3) := by decide +kernel
theorem dJ7_copyOf_9075b_10 : decode cJ7_copyOf_9075b 10 = .ok (.checkcast 311, 3) := by decide +kernel
theorem dJ7_copyOf_9075b_13 : decode cJ7_copyOf_9075b 13 = .ok (.areturn, 1) := by decide +kernel
theorem dJ7_copyOf_9075b_14 : decode cJ7_copyOf_9075b 14 = .ok (.iload_n 1, 1) := by decide +kernel
theorem dJ7_copyOf_9075b_15 : decode cJ7_copyOf_9075b 15 = .ok (.newarray .byte, 2) := by decide +kernel
theorem dJ7_copyOf_9075b_17 : decode cJ7_copyOf_9075b 17 = .ok (.astore_n 2, 1) := by decide +kernel
theorem dJ7_copyOf_9075b_18 : decode cJ7_copyOf_9075b 18 = .ok (.aload_n 0, 1) := by decide +kernel
theorem dJ7_copyOf_9075b_19 : decode cJ7_copyOf_9075b 19 = .ok (.iconst 0, 1) := by decide +kernel
theorem dJ7_copyOf_9075b_20 : decode cJ7_copyOf_9075b 20 = .ok (.aload_n 2, 1) := by decide +kernel
theorem dJ7_copyOf_9075b_21 : decode cJ7_copyOf_9075b 21 = .ok (.iconst 0, 1) := by decide +kernel
theorem dJ7_copyOf_9075b_22 : decode cJ7_copyOf_9075b 22 = .ok (.aload_n 0, 1) := by decide +kernel
theorem dJ7_copyOf_9075b_23 : decode cJ7_copyOf_9075b 23 = .ok (.arraylength, 1) := by decide +kernel
theorem dJ7_copyOf_9075b_24 : decode cJ7_copyOf_9075b 24 = .ok (.iload_n 1, 1) := by decide +kernel
theorem dJ7_copyOf_9075b_25 : decode cJ7_copyOf_9075b 25 = .ok (.invokestatic 304, 3) := by decide +kernel
theorem dJ7_copyOf_9075b_28 : decode cJ7_copyOf_9075b 28 = .ok (.invokestatic 150, 3) := by decide +kernel
theorem dJ7_copyOf_9075b_31 : decode cJ7_copyOf_9075b 31 = .ok (.aload_n 2, 1) := by decide +kernel
theorem dJ7_copyOf_9075b_32 : decode cJ7_copyOf_9075b 32 = .ok (.areturn, 1) := by decide +kernel
theorem dJ8_newLength_cabcc_0 : decode cJ8_newLength_cabcc 0 = .ok (.iload_n 0, 1) := by decide +kernel
theorem dJ8_newLength_cabcc_1 : decode cJ8_newLength_cabcc 1 = .ok (.iload_n 1, 1) := by decide +kernel
theorem dJ8_newLength_cabcc_2 : decode cJ8_newLength_cabcc 2 = .ok (.iload_n 2, 1) := by decide +kernel
theorem dJ8_newLength_cabcc_3 : decode cJ8_newLength_cabcc 3 = .ok (.invokestatic 194, 3) := by decide +kernel
theorem dJ8_newLength_cabcc_6 : decode cJ8_newLength_cabcc 6 = .ok (.iadd, 1) := by decide +kernel
theorem dJ8_newLength_cabcc_7 : decode cJ8_newLength_cabcc 7 = .ok (.istore_n 3, 1) := by decide +kernel
theorem dJ8_newLength_cabcc_8 : decode cJ8_newLength_cabcc 8 = .ok (.iconst 0, 1) := by decide +kernel
theorem dJ8_newLength_cabcc_9 : decode cJ8_newLength_cabcc 9 = .ok (.iload_n 3, 1) := by decide +kernel
theorem dJ8_newLength_cabcc_10 : decode cJ8_newLength_cabcc 10 = .ok (.if_icmp .ge 11, 3) := by decide +kernel
theorem dJ8_newLength_cabcc_13 : decode cJ8_newLength_cabcc 13 = .ok (.iload_n 3, 1) := by decide +kernel
theorem dJ8_newLength_cabcc_14 : decode cJ8_newLength_cabcc 14 = .ok (.ldc 200, 2) := by decide +kernel
theorem dJ8_newLength_cabcc_16 : decode cJ8_newLength_cabcc 16 = .ok (.if_icmp .gt 5, 3) := by decide +kernel
theorem dJ8_newLength_cabcc_19 : decode cJ8_newLength_cabcc 19 = .ok (.iload_n 3, 1) := by decide +kernel
theorem dJ8_newLength_cabcc_20 : decode cJ8_newLength_cabcc 20 = .ok (.ireturn, 1) := by decide +kernel
theorem dJ8_newLength_cabcc_21 : decode cJ8_newLength_cabcc 21 = .ok (.iload_n 0, 1) := by decide +kernel
theorem dJ8_newLength_cabcc_22 : decode cJ8_newLength_cabcc 22 = .ok (.iload_n 1, 1) := by decide +kernel
theorem dJ8_newLength_cabcc_23 : decode cJ8_newLength_cabcc 23 = .ok (.invokestatic 201, 3) := by decide +kernel
theorem dJ8_newLength_cabcc_26 : decode cJ8_newLength_cabcc 26 = .ok (.ireturn, 1) := by decide +kernel
theorem dJ8_hugeLength_7cf53_0 : decode cJ8_hugeLength_7cf53 0 = .ok (.iload_n 0, 1) := by decide +kernel
theorem dJ8_hugeLength_7cf53_1 : decode cJ8_hugeLength_7cf53 1 = .ok (.iload_n 1, 1) := by decide +kernel
theorem dJ8_hugeLength_7cf53_2 : decode cJ8_hugeLength_7cf53 2 = .ok (.iadd, 1) := by decide +kernel
theorem dJ8_hugeLength_7cf53_3 : decode cJ8_hugeLength_7cf53 3 = .ok (.istore_n 2, 1) := by decide +kernel
theorem dJ8_hugeLength_7cf53_4 : decode cJ8_hugeLength_7cf53 4 = .ok (.iload_n 2, 1) := by decide +kernel
theorem dJ8_hugeLength_7cf53_5 : decode cJ8_hugeLength_7cf53 5 = .ok (.ifCond .ge 44, 3) := by decide +kernel
theorem dJ8_hugeLength_7cf53_8 : decode cJ8_hugeLength_7cf53 8 = .ok (.new 204, 3) := by decide +kernel
theorem dJ8_hugeLength_7cf53_11 : decode cJ8_hugeLength_7cf53 11 = .ok (.dup, 1) := by decide +kernel
theorem dJ8_hugeLength_7cf53_12 : decode cJ8_hugeLength_7cf53 12 = .ok (.new 89, 3) := by decide +kernel
theorem dJ8_hugeLength_7cf53_15 : decode cJ8_hugeLength_7cf53 15 = .ok (.dup, 1) := by decide +kernel
theorem dJ8_hugeLength_7cf53_16 : decode cJ8_hugeLength_7cf53 16 = .ok (.invokespecial 91, 3) := by decide +kernel
theorem dJ8_hugeLength_7cf53_19 : decode cJ8_hugeLength_7cf53 19 = .ok (.ldc 206, 2) := by decide +kernel
theorem dJ8_hugeLength_7cf53_21 : decode cJ8_hugeLength_7cf53 21 = .ok (.invokevirtual 94, 3) := by decide +kernel
theorem dJ8_hugeLength_7cf53_24 : decode cJ8_hugeLength_7cf53 24 = .ok (.iload_n 0, 1) := by decide +kernel
theorem dJ8_hugeLength_7cf53_25 : decode cJ8_hugeLength_7cf53 25 = .ok (.invokevirtual 98, 3) := by decide +kernel
theorem dJ8_hugeLength_7cf53_28 : decode cJ8_hugeLength_7cf53 28 = .ok (.ldc 208, 2) := by decide +kernel
theorem dJ8_hugeLength_7cf53_30 : decode cJ8_hugeLength_7cf53 30 = .ok (.invokevirtual 94, 3) := by decide +kernel
theorem dJ8_hugeLength_7cf53_33 : decode cJ8_hugeLength_7cf53 33 = .ok (.iload_n 1, 1) := by decide +kernel
theorem dJ8_hugeLength_7cf53_34 : decode cJ8_hugeLength_7cf53 34 = .ok (.invokevirtual 98, 3) := by decide +kernel
theorem dJ8_hugeLength_7cf53_37 : decode cJ8_hugeLength_7cf53 37 = .ok (.ldc 210, 2) := by decide +kernel
theorem dJ8_hugeLength_7cf53_39 : decode cJ8_hugeLength_7cf53 39 = .ok (.invokevirtual 94, 3) := by decide +kernel
theorem dJ8_hugeLength_7cf53_42 : decode cJ8_hugeLength_7cf53 42 = .ok (.invokevirtual 101, 3) := by decide +kernel
theorem dJ8_hugeLength_7cf53_45 : decode cJ8_hugeLength_7cf53 45 = .ok (.invokespecial 212, 3) := by decide +kernel
theorem dJ8_hugeLength_7cf53_48 : decode cJ8_hugeLength_7cf53 48 = .ok (.athrow, 1) := by decide +kernel
theorem dJ8_hugeLength_7cf53_49 : decode cJ8_hugeLength_7cf53 49 = .ok (.iload_n 2, 1) := by decide +kernel
theorem dJ8_hugeLength_7cf53_50 : decode cJ8_hugeLength_7cf53 50 = .ok (.ldc 200, 2) := by decide +kernel
theorem dJ8_hugeLength_7cf53_52 : decode cJ8_hugeLength_7cf53 52 = .ok (.if_icmp .gt 6, 3) := by decide +kernel
theorem dJ8_hugeLength_7cf53_55 : decode cJ8_hugeLength_7cf53 55 = .ok (.ldc 200, 2) := by decide +kernel
theorem dJ8_hugeLength_7cf53_57 : decode cJ8_hugeLength_7cf53 57 = .ok (.ireturn, 1) := by decide +kernel
theorem dJ8_hugeLength_7cf53_58 : decode cJ8_hugeLength_7cf53 58 = .ok (.iload_n 2, 1) := by decide +kernel
theorem dJ8_hugeLength_7cf53_59 : decode cJ8_hugeLength_7cf53 59 = .ok (.ireturn, 1) := by decide +kernel
theorem dJ3_checkIndex_8e157_0 : decode cJ3_checkIndex_8e157 0 = .ok (.iload_n 0, 1) := by decide +kernel
theorem dJ3_checkIndex_8e157_1 : decode cJ3_checkIndex_8e157 1 = .ok (.ifCond .lt 8, 3) := by decide +kernel
theorem dJ3_checkIndex_8e157_4 : decode cJ3_checkIndex_8e157 4 = .ok (.iload_n 0, 1) := by decide +kernel
theorem dJ3_checkIndex_8e157_5 : decode cJ3_checkIndex_8e157 5 = .ok (.iload_n 1, 1) := by decide +kernel
theorem dJ3_checkIndex_8e157_6 : decode cJ3_checkIndex_8e157 6 = .ok (.if_icmp .lt 10, 3) := by decide +kernel
theorem dJ3_checkIndex_8e157_9 : decode cJ3_checkIndex_8e157 9 = .ok (.aload_n 2, 1) := by decide +kernel
theorem dJ3_checkIndex_8e157_10 : decode cJ3_checkIndex_8e157 10 = .ok (.iload_n 0, 1) := by decide +kernel
theorem dJ3_checkIndex_8e157_11 : decode cJ3_checkIndex_8e157 11 = .ok (.iload_n 1, 1) := by decide +kernel
theorem dJ3_checkIndex_8e157_12 : decode cJ3_checkIndex_8e157 12 = .ok (.invokestatic 95, 3) := by decide +kernel
theorem dJ3_checkIndex_8e157_15 : decode cJ3_checkIndex_8e157 15 = .ok (.athrow, 1) := by decide +kernel
theorem dJ3_checkIndex_8e157_16 : decode cJ3_checkIndex_8e157 16 = .ok (.iload_n 0, 1) := by decide +kernel
theorem dJ3_checkIndex_8e157_17 : decode cJ3_checkIndex_8e157 17 = .ok (.ireturn, 1) := by decide +kernel
theorem dJ3_checkFromToIndex_8c36e_0 : decode cJ3_checkFromToIndex_8c36e 0 = .ok (.iload_n 0, 1) := by decide +kernel
theorem dJ3_checkFromToIndex_8c36e_1 : decode cJ3_checkFromToIndex_8c36e 1 = .ok (.ifCond .lt 13, 3) := by decide +kernel
theorem dJ3_checkFromToIndex_8c36e_4 : decode cJ3_checkFromToIndex_8c36e 4 = .ok (.iload_n 0, 1) := by decide +kernel
theorem dJ3_checkFromToIndex_8c36e_5 : decode cJ3_checkFromToIndex_8c36e 5 = .ok (.iload_n 1, 1) := by decide +kernel
theorem dJ3_checkFromToIndex_8c36e_6 : decode cJ3_checkFromToIndex_8c36e 6 = .ok (.if_icmp .gt 8, 3) := by decide +kernel
theorem dJ3_checkFromToIndex_8c36e_9 : decode cJ3_checkFromToIndex_8c36e 9 = .ok (.iload_n 1, 1) := by decide +kernel
theorem dJ3_checkFromToIndex_8c36e_10 : decode cJ3_checkFromToIndex_8c36e 10 = .ok (.iload_n 2, 1) := by decide +kernel
theorem dJ3_checkFromToIndex_8c36e_11 : decode cJ3_checkFromToIndex_8c36e 11 = .ok (.if_icmp .le 11, 3) := by decide +kernel
theorem dJ3_checkFromToIndex_8c36e_14 : decode cJ3_checkFromToIndex_8c36e 14 = .ok (.aload_n 3, 1) := by decide +kernel
theorem dJ3_checkFromToIndex_8c36e_15 : decode cJ3_checkFromToIndex_8c36e 15 = .ok (.iload_n 0, 1) := by decide +kernel
theorem dJ3_checkFromToIndex_8c36e_16 : decode cJ3_checkFromToIndex_8c36e 16 = .ok (.iload_n 1, 1) := by decide +kernel
theorem dJ3_checkFromToIndex_8c36e_17 : decode cJ3_checkFromToIndex_8c36e 17 = .ok (.iload_n 2, 1) := by decide +kernel
theorem dJ3_checkFromToIndex_8c36e_18 : decode cJ3_checkFromToIndex_8c36e 18 = .ok (.invokestatic 99, 3) := by decide +kernel
theorem dJ3_checkFromToIndex_8c36e_21 : decode cJ3_checkFromToIndex_8c36e 21 = .ok (.athrow, 1) := by decide +kernel
theorem dJ3_checkFromToIndex_8c36e_22 : decode cJ3_checkFromToIndex_8c36e 22 = .ok (.iload_n 0, 1) := by decide +kernel
theorem dJ3_checkFromToIndex_8c36e_23 : decode cJ3_checkFromToIndex_8c36e 23 = .ok (.ireturn, 1) := by decide +kernel
theorem dJ3_checkFromIndexSize_8c36e_0 : decode cJ3_checkFromIndexSize_8c36e 0 = .ok (.iload_n 2, 1) := by decide +kernel
theorem dJ3_checkFromIndexSize_8c36e_1 : decode cJ3_checkFromIndexSize_8c36e 1 = .ok (.iload_n 0, 1) := by decide +kernel
theorem dJ3_checkFromIndexSize_8c36e_2 : decode cJ3_checkFromIndexSize_8c36e 2 = .ok (.ior, 1) := by decide +kernel
theorem dJ3_checkFromIndexSize_8c36e_3 : decode cJ3_checkFromIndexSize_8c36e 3 = .ok (.iload_n 1, 1) := by decide +kernel
theorem dJ3_checkFromIndexSize_8c36e_4 : decode cJ3_checkFromIndexSize_8c36e 4 = .ok (.ior, 1) := by decide +kernel
theorem dJ3_checkFromIndexSize_8c36e_5 : decode cJ3_checkFromIndexSize_8c36e 5 = .ok (.ifCond .lt 10, 3) := by decide +kernel
theorem dJ3_checkFromIndexSize_8c36e_8 : decode cJ3_checkFromIndexSize_8c36e 8 = .ok (.iload_n 1, 1) := by decide +kernel
theorem dJ3_checkFromIndexSize_8c36e_9 : decode cJ3_checkFromIndexSize_8c36e 9 = .ok (.iload_n 2, 1) := by decide +kernel
theorem dJ3_checkFromIndexSize_8c36e_10 : decode cJ3_checkFromIndexSize_8c36e 10 = .ok (.iload_n 0, 1) := by decide +kernel
theorem dJ3_checkFromIndexSize_8c36e_11 : decode cJ3_checkFromIndexSize_8c36e 11 = .ok (.isub, 1) := by decide +kernel
theorem dJ3_checkFromIndexSize_8c36e_12 : decode cJ3_checkFromIndexSize_8c36e 12 = .ok (.if_icmp .le 11, 3) := by decide +kernel
theorem dJ3_checkFromIndexSize_8c36e_15 : decode cJ3_checkFromIndexSize_8c36e 15 = .ok (.aload_n 3, 1) := by decide +kernel
theorem dJ3_checkFromIndexSize_8c36e_16 : decode cJ3_checkFromIndexSize_8c36e 16 = .ok (.iload_n 0, 1) := by decide +kernel
theorem dJ3_checkFromIndexSize_8c36e_17 : decode cJ3_checkFromIndexSize_8c36e 17 = .ok (.iload_n 1, 1) := by decide +kernel
theorem dJ3_checkFromIndexSize_8c36e_18 : decode cJ3_checkFromIndexSize_8c36e 18 = .ok (.iload_n 2, 1) := by decide +kernel
theorem dJ3_checkFromIndexSize_8c36e_19 : decode cJ3_checkFromIndexSize_8c36e 19 = .ok (.invokestatic 103, 3) := by decide +kernel
theorem dJ3_checkFromIndexSize_8c36e_22 : decode cJ3_checkFromIndexSize_8c36e 22 = .ok (.athrow, 1) := by decide +kernel
theorem dJ3_checkFromIndexSize_8c36e_23 : decode cJ3_checkFromIndexSize_8c36e 23 = .ok (.iload_n 0, 1) := by decide +kernel
theorem dJ3_checkFromIndexSize_8c36e_24 : decode cJ3_checkFromIndexSize_8c36e 24 = .ok (.ireturn, 1) := by decide +kernel
theorem dL_law_0 : decode cL_law 0 = .ok (.new 7, 3) := by decide +kernel
theorem dL_law_3 : decode cL_law 3 = .ok (.dup, 1) := by decide +kernel
theorem dL_law_4 : decode cL_law 4 = .ok (.invokespecial 9, 3) := by decide +kernel
theorem dL_law_7 : decode cL_law 7 = .ok (.astore_n 1, 1) := by decide +kernel
theorem dL_law_8 : decode cL_law 8 = .ok (.new 10, 3) := by decide +kernel
theorem dL_law_11 : decode cL_law 11 = .ok (.dup, 1) := by decide +kernel
theorem dL_law_12 : decode cL_law 12 = .ok (.invokespecial 12, 3) := by decide +kernel
theorem dL_law_15 : decode cL_law 15 = .ok (.astore_n 2, 1) := by decide +kernel
theorem dL_law_16 : decode cL_law 16 = .ok (.iconst 0, 1) := by decide +kernel
theorem dL_law_17 : decode cL_law 17 = .ok (.istore_n 3, 1) := by decide +kernel
theorem dL_law_18 : decode cL_law 18 = .ok (.iload_n 3, 1) := by decide +kernel
theorem dL_law_19 : decode cL_law 19 = .ok (.aload_n 0, 1) := by decide +kernel
theorem dL_law_20 : decode cL_law 20 = .ok (.arraylength, 1) := by decide +kernel
theorem dL_law_21 : decode cL_law 21 = .ok (.bipush 6, 2) := by decide +kernel
theorem dL_law_23 : decode cL_law 23 = .ok (.isub, 1) := by decide +kernel
theorem dL_law_24 : decode cL_law 24 = .ok (.if_icmp .gt 1272, 3) := by decide +kernel
theorem dL_law_27 : decode cL_law 27 = .ok (.aload_n 0, 1) := by decide +kernel
theorem dL_law_28 : decode cL_law 28 = .ok (.iload_n 3, 1) := by decide +kernel
theorem dL_law_29 : decode cL_law 29 = .ok (.iaload, 1) := by decide +kernel
theorem dL_law_30 : decode cL_law 30 = .ok (.bipush 63, 2) := by decide +kernel
theorem dL_law_32 : decode cL_law 32 = .ok (.iand, 1) := by decide +kernel
theorem dL_law_33 : decode cL_law 33 = .ok (.tableswitch 1257 0 35 #[159, 172, 197, 230, 263, 296, 375, 398, 421, 444, 467, 490, 513, 536, 549, 562, 611, 644, 677, 710, 733, 766, 815, 894, 963, 996, 1029, 1052, 1065, 1088, 1111, 1154, 1195, 1218, 1231, 1244], 159) := by decide +kernel
theorem dL_law_192 : decode cL_law 192 = .ok (.aload_n 1, 1) := by decide +kernel
theorem dL_law_193 : decode cL_law 193 = .ok (.invokevirtual 13, 3) := by decide +kernel
theorem dL_law_196 : decode cL_law 196 = .ok (.aload_n 2, 1) := by decide +kernel
theorem dL_law_197 : decode cL_law 197 = .ok (.invokevirtual 17, 3) := by decide +kernel
theorem dL_law_200 : decode cL_law 200 = .ok (.if_icmp .eq 1090, 3) := by decide +kernel
theorem dL_law_203 : decode cL_law 203 = .ok (.iconst 0, 1) := by decide +kernel
theorem dL_law_204 : decode cL_law 204 = .ok (.ireturn, 1) := by decide +kernel
theorem dL_law_205 : decode cL_law 205 = .ok (.aload_n 1, 1) := by decide +kernel
theorem dL_law_206 : decode cL_law 206 = .ok (.aload_n 0, 1) := by decide +kernel
theorem dL_law_207 : decode cL_law 207 = .ok (.iload_n 3, 1) := by decide +kernel
theorem dL_law_208 : decode cL_law 208 = .ok (.iconst 1, 1) := by decide +kernel
theorem dL_law_209 : decode cL_law 209 = .ok (.iadd, 1) := by decide +kernel
theorem dL_law_210 : decode cL_law 210 = .ok (.iaload, 1) := by decide +kernel
theorem dL_law_211 : decode cL_law 211 = .ok (.i2c, 1) := by decide +kernel
theorem dL_law_212 : decode cL_law 212 = .ok (.invokevirtual 18, 3) := by decide +kernel
theorem dL_law_215 : decode cL_law 215 = .ok (.aload_n 2, 1) := by decide +kernel
theorem dL_law_216 : decode cL_law 216 = .ok (.aload_n 0, 1) := by decide +kernel
theorem dL_law_217 : decode cL_law 217 = .ok (.iload_n 3, 1) := by decide +kernel
theorem dL_law_218 : decode cL_law 218 = .ok (.iconst 1, 1) := by decide +kernel
theorem dL_law_219 : decode cL_law 219 = .ok (.iadd, 1) := by decide +kernel
theorem dL_law_220 : decode cL_law 220 = .ok (.iaload, 1) := by decide +kernel
theorem dL_law_221 : decode cL_law 221 = .ok (.i2c, 1) := by decide +kernel
theorem dL_law_222 : decode cL_law 222 = .ok (.invokevirtual 22, 3) := by decide +kernel
theorem dL_law_225 : decode cL_law 225 = .ok (.if_icmp .eq 1065, 3) := by decide +kernel
theorem dL_law_228 : decode cL_law 228 = .ok (.iconst 0, 1) := by decide +kernel
theorem dL_law_229 : decode cL_law 229 = .ok (.ireturn, 1) := by decide +kernel
theorem dL_law_230 : decode cL_law 230 = .ok (.aload_n 1, 1) := by decide +kernel
theorem dL_law_231 : decode cL_law 231 = .ok (.aload_n 0, 1) := by decide +kernel
theorem dL_law_232 : decode cL_law 232 = .ok (.iload_n 3, 1) := by decide +kernel
theorem dL_law_233 : decode cL_law 233 = .ok (.iconst 1, 1) := by decide +kernel
theorem dL_law_234 : decode cL_law 234 = .ok (.iadd, 1) := by decide +kernel
theorem dL_law_235 : decode cL_law 235 = .ok (.iaload, 1) := by decide +kernel
theorem dL_law_236 : decode cL_law 236 = .ok (.aload_n 0, 1) := by decide +kernel
theorem dL_law_237 : decode cL_law 237 = .ok (.iload_n 3, 1) := by decide +kernel
theorem dL_law_238 : decode cL_law 238 = .ok (.iconst 2, 1) := by decide +kernel
theorem dL_law_239 : decode cL_law 239 = .ok (.iadd, 1) := by decide +kernel
theorem dL_law_240 : decode cL_law 240 = .ok (.iaload, 1) := by decide +kernel
theorem dL_law_241 : decode cL_law 241 = .ok (.invokevirtual 23, 3) := by decide +kernel
theorem dL_law_244 : decode cL_law 244 = .ok (.aload_n 2, 1) := by decide +kernel
theorem dL_law_245 : decode cL_law 245 = .ok (.aload_n 0, 1) := by decide +kernel
theorem dL_law_246 : decode cL_law 246 = .ok (.iload_n 3, 1) := by decide +kernel
theorem dL_law_247 : decode cL_law 247 = .ok (.iconst 1, 1) := by decide +kernel
theorem dL_law_248 : decode cL_law 248 = .ok (.iadd, 1) := by decide +kernel
theorem dL_law_249 : decode cL_law 249 = .ok (.iaload, 1) := by decide +kernel
theorem dL_law_250 : decode cL_law 250 = .ok (.aload_n 0, 1) := by decide +kernel
theorem dL_law_251 : decode cL_law 251 = .ok (.iload_n 3, 1) := by decide +kernel
theorem dL_law_252 : decode cL_law 252 = .ok (.iconst 2, 1) := by decide +kernel
theorem dL_law_253 : decode cL_law 253 = .ok (.iadd, 1) := by decide +kernel
theorem dL_law_254 : decode cL_law 254 = .ok (.iaload, 1) := by decide +kernel
theorem dL_law_255 : decode cL_law 255 = .ok (.invokevirtual 27, 3) := by decide +kernel
theorem dL_law_258 : decode cL_law 258 = .ok (.if_icmp .eq 1032, 3) := by decide +kernel
theorem dL_law_261 : decode cL_law 261 = .ok (.iconst 0, 1) := by decide +kernel
theorem dL_law_262 : decode cL_law 262 = .ok (.ireturn, 1) := by decide +kernel
theorem dL_law_263 : decode cL_law 263 = .ok (.aload_n 1, 1) := by decide +kernel
theorem dL_law_264 : decode cL_law 264 = .ok (.aload_n 0, 1) := by decide +kernel
theorem dL_law_265 : decode cL_law 265 = .ok (.iload_n 3, 1) := by decide +kernel
theorem dL_law_266 : decode cL_law 266 = .ok (.iconst 1, 1) := by decide +kernel
theorem dL_law_267 : decode cL_law 267 = .ok (.iadd, 1) := by decide +kernel
theorem dL_law_268 : decode cL_law 268 = .ok (.iaload, 1) := by decide +kernel
theorem dL_law_269 : decode cL_law 269 = .ok (.aload_n 0, 1) := by decide +kernel
theorem dL_law_270 : decode cL_law 270 = .ok (.iload_n 3, 1) := by decide +kernel
theorem dL_law_271 : decode cL_law 271 = .ok (.iconst 2, 1) := by decide +kernel
theorem dL_law_272 : decode cL_law 272 = .ok (.iadd, 1) := by decide +kernel
theorem dL_law_273 : decode cL_law 273 = .ok (.iaload, 1) := by decide +kernel
theorem dL_law_274 : decode cL_law 274 = .ok (.invokevirtual 28, 3) := by decide +kernel
theorem dL_law_277 : decode cL_law 277 = .ok (.aload_n 2, 1) := by decide +kernel
theorem dL_law_278 : decode cL_law 278 = .ok (.aload_n 0, 1) := by decide +kernel
theorem dL_law_279 : decode cL_law 279 = .ok (.iload_n 3, 1) := by decide +kernel
theorem dL_law_280 : decode cL_law 280 = .ok (.iconst 1, 1) := by decide +kernel
theorem dL_law_281 : decode cL_law 281 = .ok (.iadd, 1) := by decide +kernel
theorem dL_law_282 : decode cL_law 282 = .ok (.iaload, 1) := by decide +kernel
theorem dL_law_283 : decode cL_law 283 = .ok (.aload_n 0, 1) := by decide +kernel
theorem dL_law_284 : decode cL_law 284 = .ok (.iload_n 3, 1) := by decide +kernel
theorem dL_law_285 : decode cL_law 285 = .ok (.iconst 2, 1) := by decide +kernel
theorem dL_law_286 : decode cL_law 286 = .ok (.iadd, 1) := by decide +kernel
theorem dL_law_287 : decode cL_law 287 = .ok (.iaload, 1) := by decide +kernel
theorem dL_law_288 : decode cL_law 288 = .ok (.invokevirtual 31, 3) := by decide +kernel
theorem dL_law_291 : decode cL_law 291 = .ok (.if_icmp .eq 999, 3) := by decide +kernel
theorem dL_law_294 : decode cL_law 294 = .ok (.iconst 0, 1) := by decide +kernel
theorem dL_law_295 : decode cL_law 295 = .ok (.ireturn, 1) := by decide +kernel
theorem dL_law_296 : decode cL_law 296 = .ok (.aload_n 1, 1) := by decide +kernel
theorem dL_law_297 : decode cL_law 297 = .ok (.aload_n 0, 1) := by decide +kernel
theorem dL_law_298 : decode cL_law 298 = .ok (.iload_n 3, 1) := by decide +kernel
theorem dL_law_299 : decode cL_law 299 = .ok (.iconst 1, 1) := by decide +kernel
theorem dL_law_300 : decode cL_law 300 = .ok (.iadd, 1) := by decide +kernel
theorem dL_law_301 : decode cL_law 301 = .ok (.iaload, 1) := by decide +kernel
theorem dL_law_302 : decode cL_law 302 = .ok (.aload_n 0, 1) := by decide +kernel
theorem dL_law_303 : decode cL_law 303 = .ok (.iload_n 3, 1) := by decide +kernel
theorem dL_law_304 : decode cL_law 304 = .ok (.iconst 2, 1) := by decide +kernel
theorem dL_law_305 : decode cL_law 305 = .ok (.iadd, 1) := by decide +kernel
theorem dL_law_306 : decode cL_law 306 = .ok (.iaload, 1) := by decide +kernel
theorem dL_law_307 : decode cL_law 307 = .ok (.invokevirtual 32, 3) := by decide +kernel
theorem dL_law_310 : decode cL_law 310 = .ok (.aload_n 2, 1) := by decide +kernel
theorem dL_law_311 : decode cL_law 311 = .ok (.aload_n 0, 1) := by decide +kernel
theorem dL_law_312 : decode cL_law 312 = .ok (.iload_n 3, 1) := by decide +kernel
theorem dL_law_313 : decode cL_law 313 = .ok (.iconst 1, 1) := by decide +kernel
theorem dL_law_314 : decode cL_law 314 = .ok (.iadd, 1) := by decide +kernel
theorem dL_law_315 : decode cL_law 315 = .ok (.iaload, 1) := by decide +kernel
theorem dL_law_316 : decode cL_law 316 = .ok (.aload_n 0, 1) := by decide +kernel
theorem dL_law_317 : decode cL_law 317 = .ok (.iload_n 3, 1) := by decide +kernel
theorem dL_law_318 : decode cL_law 318 = .ok (.iconst 2, 1) := by decide +kernel
theorem dL_law_319 : decode cL_law 319 = .ok (.iadd, 1) := by decide +kernel
theorem dL_law_320 : decode cL_law 320 = .ok (.iaload, 1) := by decide +kernel
theorem dL_law_321 : decode cL_law 321 = .ok (.invokevirtual 35, 3) := by decide +kernel
theorem dL_law_324 : decode cL_law 324 = .ok (.if_icmp .eq 966, 3) := by decide +kernel
theorem dL_law_327 : decode cL_law 327 = .ok (.iconst 0, 1) := by decide +kernel
theorem dL_law_328 : decode cL_law 328 = .ok (.ireturn, 1) := by decide +kernel
theorem dL_law_329 : decode cL_law 329 = .ok (.aload_n 1, 1) := by decide +kernel
theorem dL_law_330 : decode cL_law 330 = .ok (.aload_n 0, 1) := by decide +kernel
theorem dL_law_331 : decode cL_law 331 = .ok (.iload_n 3, 1) := by decide +kernel
theorem dL_law_332 : decode cL_law 332 = .ok (.iconst 1, 1) := by decide +kernel
theorem dL_law_333 : decode cL_law 333 = .ok (.iadd, 1) := by decide +kernel
theorem dL_law_334 : decode cL_law 334 = .ok (.iaload, 1) := by decide +kernel
theorem dL_law_335 : decode cL_law 335 = .ok (.aload_n 0, 1) := by decide +kernel
theorem dL_law_336 : decode cL_law 336 = .ok (.iload_n 3, 1) := by decide +kernel
theorem dL_law_337 : decode cL_law 337 = .ok (.iconst 2, 1) := by decide +kernel
theorem dL_law_338 : decode cL_law 338 = .ok (.iadd, 1) := by decide +kernel
theorem dL_law_339 : decode cL_law 339 = .ok (.iaload, 1) := by decide +kernel
theorem dL_law_340 : decode cL_law 340 = .ok (.aload_n 0, 1) := by decide +kernel
theorem dL_law_341 : decode cL_law 341 = .ok (.iload_n 3, 1) := by decide +kernel
theorem dL_law_342 : decode cL_law 342 = .ok (.iconst 3, 1) := by decide +kernel
theorem dL_law_343 : decode cL_law 343 = .ok (.iadd, 1) := by decide +kernel
theorem dL_law_344 : decode cL_law 344 = .ok (.iaload, 1) := by decide +kernel
theorem dL_law_345 : decode cL_law 345 = .ok (.aload_n 0, 1) := by decide +kernel
theorem dL_law_346 : decode cL_law 346 = .ok (.iload_n 3, 1) := by decide +kernel
theorem dL_law_347 : decode cL_law 347 = .ok (.iconst 4, 1) := by decide +kernel
theorem dL_law_348 : decode cL_law 348 = .ok (.iadd, 1) := by decide +kernel
theorem dL_law_349 : decode cL_law 349 = .ok (.iaload, 1) := by decide +kernel
theorem dL_law_350 : decode cL_law 350 = .ok (.aload_n 0, 1) := by decide +kernel
theorem dL_law_351 : decode cL_law 351 = .ok (.iload_n 3, 1) := by decide +kernel
theorem dL_law_352 : decode cL_law 352 = .ok (.iconst 5, 1) := by decide +kernel
theorem dL_law_353 : decode cL_law 353 = .ok (.iadd, 1) := by decide +kernel
theorem dL_law_354 : decode cL_law 354 = .ok (.iaload, 1) := by decide +kernel
theorem dL_law_355 : decode cL_law 355 = .ok (.ifCond .eq 7, 3) := by decide +kernel
theorem dL_law_358 : decode cL_law 358 = .ok (.iconst 1, 1) := by decide +kernel
theorem dL_law_359 : decode cL_law 359 = .ok (.goto 4, 3) := by decide +kernel
theorem dL_law_362 : decode cL_law 362 = .ok (.iconst 0, 1) := by decide +kernel
theorem dL_law_363 : decode cL_law 363 = .ok (.invokevirtual 36, 3) := by decide +kernel
theorem dL_law_366 : decode cL_law 366 = .ok (.aload_n 2, 1) := by decide +kernel
theorem dL_law_367 : decode cL_law 367 = .ok (.aload_n 0, 1) := by decide +kernel
theorem dL_law_368 : decode cL_law 368 = .ok (.iload_n 3, 1) := by decide +kernel
theorem dL_law_369 : decode cL_law 369 = .ok (.iconst 1, 1) := by decide +kernel
theorem dL_law_370 : decode cL_law 370 = .ok (.iadd, 1) := by decide +kernel
theorem dL_law_371 : decode cL_law 371 = .ok (.iaload, 1) := by decide +kernel
theorem dL_law_372 : decode cL_law 372 = .ok (.aload_n 0, 1) := by decide +kernel
theorem dL_law_373 : decode cL_law 373 = .ok (.iload_n 3, 1) := by decide +kernel
theorem dL_law_374 : decode cL_law 374 = .ok (.iconst 2, 1) := by decide +kernel
theorem dL_law_375 : decode cL_law 375 = .ok (.iadd, 1) := by decide +kernel
theorem dL_law_376 : decode cL_law 376 = .ok (.iaload, 1) := by decide +kernel
theorem dL_law_377 : decode cL_law 377 = .ok (.aload_n 0, 1) := by decide +kernel
theorem dL_law_378 : decode cL_law 378 = .ok (.iload_n 3, 1) := by decide +kernel
theorem dL_law_379 : decode cL_law 379 = .ok (.iconst 3, 1) := by decide +kernel
theorem dL_law_380 : decode cL_law 380 = .ok (.iadd, 1) := by decide +kernel
theorem dL_law_381 : decode cL_law 381 = .ok (.iaload, 1) := by decide +kernel
theorem dL_law_382 : decode cL_law 382 = .ok (.aload_n 0, 1) := by decide +kernel
theorem dL_law_383 : decode cL_law 383 = .ok (.iload_n 3, 1) := by decide +kernel
theorem dL_law_384 : decode cL_law 384 = .ok (.iconst 4, 1) := by decide +kernel
theorem dL_law_385 : decode cL_law 385 = .ok (.iadd, 1) := by decide +kernel
theorem dL_law_386 : decode cL_law 386 = .ok (.iaload, 1) := by decide +kernel
theorem dL_law_387 : decode cL_law 387 = .ok (.aload_n 0, 1) := by decide +kernel
theorem dL_law_388 : decode cL_law 388 = .ok (.iload_n 3, 1) := by decide +kernel
theorem dL_law_389 : decode cL_law 389 = .ok (.iconst 5, 1) := by decide +kernel
theorem dL_law_390 : decode cL_law 390 = .ok (.iadd, 1) := by decide +kernel
theorem dL_law_391 : decode cL_law 391 = .ok (.iaload, 1) := by decide +kernel
theorem dL_law_392 : decode cL_law 392 = .ok (.ifCond .eq 7, 3) := by decide +kernel
theorem dL_law_395 : decode cL_law 395 = .ok (.iconst 1, 1) := by decide +kernel
theorem dL_law_396 : decode cL_law 396 = .ok (.goto 4, 3) := by decide +kernel
theorem dL_law_399 : decode cL_law 399 = .ok (.iconst 0, 1) := by decide +kernel
theorem dL_law_400 : decode cL_law 400 = .ok (.invokevirtual 40, 3) := by decide +kernel
theorem dL_law_403 : decode cL_law 403 = .ok (.if_icmp .eq 887, 3) := by decide +kernel
theorem dL_law_406 : decode cL_law 406 = .ok (.iconst 0, 1) := by decide +kernel
theorem dL_law_407 : decode cL_law 407 = .ok (.ireturn, 1) := by decide +kernel
theorem dL_law_408 : decode cL_law 408 = .ok (.aload_n 1, 1) := by decide +kernel
theorem dL_law_409 : decode cL_law 409 = .ok (.aload_n 0, 1) := by decide +kernel
theorem dL_law_410 : decode cL_law 410 = .ok (.iload_n 3, 1) := by decide +kernel
theorem dL_law_411 : decode cL_law 411 = .ok (.iconst 1, 1) := by decide +kernel
theorem dL_law_412 : decode cL_law 412 = .ok (.iadd, 1) := by decide +kernel
theorem dL_law_413 : decode cL_law 413 = .ok (.iaload, 1) := by decide +kernel
theorem dL_law_414 : decode cL_law 414 = .ok (.invokevirtual 41, 3) := by decide +kernel
theorem dL_law_417 : decode cL_law 417 = .ok (.aload_n 2, 1) := by decide +kernel
theorem dL_law_418 : decode cL_law 418 = .ok (.aload_n 0, 1) := by decide +kernel
theorem dL_law_419 : decode cL_law 419 = .ok (.iload_n 3, 1) := by decide +kernel
theorem dL_law_420 : decode cL_law 420 = .ok (.iconst 1, 1) := by decide +kernel
theorem dL_law_421 : decode cL_law 421 = .ok (.iadd, 1) := by decide +kernel
theorem dL_law_422 : decode cL_law 422 = .ok (.iaload, 1) := by decide +kernel
theorem dL_law_423 : decode cL_law 423 = .ok (.invokevirtual 45, 3) := by decide +kernel
theorem dL_law_426 : decode cL_law 426 = .ok (.if_icmp .eq 864, 3) := by decide +kernel
theorem dL_law_429 : decode cL_law 429 = .ok (.iconst 0, 1) := by decide +kernel
theorem dL_law_430 : decode cL_law 430 = .ok (.ireturn, 1) := by decide +kernel
theorem dL_law_431 : decode cL_law 431 = .ok (.aload_n 1, 1) := by decide +kernel
theorem dL_law_432 : decode cL_law 432 = .ok (.aload_n 0, 1) := by decide +kernel
theorem dL_law_433 : decode cL_law 433 = .ok (.iload_n 3, 1) := by decide +kernel
theorem dL_law_434 : decode cL_law 434 = .ok (.iconst 1, 1) := by decide +kernel
theorem dL_law_435 : decode cL_law 435 = .ok (.iadd, 1) := by decide +kernel
theorem dL_law_436 : decode cL_law 436 = .ok (.iaload, 1) := by decide +kernel
theorem dL_law_437 : decode cL_law 437 = .ok (.invokevirtual 46, 3) := by decide +kernel
theorem dL_law_440 : decode cL_law 440 = .ok (.aload_n 2, 1) := by decide +kernel
theorem dL_law_441 : decode cL_law 441 = .ok (.aload_n 0, 1) := by decide +kernel
theorem dL_law_442 : decode cL_law 442 = .ok (.iload_n 3, 1) := by decide +kernel
theorem dL_law_443 : decode cL_law 443 = .ok (.iconst 1, 1) := by decide +kernel
theorem dL_law_444 : decode cL_law 444 = .ok (.iadd, 1) := by decide +kernel
theorem dL_law_445 : decode cL_law 445 = .ok (.iaload, 1) := by decide +kernel
theorem dL_law_446 : decode cL_law 446 = .ok (.invokevirtual 49, 3) := by decide +kernel
theorem dL_law_449 : decode cL_law 449 = .ok (.if_icmp .eq 841, 3) := by decide +kernel
theorem dL_law_452 : decode cL_law 452 = .ok (.iconst 0, 1) := by decide +kernel
theorem dL_law_453 : decode cL_law 453 = .ok (.ireturn, 1) := by decide +kernel
theorem dL_law_454 : decode cL_law 454 = .ok (.aload_n 1, 1) := by decide +kernel
theorem dL_law_455 : decode cL_law 455 = .ok (.aload_n 0, 1) := by decide +kernel
theorem dL_law_456 : decode cL_law 456 = .ok (.iload_n 3, 1) := by decide +kernel
theorem dL_law_457 : decode cL_law 457 = .ok (.iconst 1, 1) := by decide +kernel
theorem dL_law_458 : decode cL_law 458 = .ok (.iadd, 1) := by decide +kernel
theorem dL_law_459 : decode cL_law 459 = .ok (.iaload, 1) := by decide +kernel
theorem dL_law_460 : decode cL_law 460 = .ok (.invokevirtual 50, 3) := by decide +kernel
theorem dL_law_463 : decode cL_law 463 = .ok (.aload_n 2, 1) := by decide +kernel
theorem dL_law_464 : decode cL_law 464 = .ok (.aload_n 0, 1) := by decide +kernel
theorem dL_law_465 : decode cL_law 465 = .ok (.iload_n 3, 1) := by decide +kernel
theorem dL_law_466 : decode cL_law 466 = .ok (.iconst 1, 1) := by decide +kernel
theorem dL_law_467 : decode cL_law 467 = .ok (.iadd, 1) := by decide +kernel
theorem dL_law_468 : decode cL_law 468 = .ok (.iaload, 1) := by decide +kernel
theorem dL_law_469 : decode cL_law 469 = .ok (.invokevirtual 53, 3) := by decide +kernel
theorem dL_law_472 : decode cL_law 472 = .ok (.if_icmp .eq 818, 3) := by decide +kernel
theorem dL_law_475 : decode cL_law 475 = .ok (.iconst 0, 1) := by decide +kernel
theorem dL_law_476 : decode cL_law 476 = .ok (.ireturn, 1) := by decide +kernel
theorem dL_law_477 : decode cL_law 477 = .ok (.aload_n 1, 1) := by decide +kernel
theorem dL_law_478 : decode cL_law 478 = .ok (.aload_n 0, 1) := by decide +kernel
theorem dL_law_479 : decode cL_law 479 = .ok (.iload_n 3, 1) := by decide +kernel
theorem dL_law_480 : decode cL_law 480 = .ok (.iconst 1, 1) := by decide +kernel
theorem dL_law_481 : decode cL_law 481 = .ok (.iadd, 1) := by decide +kernel
theorem dL_law_482 : decode cL_law 482 = .ok (.iaload, 1) := by decide +kernel
theorem dL_law_483 : decode cL_law 483 = .ok (.invokevirtual 54, 3) := by decide +kernel
theorem dL_law_486 : decode cL_law 486 = .ok (.aload_n 2, 1) := by decide +kernel
theorem dL_law_487 : decode cL_law 487 = .ok (.aload_n 0, 1) := by decide +kernel
theorem dL_law_488 : decode cL_law 488 = .ok (.iload_n 3, 1) := by decide +kernel
theorem dL_law_489 : decode cL_law 489 = .ok (.iconst 1, 1) := by decide +kernel
theorem dL_law_490 : decode cL_law 490 = .ok (.iadd, 1) := by decide +kernel
theorem dL_law_491 : decode cL_law 491 = .ok (.iaload, 1) := by decide +kernel
theorem dL_law_492 : decode cL_law 492 = .ok (.invokevirtual 57, 3) := by decide +kernel
theorem dL_law_495 : decode cL_law 495 = .ok (.if_icmp .eq 795, 3) := by decide +kernel
theorem dL_law_498 : decode cL_law 498 = .ok (.iconst 0, 1) := by decide +kernel
theorem dL_law_499 : decode cL_law 499 = .ok (.ireturn, 1) := by decide +kernel
theorem dL_law_500 : decode cL_law 500 = .ok (.aload_n 1, 1) := by decide +kernel
theorem dL_law_501 : decode cL_law 501 = .ok (.aload_n 0, 1) := by decide +kernel
theorem dL_law_502 : decode cL_law 502 = .ok (.iload_n 3, 1) := by decide +kernel
theorem dL_law_503 : decode cL_law 503 = .ok (.iconst 1, 1) := by decide +kernel
theorem dL_law_504 : decode cL_law 504 = .ok (.iadd, 1) := by decide +kernel
theorem dL_law_505 : decode cL_law 505 = .ok (.iaload, 1) := by decide +kernel
theorem dL_law_506 : decode cL_law 506 = .ok (.invokevirtual 58, 3) := by decide +kernel
theorem dL_law_509 : decode cL_law 509 = .ok (.aload_n 2, 1) := by decide +kernel
theorem dL_law_510 : decode cL_law 510 = .ok (.aload_n 0, 1) := by decide +kernel
theorem dL_law_511 : decode cL_law 511 = .ok (.iload_n 3, 1) := by decide +kernel
theorem dL_law_512 : decode cL_law 512 = .ok (.iconst 1, 1) := by decide +kernel
theorem dL_law_513 : decode cL_law 513 = .ok (.iadd, 1) := by decide +kernel
theorem dL_law_514 : decode cL_law 514 = .ok (.iaload, 1) := by decide +kernel
theorem dL_law_515 : decode cL_law 515 = .ok (.invokevirtual 61, 3) := by decide +kernel
theorem dL_law_518 : decode cL_law 518 = .ok (.if_icmp .eq 772, 3) := by decide +kernel
theorem dL_law_521 : decode cL_law 521 = .ok (.iconst 0, 1) := by decide +kernel
theorem dL_law_522 : decode cL_law 522 = .ok (.ireturn, 1) := by decide +kernel
theorem dL_law_523 : decode cL_law 523 = .ok (.aload_n 1, 1) := by decide +kernel
theorem dL_law_524 : decode cL_law 524 = .ok (.aload_n 0, 1) := by decide +kernel
theorem dL_law_525 : decode cL_law 525 = .ok (.iload_n 3, 1) := by decide +kernel
theorem dL_law_526 : decode cL_law 526 = .ok (.iconst 1, 1) := by decide +kernel
theorem dL_law_527 : decode cL_law 527 = .ok (.iadd, 1) := by decide +kernel
theorem dL_law_528 : decode cL_law 528 = .ok (.iaload, 1) := by decide +kernel
theorem dL_law_529 : decode cL_law 529 = .ok (.invokevirtual 62, 3) := by decide +kernel
theorem dL_law_532 : decode cL_law 532 = .ok (.aload_n 2, 1) := by decide +kernel
theorem dL_law_533 : decode cL_law 533 = .ok (.aload_n 0, 1) := by decide +kernel
theorem dL_law_534 : decode cL_law 534 = .ok (.iload_n 3, 1) := by decide +kernel
theorem dL_law_535 : decode cL_law 535 = .ok (.iconst 1, 1) := by decide +kernel
theorem dL_law_536 : decode cL_law 536 = .ok (.iadd, 1) := by decide +kernel
theorem dL_law_537 : decode cL_law 537 = .ok (.iaload, 1) := by decide +kernel
theorem dL_law_538 : decode cL_law 538 = .ok (.invokevirtual 65, 3) := by decide +kernel
theorem dL_law_541 : decode cL_law 541 = .ok (.if_icmp .eq 749, 3) := by decide +kernel
theorem dL_law_544 : decode cL_law 544 = .ok (.iconst 0, 1) := by decide +kernel
theorem dL_law_545 : decode cL_law 545 = .ok (.ireturn, 1) := by decide +kernel
theorem dL_law_546 : decode cL_law 546 = .ok (.aload_n 1, 1) := by decide +kernel
theorem dL_law_547 : decode cL_law 547 = .ok (.aload_n 0, 1) := by decide +kernel
theorem dL_law_548 : decode cL_law 548 = .ok (.iload_n 3, 1) := by decide +kernel
theorem dL_law_549 : decode cL_law 549 = .ok (.iconst 1, 1) := by decide +kernel
theorem dL_law_550 : decode cL_law 550 = .ok (.iadd, 1) := by decide +kernel
theorem dL_law_551 : decode cL_law 551 = .ok (.iaload, 1) := by decide +kernel
theorem dL_law_552 : decode cL_law 552 = .ok (.invokevirtual 66, 3) := by decide +kernel
theorem dL_law_555 : decode cL_law 555 = .ok (.aload_n 2, 1) := by decide +kernel
theorem dL_law_556 : decode cL_law 556 = .ok (.aload_n 0, 1) := by decide +kernel
theorem dL_law_557 : decode cL_law 557 = .ok (.iload_n 3, 1) := by decide +kernel
theorem dL_law_558 : decode cL_law 558 = .ok (.iconst 1, 1) := by decide +kernel
theorem dL_law_559 : decode cL_law 559 = .ok (.iadd, 1) := by decide +kernel
theorem dL_law_560 : decode cL_law 560 = .ok (.iaload, 1) := by decide +kernel
theorem dL_law_561 : decode cL_law 561 = .ok (.invokevirtual 69, 3) := by decide +kernel
theorem dL_law_564 : decode cL_law 564 = .ok (.if_icmp .eq 726, 3) := by decide +kernel
theorem dL_law_567 : decode cL_law 567 = .ok (.iconst 0, 1) := by decide +kernel
theorem dL_law_568 : decode cL_law 568 = .ok (.ireturn, 1) := by decide +kernel
theorem dL_law_569 : decode cL_law 569 = .ok (.aload_n 1, 1) := by decide +kernel
theorem dL_law_570 : decode cL_law 570 = .ok (.invokevirtual 70, 3) := by decide +kernel
theorem dL_law_573 : decode cL_law 573 = .ok (.aload_n 2, 1) := by decide +kernel
theorem dL_law_574 : decode cL_law 574 = .ok (.invokevirtual 73, 3) := by decide +kernel
theorem dL_law_577 : decode cL_law 577 = .ok (.if_icmp .eq 713, 3) := by decide +kernel
theorem dL_law_580 : decode cL_law 580 = .ok (.iconst 0, 1) := by decide +kernel
theorem dL_law_581 : decode cL_law 581 = .ok (.ireturn, 1) := by decide +kernel
theorem dL_law_582 : decode cL_law 582 = .ok (.aload_n 1, 1) := by decide +kernel
theorem dL_law_583 : decode cL_law 583 = .ok (.invokevirtual 74, 3) := by decide +kernel
theorem dL_law_586 : decode cL_law 586 = .ok (.aload_n 2, 1) := by decide +kernel
theorem dL_law_587 : decode cL_law 587 = .ok (.invokevirtual 77, 3) := by decide +kernel
theorem dL_law_590 : decode cL_law 590 = .ok (.if_icmp .eq 700, 3) := by decide +kernel
theorem dL_law_593 : decode cL_law 593 = .ok (.iconst 0, 1) := by decide +kernel
theorem dL_law_594 : decode cL_law 594 = .ok (.ireturn, 1) := by decide +kernel
theorem dL_law_595 : decode cL_law 595 = .ok (.aload_n 1, 1) := by decide +kernel
theorem dL_law_596 : decode cL_law 596 = .ok (.aload_n 0, 1) := by decide +kernel
theorem dL_law_597 : decode cL_law 597 = .ok (.iload_n 3, 1) := by decide +kernel
theorem dL_law_598 : decode cL_law 598 = .ok (.iconst 1, 1) := by decide +kernel
theorem dL_law_599 : decode cL_law 599 = .ok (.iadd, 1) := by decide +kernel
theorem dL_law_600 : decode cL_law 600 = .ok (.iaload, 1) := by decide +kernel
theorem dL_law_601 : decode cL_law 601 = .ok (.aload_n 0, 1) := by decide +kernel
theorem dL_law_602 : decode cL_law 602 = .ok (.iload_n 3, 1) := by decide +kernel
theorem dL_law_603 : decode cL_law 603 = .ok (.iconst 2, 1) := by decide +kernel
theorem dL_law_604 : decode cL_law 604 = .ok (.iadd, 1) := by decide +kernel
theorem dL_law_605 : decode cL_law 605 = .ok (.iaload, 1) := by decide +kernel
theorem dL_law_606 : decode cL_law 606 = .ok (.ifCond .eq 7, 3) := by decide +kernel
theorem dL_law_609 : decode cL_law 609 = .ok (.iconst 1, 1) := by decide +kernel
theorem dL_law_610 : decode cL_law 610 = .ok (.goto 4, 3) := by decide +kernel
theorem dL_law_613 : decode cL_law 613 = .ok (.iconst 0, 1) := by decide +kernel
theorem dL_law_614 : decode cL_law 614 = .ok (.invokevirtual 78, 3) := by decide +kernel
theorem dL_law_617 : decode cL_law 617 = .ok (.aload_n 2, 1) := by decide +kernel
theorem dL_law_618 : decode cL_law 618 = .ok (.aload_n 0, 1) := by decide +kernel
theorem dL_law_619 : decode cL_law 619 = .ok (.iload_n 3, 1) := by decide +kernel
theorem dL_law_620 : decode cL_law 620 = .ok (.iconst 1, 1) := by decide +kernel
theorem dL_law_621 : decode cL_law 621 = .ok (.iadd, 1) := by decide +kernel
theorem dL_law_622 : decode cL_law 622 = .ok (.iaload, 1) := by decide +kernel
theorem dL_law_623 : decode cL_law 623 = .ok (.aload_n 0, 1) := by decide +kernel
theorem dL_law_624 : decode cL_law 624 = .ok (.iload_n 3, 1) := by decide +kernel
theorem dL_law_625 : decode cL_law 625 = .ok (.iconst 2, 1) := by decide +kernel
theorem dL_law_626 : decode cL_law 626 = .ok (.iadd, 1) := by decide +kernel
theorem dL_law_627 : decode cL_law 627 = .ok (.iaload, 1) := by decide +kernel
theorem dL_law_628 : decode cL_law 628 = .ok (.ifCond .eq 7, 3) := by decide +kernel
theorem dL_law_631 : decode cL_law 631 = .ok (.iconst 1, 1) := by decide +kernel
theorem dL_law_632 : decode cL_law 632 = .ok (.goto 4, 3) := by decide +kernel
theorem dL_law_635 : decode cL_law 635 = .ok (.iconst 0, 1) := by decide +kernel
theorem dL_law_636 : decode cL_law 636 = .ok (.invokevirtual 82, 3) := by decide +kernel
theorem dL_law_639 : decode cL_law 639 = .ok (.if_icmp .eq 651, 3) := by decide +kernel
theorem dL_law_642 : decode cL_law 642 = .ok (.iconst 0, 1) := by decide +kernel
theorem dL_law_643 : decode cL_law 643 = .ok (.ireturn, 1) := by decide +kernel
theorem dL_law_644 : decode cL_law 644 = .ok (.aload_n 1, 1) := by decide +kernel
theorem dL_law_645 : decode cL_law 645 = .ok (.aload_n 0, 1) := by decide +kernel
theorem dL_law_646 : decode cL_law 646 = .ok (.iload_n 3, 1) := by decide +kernel
theorem dL_law_647 : decode cL_law 647 = .ok (.iconst 1, 1) := by decide +kernel
theorem dL_law_648 : decode cL_law 648 = .ok (.iadd, 1) := by decide +kernel
theorem dL_law_649 : decode cL_law 649 = .ok (.iaload, 1) := by decide +kernel
theorem dL_law_650 : decode cL_law 650 = .ok (.aload_n 0, 1) := by decide +kernel
theorem dL_law_651 : decode cL_law 651 = .ok (.iload_n 3, 1) := by decide +kernel
theorem dL_law_652 : decode cL_law 652 = .ok (.iconst 2, 1) := by decide +kernel
theorem dL_law_653 : decode cL_law 653 = .ok (.iadd, 1) := by decide +kernel
theorem dL_law_654 : decode cL_law 654 = .ok (.iaload, 1) := by decide +kernel
theorem dL_law_655 : decode cL_law 655 = .ok (.invokevirtual 83, 3) := by decide +kernel
theorem dL_law_658 : decode cL_law 658 = .ok (.aload_n 2, 1) := by decide +kernel
theorem dL_law_659 : decode cL_law 659 = .ok (.aload_n 0, 1) := by decide +kernel
theorem dL_law_660 : decode cL_law 660 = .ok (.iload_n 3, 1) := by decide +kernel
theorem dL_law_661 : decode cL_law 661 = .ok (.iconst 1, 1) := by decide +kernel
theorem dL_law_662 : decode cL_law 662 = .ok (.iadd, 1) := by decide +kernel
theorem dL_law_663 : decode cL_law 663 = .ok (.iaload, 1) := by decide +kernel
theorem dL_law_664 : decode cL_law 664 = .ok (.aload_n 0, 1) := by decide +kernel
theorem dL_law_665 : decode cL_law 665 = .ok (.iload_n 3, 1) := by decide +kernel
theorem dL_law_666 : decode cL_law 666 = .ok (.iconst 2, 1) := by decide +kernel
theorem dL_law_667 : decode cL_law 667 = .ok (.iadd, 1) := by decide +kernel
theorem dL_law_668 : decode cL_law 668 = .ok (.iaload, 1) := by decide +kernel
theorem dL_law_669 : decode cL_law 669 = .ok (.invokevirtual 86, 3) := by decide +kernel
theorem dL_law_672 : decode cL_law 672 = .ok (.if_icmp .eq 618, 3) := by decide +kernel
theorem dL_law_675 : decode cL_law 675 = .ok (.iconst 0, 1) := by decide +kernel
theorem dL_law_676 : decode cL_law 676 = .ok (.ireturn, 1) := by decide +kernel
theorem dL_law_677 : decode cL_law 677 = .ok (.aload_n 1, 1) := by decide +kernel
theorem dL_law_678 : decode cL_law 678 = .ok (.aload_n 0, 1) := by decide +kernel
theorem dL_law_679 : decode cL_law 679 = .ok (.iload_n 3, 1) := by decide +kernel
theorem dL_law_680 : decode cL_law 680 = .ok (.iconst 1, 1) := by decide +kernel
theorem dL_law_681 : decode cL_law 681 = .ok (.iadd, 1) := by decide +kernel
theorem dL_law_682 : decode cL_law 682 = .ok (.iaload, 1) := by decide +kernel
theorem dL_law_683 : decode cL_law 683 = .ok (.aload_n 0, 1) := by decide +kernel
theorem dL_law_684 : decode cL_law 684 = .ok (.iload_n 3, 1) := by decide +kernel
theorem dL_law_685 : decode cL_law 685 = .ok (.iconst 2, 1) := by decide +kernel
theorem dL_law_686 : decode cL_law 686 = .ok (.iadd, 1) := by decide +kernel
theorem dL_law_687 : decode cL_law 687 = .ok (.iaload, 1) := by decide +kernel
theorem dL_law_688 : decode cL_law 688 = .ok (.invokevirtual 87, 3) := by decide +kernel
theorem dL_law_691 : decode cL_law 691 = .ok (.aload_n 2, 1) := by decide +kernel
theorem dL_law_692 : decode cL_law 692 = .ok (.aload_n 0, 1) := by decide +kernel
theorem dL_law_693 : decode cL_law 693 = .ok (.iload_n 3, 1) := by decide +kernel
theorem dL_law_694 : decode cL_law 694 = .ok (.iconst 1, 1) := by decide +kernel
theorem dL_law_695 : decode cL_law 695 = .ok (.iadd, 1) := by decide +kernel
theorem dL_law_696 : decode cL_law 696 = .ok (.iaload, 1) := by decide +kernel
theorem dL_law_697 : decode cL_law 697 = .ok (.aload_n 0, 1) := by decide +kernel
theorem dL_law_698 : decode cL_law 698 = .ok (.iload_n 3, 1) := by decide +kernel
theorem dL_law_699 : decode cL_law 699 = .ok (.iconst 2, 1) := by decide +kernel
theorem dL_law_700 : decode cL_law 700 = .ok (.iadd, 1) := by decide +kernel
theorem dL_law_701 : decode cL_law 701 = .ok (.iaload, 1) := by decide +kernel
theorem dL_law_702 : decode cL_law 702 = .ok (.invokevirtual 90, 3) := by decide +kernel
theorem dL_law_705 : decode cL_law 705 = .ok (.if_icmp .eq 585, 3) := by decide +kernel
theorem dL_law_708 : decode cL_law 708 = .ok (.iconst 0, 1) := by decide +kernel
theorem dL_law_709 : decode cL_law 709 = .ok (.ireturn, 1) := by decide +kernel
theorem dL_law_710 : decode cL_law 710 = .ok (.aload_n 1, 1) := by decide +kernel
theorem dL_law_711 : decode cL_law 711 = .ok (.aload_n 0, 1) := by decide +kernel
theorem dL_law_712 : decode cL_law 712 = .ok (.iload_n 3, 1) := by decide +kernel
theorem dL_law_713 : decode cL_law 713 = .ok (.iconst 1, 1) := by decide +kernel
theorem dL_law_714 : decode cL_law 714 = .ok (.iadd, 1) := by decide +kernel
theorem dL_law_715 : decode cL_law 715 = .ok (.iaload, 1) := by decide +kernel
theorem dL_law_716 : decode cL_law 716 = .ok (.aload_n 0, 1) := by decide +kernel
theorem dL_law_717 : decode cL_law 717 = .ok (.iload_n 3, 1) := by decide +kernel
theorem dL_law_718 : decode cL_law 718 = .ok (.iconst 2, 1) := by decide +kernel
theorem dL_law_719 : decode cL_law 719 = .ok (.iadd, 1) := by decide +kernel
theorem dL_law_720 : decode cL_law 720 = .ok (.iaload, 1) := by decide +kernel
theorem dL_law_721 : decode cL_law 721 = .ok (.invokevirtual 91, 3) := by decide +kernel
theorem dL_law_724 : decode cL_law 724 = .ok (.aload_n 2, 1) := by decide +kernel
theorem dL_law_725 : decode cL_law 725 = .ok (.aload_n 0, 1) := by decide +kernel
theorem dL_law_726 : decode cL_law 726 = .ok (.iload_n 3, 1) := by decide +kernel
theorem dL_law_727 : decode cL_law 727 = .ok (.iconst 1, 1) := by decide +kernel
theorem dL_law_728 : decode cL_law 728 = .ok (.iadd, 1) := by decide +kernel
theorem dL_law_729 : decode cL_law 729 = .ok (.iaload, 1) := by decide +kernel
theorem dL_law_730 : decode cL_law 730 = .ok (.aload_n 0, 1) := by decide +kernel
theorem dL_law_731 : decode cL_law 731 = .ok (.iload_n 3, 1) := by decide +kernel
theorem dL_law_732 : decode cL_law 732 = .ok (.iconst 2, 1) := by decide +kernel
theorem dL_law_733 : decode cL_law 733 = .ok (.iadd, 1) := by decide +kernel
theorem dL_law_734 : decode cL_law 734 = .ok (.iaload, 1) := by decide +kernel
theorem dL_law_735 : decode cL_law 735 = .ok (.invokevirtual 94, 3) := by decide +kernel
theorem dL_law_738 : decode cL_law 738 = .ok (.if_icmp .eq 552, 3) := by decide +kernel
theorem dL_law_741 : decode cL_law 741 = .ok (.iconst 0, 1) := by decide +kernel
theorem dL_law_742 : decode cL_law 742 = .ok (.ireturn, 1) := by decide +kernel
theorem dL_law_743 : decode cL_law 743 = .ok (.aload_n 1, 1) := by decide +kernel
theorem dL_law_744 : decode cL_law 744 = .ok (.aload_n 0, 1) := by decide +kernel
theorem dL_law_745 : decode cL_law 745 = .ok (.iload_n 3, 1) := by decide +kernel
theorem dL_law_746 : decode cL_law 746 = .ok (.iconst 1, 1) := by decide +kernel
theorem dL_law_747 : decode cL_law 747 = .ok (.iadd, 1) := by decide +kernel
theorem dL_law_748 : decode cL_law 748 = .ok (.iaload, 1) := by decide +kernel
theorem dL_law_749 : decode cL_law 749 = .ok (.invokevirtual 95, 3) := by decide +kernel
theorem dL_law_752 : decode cL_law 752 = .ok (.aload_n 2, 1) := by decide +kernel
theorem dL_law_753 : decode cL_law 753 = .ok (.aload_n 0, 1) := by decide +kernel
theorem dL_law_754 : decode cL_law 754 = .ok (.iload_n 3, 1) := by decide +kernel
theorem dL_law_755 : decode cL_law 755 = .ok (.iconst 1, 1) := by decide +kernel
theorem dL_law_756 : decode cL_law 756 = .ok (.iadd, 1) := by decide +kernel
theorem dL_law_757 : decode cL_law 757 = .ok (.iaload, 1) := by decide +kernel
theorem dL_law_758 : decode cL_law 758 = .ok (.invokevirtual 98, 3) := by decide +kernel
theorem dL_law_761 : decode cL_law 761 = .ok (.if_icmp .eq 529, 3) := by decide +kernel
theorem dL_law_764 : decode cL_law 764 = .ok (.iconst 0, 1) := by decide +kernel
theorem dL_law_765 : decode cL_law 765 = .ok (.ireturn, 1) := by decide +kernel
theorem dL_law_766 : decode cL_law 766 = .ok (.aload_n 1, 1) := by decide +kernel
theorem dL_law_767 : decode cL_law 767 = .ok (.aload_n 0, 1) := by decide +kernel
theorem dL_law_768 : decode cL_law 768 = .ok (.iload_n 3, 1) := by decide +kernel
theorem dL_law_769 : decode cL_law 769 = .ok (.iconst 1, 1) := by decide +kernel
theorem dL_law_770 : decode cL_law 770 = .ok (.iadd, 1) := by decide +kernel
theorem dL_law_771 : decode cL_law 771 = .ok (.iaload, 1) := by decide +kernel
theorem dL_law_772 : decode cL_law 772 = .ok (.aload_n 0, 1) := by decide +kernel
theorem dL_law_773 : decode cL_law 773 = .ok (.iload_n 3, 1) := by decide +kernel
theorem dL_law_774 : decode cL_law 774 = .ok (.iconst 2, 1) := by decide +kernel
theorem dL_law_775 : decode cL_law 775 = .ok (.iadd, 1) := by decide +kernel
theorem dL_law_776 : decode cL_law 776 = .ok (.iaload, 1) := by decide +kernel
theorem dL_law_777 : decode cL_law 777 = .ok (.invokevirtual 99, 3) := by decide +kernel
theorem dL_law_780 : decode cL_law 780 = .ok (.aload_n 2, 1) := by decide +kernel
theorem dL_law_781 : decode cL_law 781 = .ok (.aload_n 0, 1) := by decide +kernel
theorem dL_law_782 : decode cL_law 782 = .ok (.iload_n 3, 1) := by decide +kernel
theorem dL_law_783 : decode cL_law 783 = .ok (.iconst 1, 1) := by decide +kernel
theorem dL_law_784 : decode cL_law 784 = .ok (.iadd, 1) := by decide +kernel
theorem dL_law_785 : decode cL_law 785 = .ok (.iaload, 1) := by decide +kernel
theorem dL_law_786 : decode cL_law 786 = .ok (.aload_n 0, 1) := by decide +kernel
theorem dL_law_787 : decode cL_law 787 = .ok (.iload_n 3, 1) := by decide +kernel
theorem dL_law_788 : decode cL_law 788 = .ok (.iconst 2, 1) := by decide +kernel
theorem dL_law_789 : decode cL_law 789 = .ok (.iadd, 1) := by decide +kernel
theorem dL_law_790 : decode cL_law 790 = .ok (.iaload, 1) := by decide +kernel
theorem dL_law_791 : decode cL_law 791 = .ok (.invokevirtual 102, 3) := by decide +kernel
theorem dL_law_794 : decode cL_law 794 = .ok (.if_icmp .eq 496, 3) := by decide +kernel
theorem dL_law_797 : decode cL_law 797 = .ok (.iconst 0, 1) := by decide +kernel
theorem dL_law_798 : decode cL_law 798 = .ok (.ireturn, 1) := by decide +kernel
theorem dL_law_799 : decode cL_law 799 = .ok (.aload_n 1, 1) := by decide +kernel
theorem dL_law_800 : decode cL_law 800 = .ok (.aload_n 0, 1) := by decide +kernel
theorem dL_law_801 : decode cL_law 801 = .ok (.iload_n 3, 1) := by decide +kernel
theorem dL_law_802 : decode cL_law 802 = .ok (.iconst 1, 1) := by decide +kernel
theorem dL_law_803 : decode cL_law 803 = .ok (.iadd, 1) := by decide +kernel
theorem dL_law_804 : decode cL_law 804 = .ok (.iaload, 1) := by decide +kernel
theorem dL_law_805 : decode cL_law 805 = .ok (.aload_n 0, 1) := by decide +kernel
theorem dL_law_806 : decode cL_law 806 = .ok (.iload_n 3, 1) := by decide +kernel
theorem dL_law_807 : decode cL_law 807 = .ok (.iconst 2, 1) := by decide +kernel
theorem dL_law_808 : decode cL_law 808 = .ok (.iadd, 1) := by decide +kernel
theorem dL_law_809 : decode cL_law 809 = .ok (.iaload, 1) := by decide +kernel
theorem dL_law_810 : decode cL_law 810 = .ok (.ifCond .eq 7, 3) := by decide +kernel
theorem dL_law_813 : decode cL_law 813 = .ok (.iconst 1, 1) := by decide +kernel
theorem dL_law_814 : decode cL_law 814 = .ok (.goto 4, 3) := by decide +kernel
theorem dL_law_817 : decode cL_law 817 = .ok (.iconst 0, 1) := by decide +kernel
theorem dL_law_818 : decode cL_law 818 = .ok (.invokevirtual 103, 3) := by decide +kernel
theorem dL_law_821 : decode cL_law 821 = .ok (.aload_n 2, 1) := by decide +kernel
theorem dL_law_822 : decode cL_law 822 = .ok (.aload_n 0, 1) := by decide +kernel
theorem dL_law_823 : decode cL_law 823 = .ok (.iload_n 3, 1) := by decide +kernel
theorem dL_law_824 : decode cL_law 824 = .ok (.iconst 1, 1) := by decide +kernel
theorem dL_law_825 : decode cL_law 825 = .ok (.iadd, 1) := by decide +kernel
theorem dL_law_826 : decode cL_law 826 = .ok (.iaload, 1) := by decide +kernel
theorem dL_law_827 : decode cL_law 827 = .ok (.aload_n 0, 1) := by decide +kernel
theorem dL_law_828 : decode cL_law 828 = .ok (.iload_n 3, 1) := by decide +kernel
theorem dL_law_829 : decode cL_law 829 = .ok (.iconst 2, 1) := by decide +kernel
theorem dL_law_830 : decode cL_law 830 = .ok (.iadd, 1) := by decide +kernel
theorem dL_law_831 : decode cL_law 831 = .ok (.iaload, 1) := by decide +kernel
theorem dL_law_832 : decode cL_law 832 = .ok (.ifCond .eq 7, 3) := by decide +kernel
theorem dL_law_835 : decode cL_law 835 = .ok (.iconst 1, 1) := by decide +kernel
theorem dL_law_836 : decode cL_law 836 = .ok (.goto 4, 3) := by decide +kernel
theorem dL_law_839 : decode cL_law 839 = .ok (.iconst 0, 1) := by decide +kernel
theorem dL_law_840 : decode cL_law 840 = .ok (.invokevirtual 106, 3) := by decide +kernel
theorem dL_law_843 : decode cL_law 843 = .ok (.if_icmp .eq 447, 3) := by decide +kernel
theorem dL_law_846 : decode cL_law 846 = .ok (.iconst 0, 1) := by decide +kernel
theorem dL_law_847 : decode cL_law 847 = .ok (.ireturn, 1) := by decide +kernel
theorem dL_law_848 : decode cL_law 848 = .ok (.aload_n 1, 1) := by decide +kernel
theorem dL_law_849 : decode cL_law 849 = .ok (.aload_n 0, 1) := by decide +kernel
theorem dL_law_850 : decode cL_law 850 = .ok (.iload_n 3, 1) := by decide +kernel
theorem dL_law_851 : decode cL_law 851 = .ok (.iconst 1, 1) := by decide +kernel
theorem dL_law_852 : decode cL_law 852 = .ok (.iadd, 1) := by decide +kernel
theorem dL_law_853 : decode cL_law 853 = .ok (.iaload, 1) := by decide +kernel
theorem dL_law_854 : decode cL_law 854 = .ok (.aload_n 0, 1) := by decide +kernel
theorem dL_law_855 : decode cL_law 855 = .ok (.iload_n 3, 1) := by decide +kernel
theorem dL_law_856 : decode cL_law 856 = .ok (.iconst 2, 1) := by decide +kernel
theorem dL_law_857 : decode cL_law 857 = .ok (.iadd, 1) := by decide +kernel
theorem dL_law_858 : decode cL_law 858 = .ok (.iaload, 1) := by decide +kernel
theorem dL_law_859 : decode cL_law 859 = .ok (.aload_n 0, 1) := by decide +kernel
theorem dL_law_860 : decode cL_law 860 = .ok (.iload_n 3, 1) := by decide +kernel
theorem dL_law_861 : decode cL_law 861 = .ok (.iconst 3, 1) := by decide +kernel
theorem dL_law_862 : decode cL_law 862 = .ok (.iadd, 1) := by decide +kernel
theorem dL_law_863 : decode cL_law 863 = .ok (.iaload, 1) := by decide +kernel
theorem dL_law_864 : decode cL_law 864 = .ok (.aload_n 0, 1) := by decide +kernel
theorem dL_law_865 : decode cL_law 865 = .ok (.iload_n 3, 1) := by decide +kernel
theorem dL_law_866 : decode cL_law 866 = .ok (.iconst 4, 1) := by decide +kernel
theorem dL_law_867 : decode cL_law 867 = .ok (.iadd, 1) := by decide +kernel
theorem dL_law_868 : decode cL_law 868 = .ok (.iaload, 1) := by decide +kernel
theorem dL_law_869 : decode cL_law 869 = .ok (.aload_n 0, 1) := by decide +kernel
theorem dL_law_870 : decode cL_law 870 = .ok (.iload_n 3, 1) := by decide +kernel
theorem dL_law_871 : decode cL_law 871 = .ok (.iconst 5, 1) := by decide +kernel
theorem dL_law_872 : decode cL_law 872 = .ok (.iadd, 1) := by decide +kernel
theorem dL_law_873 : decode cL_law 873 = .ok (.iaload, 1) := by decide +kernel
theorem dL_law_874 : decode cL_law 874 = .ok (.ifCond .eq 7, 3) := by decide +kernel
theorem dL_law_877 : decode cL_law 877 = .ok (.iconst 1, 1) := by decide +kernel
theorem dL_law_878 : decode cL_law 878 = .ok (.goto 4, 3) := by decide +kernel
theorem dL_law_881 : decode cL_law 881 = .ok (.iconst 0, 1) := by decide +kernel
theorem dL_law_882 : decode cL_law 882 = .ok (.invokevirtual 107, 3) := by decide +kernel
theorem dL_law_885 : decode cL_law 885 = .ok (.aload_n 2, 1) := by decide +kernel
theorem dL_law_886 : decode cL_law 886 = .ok (.aload_n 0, 1) := by decide +kernel
theorem dL_law_887 : decode cL_law 887 = .ok (.iload_n 3, 1) := by decide +kernel
theorem dL_law_888 : decode cL_law 888 = .ok (.iconst 1, 1) := by decide +kernel
theorem dL_law_889 : decode cL_law 889 = .ok (.iadd, 1) := by decide +kernel
theorem dL_law_890 : decode cL_law 890 = .ok (.iaload, 1) := by decide +kernel
theorem dL_law_891 : decode cL_law 891 = .ok (.aload_n 0, 1) := by decide +kernel
theorem dL_law_892 : decode cL_law 892 = .ok (.iload_n 3, 1) := by decide +kernel
theorem dL_law_893 : decode cL_law 893 = .ok (.iconst 2, 1) := by decide +kernel
theorem dL_law_894 : decode cL_law 894 = .ok (.iadd, 1) := by decide +kernel
theorem dL_law_895 : decode cL_law 895 = .ok (.iaload, 1) := by decide +kernel
theorem dL_law_896 : decode cL_law 896 = .ok (.aload_n 0, 1) := by decide +kernel
theorem dL_law_897 : decode cL_law 897 = .ok (.iload_n 3, 1) := by decide +kernel
theorem dL_law_898 : decode cL_law 898 = .ok (.iconst 3, 1) := by decide +kernel
theorem dL_law_899 : decode cL_law 899 = .ok (.iadd, 1) := by decide +kernel
theorem dL_law_900 : decode cL_law 900 = .ok (.iaload, 1) := by decide +kernel
theorem dL_law_901 : decode cL_law 901 = .ok (.aload_n 0, 1) := by decide +kernel
theorem dL_law_902 : decode cL_law 902 = .ok (.iload_n 3, 1) := by decide +kernel
theorem dL_law_903 : decode cL_law 903 = .ok (.iconst 4, 1) := by decide +kernel
theorem dL_law_904 : decode cL_law 904 = .ok (.iadd, 1) := by decide +kernel
theorem dL_law_905 : decode cL_law 905 = .ok (.iaload, 1) := by decide +kernel
theorem dL_law_906 : decode cL_law 906 = .ok (.aload_n 0, 1) := by decide +kernel
theorem dL_law_907 : decode cL_law 907 = .ok (.iload_n 3, 1) := by decide +kernel
theorem dL_law_908 : decode cL_law 908 = .ok (.iconst 5, 1) := by decide +kernel
theorem dL_law_909 : decode cL_law 909 = .ok (.iadd, 1) := by decide +kernel
theorem dL_law_910 : decode cL_law 910 = .ok (.iaload, 1) := by decide +kernel
theorem dL_law_911 : decode cL_law 911 = .ok (.ifCond .eq 7, 3) := by decide +kernel
theorem dL_law_914 : decode cL_law 914 = .ok (.iconst 1, 1) := by decide +kernel
theorem dL_law_915 : decode cL_law 915 = .ok (.goto 4, 3) := by decide +kernel
theorem dL_law_918 : decode cL_law 918 = .ok (.iconst 0, 1) := by decide +kernel
theorem dL_law_919 : decode cL_law 919 = .ok (.invokevirtual 110, 3) := by decide +kernel
theorem dL_law_922 : decode cL_law 922 = .ok (.if_icmp .eq 368, 3) := by decide +kernel
theorem dL_law_925 : decode cL_law 925 = .ok (.iconst 0, 1) := by decide +kernel
theorem dL_law_926 : decode cL_law 926 = .ok (.ireturn, 1) := by decide +kernel
theorem dL_law_927 : decode cL_law 927 = .ok (.aload_n 1, 1) := by decide +kernel
theorem dL_law_928 : decode cL_law 928 = .ok (.aload_n 0, 1) := by decide +kernel
theorem dL_law_929 : decode cL_law 929 = .ok (.iload_n 3, 1) := by decide +kernel
theorem dL_law_930 : decode cL_law 930 = .ok (.iconst 1, 1) := by decide +kernel
theorem dL_law_931 : decode cL_law 931 = .ok (.iadd, 1) := by decide +kernel
theorem dL_law_932 : decode cL_law 932 = .ok (.iaload, 1) := by decide +kernel
theorem dL_law_933 : decode cL_law 933 = .ok (.aload_n 0, 1) := by decide +kernel
theorem dL_law_934 : decode cL_law 934 = .ok (.iload_n 3, 1) := by decide +kernel
theorem dL_law_935 : decode cL_law 935 = .ok (.iconst 2, 1) := by decide +kernel
theorem dL_law_936 : decode cL_law 936 = .ok (.iadd, 1) := by decide +kernel
theorem dL_law_937 : decode cL_law 937 = .ok (.iaload, 1) := by decide +kernel
theorem dL_law_938 : decode cL_law 938 = .ok (.aload_n 0, 1) := by decide +kernel
theorem dL_law_939 : decode cL_law 939 = .ok (.iload_n 3, 1) := by decide +kernel
theorem dL_law_940 : decode cL_law 940 = .ok (.iconst 3, 1) := by decide +kernel
theorem dL_law_941 : decode cL_law 941 = .ok (.iadd, 1) := by decide +kernel
theorem dL_law_942 : decode cL_law 942 = .ok (.iaload, 1) := by decide +kernel
theorem dL_law_943 : decode cL_law 943 = .ok (.aload_n 0, 1) := by decide +kernel
theorem dL_law_944 : decode cL_law 944 = .ok (.iload_n 3, 1) := by decide +kernel
theorem dL_law_945 : decode cL_law 945 = .ok (.iconst 4, 1) := by decide +kernel
theorem dL_law_946 : decode cL_law 946 = .ok (.iadd, 1) := by decide +kernel
theorem dL_law_947 : decode cL_law 947 = .ok (.iaload, 1) := by decide +kernel
theorem dL_law_948 : decode cL_law 948 = .ok (.ifCond .eq 7, 3) := by decide +kernel
theorem dL_law_951 : decode cL_law 951 = .ok (.iconst 1, 1) := by decide +kernel
theorem dL_law_952 : decode cL_law 952 = .ok (.goto 4, 3) := by decide +kernel
theorem dL_law_955 : decode cL_law 955 = .ok (.iconst 0, 1) := by decide +kernel
theorem dL_law_956 : decode cL_law 956 = .ok (.invokevirtual 111, 3) := by decide +kernel
theorem dL_law_959 : decode cL_law 959 = .ok (.aload_n 2, 1) := by decide +kernel
theorem dL_law_960 : decode cL_law 960 = .ok (.aload_n 0, 1) := by decide +kernel
theorem dL_law_961 : decode cL_law 961 = .ok (.iload_n 3, 1) := by decide +kernel
theorem dL_law_962 : decode cL_law 962 = .ok (.iconst 1, 1) := by decide +kernel
theorem dL_law_963 : decode cL_law 963 = .ok (.iadd, 1) := by decide +kernel
theorem dL_law_964 : decode cL_law 964 = .ok (.iaload, 1) := by decide +kernel
theorem dL_law_965 : decode cL_law 965 = .ok (.aload_n 0, 1) := by decide +kernel
theorem dL_law_966 : decode cL_law 966 = .ok (.iload_n 3, 1) := by decide +kernel
theorem dL_law_967 : decode cL_law 967 = .ok (.iconst 2, 1) := by decide +kernel
theorem dL_law_968 : decode cL_law 968 = .ok (.iadd, 1) := by decide +kernel
theorem dL_law_969 : decode cL_law 969 = .ok (.iaload, 1) := by decide +kernel
theorem dL_law_970 : decode cL_law 970 = .ok (.aload_n 0, 1) := by decide +kernel
theorem dL_law_971 : decode cL_law 971 = .ok (.iload_n 3, 1) := by decide +kernel
theorem dL_law_972 : decode cL_law 972 = .ok (.iconst 3, 1) := by decide +kernel
theorem dL_law_973 : decode cL_law 973 = .ok (.iadd, 1) := by decide +kernel
theorem dL_law_974 : decode cL_law 974 = .ok (.iaload, 1) := by decide +kernel
theorem dL_law_975 : decode cL_law 975 = .ok (.aload_n 0, 1) := by decide +kernel
theorem dL_law_976 : decode cL_law 976 = .ok (.iload_n 3, 1) := by decide +kernel
theorem dL_law_977 : decode cL_law 977 = .ok (.iconst 4, 1) := by decide +kernel
theorem dL_law_978 : decode cL_law 978 = .ok (.iadd, 1) := by decide +kernel
theorem dL_law_979 : decode cL_law 979 = .ok (.iaload, 1) := by decide +kernel
theorem dL_law_980 : decode cL_law 980 = .ok (.ifCond .eq 7, 3) := by decide +kernel
theorem dL_law_983 : decode cL_law 983 = .ok (.iconst 1, 1) := by decide +kernel
theorem dL_law_984 : decode cL_law 984 = .ok (.goto 4, 3) := by decide +kernel
theorem dL_law_987 : decode cL_law 987 = .ok (.iconst 0, 1) := by decide +kernel
theorem dL_law_988 : decode cL_law 988 = .ok (.invokevirtual 115, 3) := by decide +kernel
theorem dL_law_991 : decode cL_law 991 = .ok (.if_icmp .eq 299, 3) := by decide +kernel
theorem dL_law_994 : decode cL_law 994 = .ok (.iconst 0, 1) := by decide +kernel
theorem dL_law_995 : decode cL_law 995 = .ok (.ireturn, 1) := by decide +kernel
theorem dL_law_996 : decode cL_law 996 = .ok (.aload_n 1, 1) := by decide +kernel
theorem dL_law_997 : decode cL_law 997 = .ok (.aload_n 0, 1) := by decide +kernel
theorem dL_law_998 : decode cL_law 998 = .ok (.iload_n 3, 1) := by decide +kernel
theorem dL_law_999 : decode cL_law 999 = .ok (.iconst 1, 1) := by decide +kernel
theorem dL_law_1000 : decode cL_law 1000 = .ok (.iadd, 1) := by decide +kernel
theorem dL_law_1001 : decode cL_law 1001 = .ok (.iaload, 1) := by decide +kernel
theorem dL_law_1002 : decode cL_law 1002 = .ok (.aload_n 0, 1) := by decide +kernel
theorem dL_law_1003 : decode cL_law 1003 = .ok (.iload_n 3, 1) := by decide +kernel
theorem dL_law_1004 : decode cL_law 1004 = .ok (.iconst 2, 1) := by decide +kernel
theorem dL_law_1005 : decode cL_law 1005 = .ok (.iadd, 1) := by decide +kernel
theorem dL_law_1006 : decode cL_law 1006 = .ok (.iaload, 1) := by decide +kernel
theorem dL_law_1007 : decode cL_law 1007 = .ok (.invokevirtual 116, 3) := by decide +kernel
theorem dL_law_1010 : decode cL_law 1010 = .ok (.aload_n 2, 1) := by decide +kernel
theorem dL_law_1011 : decode cL_law 1011 = .ok (.aload_n 0, 1) := by decide +kernel
theorem dL_law_1012 : decode cL_law 1012 = .ok (.iload_n 3, 1) := by decide +kernel
theorem dL_law_1013 : decode cL_law 1013 = .ok (.iconst 1, 1) := by decide +kernel
theorem dL_law_1014 : decode cL_law 1014 = .ok (.iadd, 1) := by decide +kernel
theorem dL_law_1015 : decode cL_law 1015 = .ok (.iaload, 1) := by decide +kernel
theorem dL_law_1016 : decode cL_law 1016 = .ok (.aload_n 0, 1) := by decide +kernel
theorem dL_law_1017 : decode cL_law 1017 = .ok (.iload_n 3, 1) := by decide +kernel
theorem dL_law_1018 : decode cL_law 1018 = .ok (.iconst 2, 1) := by decide +kernel
theorem dL_law_1019 : decode cL_law 1019 = .ok (.iadd, 1) := by decide +kernel
theorem dL_law_1020 : decode cL_law 1020 = .ok (.iaload, 1) := by decide +kernel
theorem dL_law_1021 : decode cL_law 1021 = .ok (.invokevirtual 119, 3) := by decide +kernel
theorem dL_law_1024 : decode cL_law 1024 = .ok (.if_icmp .eq 266, 3) := by decide +kernel
theorem dL_law_1027 : decode cL_law 1027 = .ok (.iconst 0, 1) := by decide +kernel
theorem dL_law_1028 : decode cL_law 1028 = .ok (.ireturn, 1) := by decide +kernel
theorem dL_law_1029 : decode cL_law 1029 = .ok (.aload_n 1, 1) := by decide +kernel
theorem dL_law_1030 : decode cL_law 1030 = .ok (.aload_n 0, 1) := by decide +kernel
theorem dL_law_1031 : decode cL_law 1031 = .ok (.iload_n 3, 1) := by decide +kernel
theorem dL_law_1032 : decode cL_law 1032 = .ok (.iconst 1, 1) := by decide +kernel
theorem dL_law_1033 : decode cL_law 1033 = .ok (.iadd, 1) := by decide +kernel
theorem dL_law_1034 : decode cL_law 1034 = .ok (.iaload, 1) := by decide +kernel
theorem dL_law_1035 : decode cL_law 1035 = .ok (.aload_n 0, 1) := by decide +kernel
theorem dL_law_1036 : decode cL_law 1036 = .ok (.iload_n 3, 1) := by decide +kernel
theorem dL_law_1037 : decode cL_law 1037 = .ok (.iconst 2, 1) := by decide +kernel
theorem dL_law_1038 : decode cL_law 1038 = .ok (.iadd, 1) := by decide +kernel
theorem dL_law_1039 : decode cL_law 1039 = .ok (.iaload, 1) := by decide +kernel
theorem dL_law_1040 : decode cL_law 1040 = .ok (.invokevirtual 120, 3) := by decide +kernel
theorem dL_law_1043 : decode cL_law 1043 = .ok (.aload_n 2, 1) := by decide +kernel
theorem dL_law_1044 : decode cL_law 1044 = .ok (.aload_n 0, 1) := by decide +kernel
theorem dL_law_1045 : decode cL_law 1045 = .ok (.iload_n 3, 1) := by decide +kernel
theorem dL_law_1046 : decode cL_law 1046 = .ok (.iconst 1, 1) := by decide +kernel
theorem dL_law_1047 : decode cL_law 1047 = .ok (.iadd, 1) := by decide +kernel
theorem dL_law_1048 : decode cL_law 1048 = .ok (.iaload, 1) := by decide +kernel
theorem dL_law_1049 : decode cL_law 1049 = .ok (.aload_n 0, 1) := by decide +kernel
theorem dL_law_1050 : decode cL_law 1050 = .ok (.iload_n 3, 1) := by decide +kernel
theorem dL_law_1051 : decode cL_law 1051 = .ok (.iconst 2, 1) := by decide +kernel
theorem dL_law_1052 : decode cL_law 1052 = .ok (.iadd, 1) := by decide +kernel
theorem dL_law_1053 : decode cL_law 1053 = .ok (.iaload, 1) := by decide +kernel
theorem dL_law_1054 : decode cL_law 1054 = .ok (.invokevirtual 123, 3) := by decide +kernel
theorem dL_law_1057 : decode cL_law 1057 = .ok (.if_icmp .eq 233, 3) := by decide +kernel
theorem dL_law_1060 : decode cL_law 1060 = .ok (.iconst 0, 1) := by decide +kernel
theorem dL_law_1061 : decode cL_law 1061 = .ok (.ireturn, 1) := by decide +kernel
theorem dL_law_1062 : decode cL_law 1062 = .ok (.aload_n 1, 1) := by decide +kernel
theorem dL_law_1063 : decode cL_law 1063 = .ok (.aload_n 0, 1) := by decide +kernel
theorem dL_law_1064 : decode cL_law 1064 = .ok (.iload_n 3, 1) := by decide +kernel
theorem dL_law_1065 : decode cL_law 1065 = .ok (.iconst 1, 1) := by decide +kernel
theorem dL_law_1066 : decode cL_law 1066 = .ok (.iadd, 1) := by decide +kernel
theorem dL_law_1067 : decode cL_law 1067 = .ok (.iaload, 1) := by decide +kernel
theorem dL_law_1068 : decode cL_law 1068 = .ok (.invokevirtual 124, 3) := by decide +kernel
theorem dL_law_1071 : decode cL_law 1071 = .ok (.aload_n 2, 1) := by decide +kernel
theorem dL_law_1072 : decode cL_law 1072 = .ok (.aload_n 0, 1) := by decide +kernel
theorem dL_law_1073 : decode cL_law 1073 = .ok (.iload_n 3, 1) := by decide +kernel
theorem dL_law_1074 : decode cL_law 1074 = .ok (.iconst 1, 1) := by decide +kernel
theorem dL_law_1075 : decode cL_law 1075 = .ok (.iadd, 1) := by decide +kernel
theorem dL_law_1076 : decode cL_law 1076 = .ok (.iaload, 1) := by decide +kernel
theorem dL_law_1077 : decode cL_law 1077 = .ok (.invokevirtual 127, 3) := by decide +kernel
theorem dL_law_1080 : decode cL_law 1080 = .ok (.if_icmp .eq 210, 3) := by decide +kernel
theorem dL_law_1083 : decode cL_law 1083 = .ok (.iconst 0, 1) := by decide +kernel
theorem dL_law_1084 : decode cL_law 1084 = .ok (.ireturn, 1) := by decide +kernel
theorem dL_law_1085 : decode cL_law 1085 = .ok (.aload_n 1, 1) := by decide +kernel
theorem dL_law_1086 : decode cL_law 1086 = .ok (.invokevirtual 128, 3) := by decide +kernel
theorem dL_law_1089 : decode cL_law 1089 = .ok (.aload_n 2, 1) := by decide +kernel
theorem dL_law_1090 : decode cL_law 1090 = .ok (.invokevirtual 131, 3) := by decide +kernel
theorem dL_law_1093 : decode cL_law 1093 = .ok (.if_icmp .eq 197, 3) := by decide +kernel
theorem dL_law_1096 : decode cL_law 1096 = .ok (.iconst 0, 1) := by decide +kernel
theorem dL_law_1097 : decode cL_law 1097 = .ok (.ireturn, 1) := by decide +kernel
theorem dL_law_1098 : decode cL_law 1098 = .ok (.aload_n 1, 1) := by decide +kernel
theorem dL_law_1099 : decode cL_law 1099 = .ok (.aload_n 0, 1) := by decide +kernel
theorem dL_law_1100 : decode cL_law 1100 = .ok (.iload_n 3, 1) := by decide +kernel
theorem dL_law_1101 : decode cL_law 1101 = .ok (.iconst 1, 1) := by decide +kernel
theorem dL_law_1102 : decode cL_law 1102 = .ok (.iadd, 1) := by decide +kernel
theorem dL_law_1103 : decode cL_law 1103 = .ok (.iaload, 1) := by decide +kernel
theorem dL_law_1104 : decode cL_law 1104 = .ok (.invokevirtual 132, 3) := by decide +kernel
theorem dL_law_1107 : decode cL_law 1107 = .ok (.aload_n 2, 1) := by decide +kernel
theorem dL_law_1108 : decode cL_law 1108 = .ok (.aload_n 0, 1) := by decide +kernel
theorem dL_law_1109 : decode cL_law 1109 = .ok (.iload_n 3, 1) := by decide +kernel
theorem dL_law_1110 : decode cL_law 1110 = .ok (.iconst 1, 1) := by decide +kernel
theorem dL_law_1111 : decode cL_law 1111 = .ok (.iadd, 1) := by decide +kernel
theorem dL_law_1112 : decode cL_law 1112 = .ok (.iaload, 1) := by decide +kernel
theorem dL_law_1113 : decode cL_law 1113 = .ok (.invokevirtual 135, 3) := by decide +kernel
theorem dL_law_1116 : decode cL_law 1116 = .ok (.if_icmp .eq 174, 3) := by decide +kernel
theorem dL_law_1119 : decode cL_law 1119 = .ok (.iconst 0, 1) := by decide +kernel
theorem dL_law_1120 : decode cL_law 1120 = .ok (.ireturn, 1) := by decide +kernel
theorem dL_law_1121 : decode cL_law 1121 = .ok (.aload_n 1, 1) := by decide +kernel
theorem dL_law_1122 : decode cL_law 1122 = .ok (.aload_n 0, 1) := by decide +kernel
theorem dL_law_1123 : decode cL_law 1123 = .ok (.iload_n 3, 1) := by decide +kernel
theorem dL_law_1124 : decode cL_law 1124 = .ok (.iconst 1, 1) := by decide +kernel
theorem dL_law_1125 : decode cL_law 1125 = .ok (.iadd, 1) := by decide +kernel
theorem dL_law_1126 : decode cL_law 1126 = .ok (.iaload, 1) := by decide +kernel
theorem dL_law_1127 : decode cL_law 1127 = .ok (.invokevirtual 136, 3) := by decide +kernel
theorem dL_law_1130 : decode cL_law 1130 = .ok (.aload_n 2, 1) := by decide +kernel
theorem dL_law_1131 : decode cL_law 1131 = .ok (.aload_n 0, 1) := by decide +kernel
theorem dL_law_1132 : decode cL_law 1132 = .ok (.iload_n 3, 1) := by decide +kernel
theorem dL_law_1133 : decode cL_law 1133 = .ok (.iconst 1, 1) := by decide +kernel
theorem dL_law_1134 : decode cL_law 1134 = .ok (.iadd, 1) := by decide +kernel
theorem dL_law_1135 : decode cL_law 1135 = .ok (.iaload, 1) := by decide +kernel
theorem dL_law_1136 : decode cL_law 1136 = .ok (.invokevirtual 139, 3) := by decide +kernel
theorem dL_law_1139 : decode cL_law 1139 = .ok (.if_icmp .eq 151, 3) := by decide +kernel
theorem dL_law_1142 : decode cL_law 1142 = .ok (.iconst 0, 1) := by decide +kernel
theorem dL_law_1143 : decode cL_law 1143 = .ok (.ireturn, 1) := by decide +kernel
theorem dL_law_1144 : decode cL_law 1144 = .ok (.aload_n 1, 1) := by decide +kernel
theorem dL_law_1145 : decode cL_law 1145 = .ok (.invokevirtual 140, 3) := by decide +kernel
theorem dL_law_1148 : decode cL_law 1148 = .ok (.f2d, 1) := by decide +kernel
theorem dL_law_1149 : decode cL_law 1149 = .ok (.dstore 4, 2) := by decide +kernel
theorem dL_law_1151 : decode cL_law 1151 = .ok (.aload_n 2, 1) := by decide +kernel
theorem dL_law_1152 : decode cL_law 1152 = .ok (.invokevirtual 144, 3) := by decide +kernel
theorem dL_law_1155 : decode cL_law 1155 = .ok (.f2d, 1) := by decide +kernel
theorem dL_law_1156 : decode cL_law 1156 = .ok (.dstore 6, 2) := by decide +kernel
theorem dL_law_1158 : decode cL_law 1158 = .ok (.dload 4, 2) := by decide +kernel
theorem dL_law_1160 : decode cL_law 1160 = .ok (.dload 6, 2) := by decide +kernel
theorem dL_law_1162 : decode cL_law 1162 = .ok (.dcmp .l, 1) := by decide +kernel
theorem dL_law_1163 : decode cL_law 1163 = .ok (.ifCond .eq 21, 3) := by decide +kernel
theorem dL_law_1166 : decode cL_law 1166 = .ok (.dload 4, 2) := by decide +kernel
theorem dL_law_1168 : decode cL_law 1168 = .ok (.dload 4, 2) := by decide +kernel
theorem dL_law_1170 : decode cL_law 1170 = .ok (.dcmp .l, 1) := by decide +kernel
theorem dL_law_1171 : decode cL_law 1171 = .ok (.ifCond .eq 11, 3) := by decide +kernel
theorem dL_law_1174 : decode cL_law 1174 = .ok (.dload 6, 2) := by decide +kernel
theorem dL_law_1176 : decode cL_law 1176 = .ok (.dload 6, 2) := by decide +kernel
theorem dL_law_1178 : decode cL_law 1178 = .ok (.dcmp .l, 1) := by decide +kernel
theorem dL_law_1179 : decode cL_law 1179 = .ok (.ifCond .ne 5, 3) := by decide +kernel
theorem dL_law_1182 : decode cL_law 1182 = .ok (.iconst 0, 1) := by decide +kernel
theorem dL_law_1183 : decode cL_law 1183 = .ok (.ireturn, 1) := by decide +kernel
theorem dL_law_1184 : decode cL_law 1184 = .ok (.goto 106, 3) := by decide +kernel
theorem dL_law_1187 : decode cL_law 1187 = .ok (.aload_n 1, 1) := by decide +kernel
theorem dL_law_1188 : decode cL_law 1188 = .ok (.invokevirtual 145, 3) := by decide +kernel
theorem dL_law_1191 : decode cL_law 1191 = .ok (.dstore 4, 2) := by decide +kernel
theorem dL_law_1193 : decode cL_law 1193 = .ok (.aload_n 2, 1) := by decide +kernel
theorem dL_law_1194 : decode cL_law 1194 = .ok (.invokevirtual 149, 3) := by decide +kernel
theorem dL_law_1197 : decode cL_law 1197 = .ok (.dstore 6, 2) := by decide +kernel
theorem dL_law_1199 : decode cL_law 1199 = .ok (.dload 4, 2) := by decide +kernel
theorem dL_law_1201 : decode cL_law 1201 = .ok (.dload 6, 2) := by decide +kernel
theorem dL_law_1203 : decode cL_law 1203 = .ok (.dcmp .l, 1) := by decide +kernel
theorem dL_law_1204 : decode cL_law 1204 = .ok (.ifCond .eq 21, 3) := by decide +kernel
theorem dL_law_1207 : decode cL_law 1207 = .ok (.dload 4, 2) := by decide +kernel
theorem dL_law_1209 : decode cL_law 1209 = .ok (.dload 4, 2) := by decide +kernel
theorem dL_law_1211 : decode cL_law 1211 = .ok (.dcmp .l, 1) := by decide +kernel
theorem dL_law_1212 : decode cL_law 1212 = .ok (.ifCond .eq 11, 3) := by decide +kernel
theorem dL_law_1215 : decode cL_law 1215 = .ok (.dload 6, 2) := by decide +kernel
theorem dL_law_1217 : decode cL_law 1217 = .ok (.dload 6, 2) := by decide +kernel
theorem dL_law_1219 : decode cL_law 1219 = .ok (.dcmp .l, 1) := by decide +kernel
theorem dL_law_1220 : decode cL_law 1220 = .ok (.ifCond .ne 5, 3) := by decide +kernel
theorem dL_law_1223 : decode cL_law 1223 = .ok (.iconst 0, 1) := by decide +kernel
theorem dL_law_1224 : decode cL_law 1224 = .ok (.ireturn, 1) := by decide +kernel
theorem dL_law_1225 : decode cL_law 1225 = .ok (.goto 65, 3) := by decide +kernel
theorem dL_law_1228 : decode cL_law 1228 = .ok (.aload_n 1, 1) := by decide +kernel
theorem dL_law_1229 : decode cL_law 1229 = .ok (.aload_n 0, 1) := by decide +kernel
theorem dL_law_1230 : decode cL_law 1230 = .ok (.iload_n 3, 1) := by decide +kernel
theorem dL_law_1231 : decode cL_law 1231 = .ok (.iconst 1, 1) := by decide +kernel
theorem dL_law_1232 : decode cL_law 1232 = .ok (.iadd, 1) := by decide +kernel
theorem dL_law_1233 : decode cL_law 1233 = .ok (.iaload, 1) := by decide +kernel
theorem dL_law_1234 : decode cL_law 1234 = .ok (.invokevirtual 150, 3) := by decide +kernel
theorem dL_law_1237 : decode cL_law 1237 = .ok (.aload_n 2, 1) := by decide +kernel
theorem dL_law_1238 : decode cL_law 1238 = .ok (.aload_n 0, 1) := by decide +kernel
theorem dL_law_1239 : decode cL_law 1239 = .ok (.iload_n 3, 1) := by decide +kernel
theorem dL_law_1240 : decode cL_law 1240 = .ok (.iconst 1, 1) := by decide +kernel
theorem dL_law_1241 : decode cL_law 1241 = .ok (.iadd, 1) := by decide +kernel
theorem dL_law_1242 : decode cL_law 1242 = .ok (.iaload, 1) := by decide +kernel
theorem dL_law_1243 : decode cL_law 1243 = .ok (.invokevirtual 153, 3) := by decide +kernel
theorem dL_law_1246 : decode cL_law 1246 = .ok (.if_icmp .eq 44, 3) := by decide +kernel
theorem dL_law_1249 : decode cL_law 1249 = .ok (.iconst 0, 1) := by decide +kernel
theorem dL_law_1250 : decode cL_law 1250 = .ok (.ireturn, 1) := by decide +kernel
theorem dL_law_1251 : decode cL_law 1251 = .ok (.aload_n 1, 1) := by decide +kernel
theorem dL_law_1252 : decode cL_law 1252 = .ok (.invokevirtual 154, 3) := by decide +kernel
theorem dL_law_1255 : decode cL_law 1255 = .ok (.aload_n 2, 1) := by decide +kernel
theorem dL_law_1256 : decode cL_law 1256 = .ok (.invokevirtual 157, 3) := by decide +kernel
theorem dL_law_1259 : decode cL_law 1259 = .ok (.if_icmp .eq 31, 3) := by decide +kernel
theorem dL_law_1262 : decode cL_law 1262 = .ok (.iconst 0, 1) := by decide +kernel
theorem dL_law_1263 : decode cL_law 1263 = .ok (.ireturn, 1) := by decide +kernel
theorem dL_law_1264 : decode cL_law 1264 = .ok (.aload_n 1, 1) := by decide +kernel
theorem dL_law_1265 : decode cL_law 1265 = .ok (.invokevirtual 158, 3) := by decide +kernel
theorem dL_law_1268 : decode cL_law 1268 = .ok (.aload_n 2, 1) := by decide +kernel
theorem dL_law_1269 : decode cL_law 1269 = .ok (.invokevirtual 161, 3) := by decide +kernel
theorem dL_law_1272 : decode cL_law 1272 = .ok (.if_icmp .eq 18, 3) := by decide +kernel
theorem dL_law_1275 : decode cL_law 1275 = .ok (.iconst 0, 1) := by decide +kernel
theorem dL_law_1276 : decode cL_law 1276 = .ok (.ireturn, 1) := by decide +kernel
theorem dL_law_1277 : decode cL_law 1277 = .ok (.aload_n 1, 1) := by decide +kernel
theorem dL_law_1278 : decode cL_law 1278 = .ok (.invokevirtual 162, 3) := by decide +kernel
theorem dL_law_1281 : decode cL_law 1281 = .ok (.aload_n 2, 1) := by decide +kernel
theorem dL_law_1282 : decode cL_law 1282 = .ok (.invokevirtual 165, 3) := by decide +kernel
theorem dL_law_1285 : decode cL_law 1285 = .ok (.if_icmp .eq 5, 3) := by decide +kernel
theorem dL_law_1288 : decode cL_law 1288 = .ok (.iconst 0, 1) := by decide +kernel
theorem dL_law_1289 : decode cL_law 1289 = .ok (.ireturn, 1) := by decide +kernel
theorem dL_law_1290 : decode cL_law 1290 = .ok (.iinc 3 6, 3) := by decide +kernel
theorem dL_law_1293 : decode cL_law 1293 = .ok (.goto (-1275), 3) := by decide +kernel
theorem dL_law_1296 : decode cL_law 1296 = .ok (.iconst 1, 1) := by decide +kernel
theorem dL_law_1297 : decode cL_law 1297 = .ok (.ireturn, 1) := by decide +kernel
end
