section
-- ===== PART A: goes FIRST, ahead of the names: the tables' words, and 'selects' of the private methods out of them =====
/-- a private method of a class that the tables say can be made, by its rows of tables_1 -/
def lw_okq (q : MethodName × Nat) : Prop := (q.1.cls ≠ "java/lang/invoke/MethodHandle" ∧ q.1.cls ≠ "java/lang/invoke/VarHandle") ∧ Cond.instantiable q.1.cls q.2 ∈ tables_1 ∧ Cond.privateMethod q.1 ∈ tables_1 ∧ Cond.instanceMethod q.1 ∈ tables_1
theorem lw_p0 : lw_okq (⟨"RootCompass", "countFreePoints", "()I"⟩, 8) := ⟨⟨by decide +kernel, by decide +kernel⟩, List.mem_of_getElem? (i := 15) (by decide +kernel), List.mem_of_getElem? (i := 116) (by decide +kernel), List.mem_of_getElem? (i := 117) (by decide +kernel)⟩
theorem lw_p1 : lw_okq (⟨"java/lang/Throwable", "fillInStackTrace", "(I)Ljava/lang/Throwable;"⟩, 6) := ⟨⟨by decide +kernel, by decide +kernel⟩, List.mem_of_getElem? (i := 174) (by decide +kernel), List.mem_of_getElem? (i := 172) (by decide +kernel), List.mem_of_getElem? (i := 173) (by decide +kernel)⟩
theorem lw_p2 : lw_okq (⟨"RootCompass", "addStep", "(IIII)I"⟩, 8) := ⟨⟨by decide +kernel, by decide +kernel⟩, List.mem_of_getElem? (i := 15) (by decide +kernel), List.mem_of_getElem? (i := 204) (by decide +kernel), List.mem_of_getElem? (i := 205) (by decide +kernel)⟩
theorem lw_p3 : lw_okq (⟨"RootCompass", "place", "(IIIII)V"⟩, 8) := ⟨⟨by decide +kernel, by decide +kernel⟩, List.mem_of_getElem? (i := 15) (by decide +kernel), List.mem_of_getElem? (i := 224) (by decide +kernel), List.mem_of_getElem? (i := 225) (by decide +kernel)⟩
theorem lw_p4 : lw_okq (⟨"RootCompass$Numbers", "reserve", "()I"⟩, 6) := ⟨⟨by decide +kernel, by decide +kernel⟩, List.mem_of_getElem? (i := 23) (by decide +kernel), List.mem_of_getElem? (i := 236) (by decide +kernel), List.mem_of_getElem? (i := 237) (by decide +kernel)⟩
theorem lw_p5 : lw_okq (⟨"RootCompass$Numbers", "put", "(IJJ)V"⟩, 6) := ⟨⟨by decide +kernel, by decide +kernel⟩, List.mem_of_getElem? (i := 23) (by decide +kernel), List.mem_of_getElem? (i := 240) (by decide +kernel), List.mem_of_getElem? (i := 241) (by decide +kernel)⟩
theorem lw_p6 : lw_okq (⟨"RootCompass", "redraw", "(I)I"⟩, 8) := ⟨⟨by decide +kernel, by decide +kernel⟩, List.mem_of_getElem? (i := 15) (by decide +kernel), List.mem_of_getElem? (i := 262) (by decide +kernel), List.mem_of_getElem? (i := 263) (by decide +kernel)⟩
theorem lw_p7 : lw_okq (⟨"RootCompass", "drawLine", "(I)V"⟩, 8) := ⟨⟨by decide +kernel, by decide +kernel⟩, List.mem_of_getElem? (i := 15) (by decide +kernel), List.mem_of_getElem? (i := 266) (by decide +kernel), List.mem_of_getElem? (i := 267) (by decide +kernel)⟩
theorem lw_p8 : lw_okq (⟨"RootCompass", "coincide", "(II)Z"⟩, 8) := ⟨⟨by decide +kernel, by decide +kernel⟩, List.mem_of_getElem? (i := 15) (by decide +kernel), List.mem_of_getElem? (i := 270) (by decide +kernel), List.mem_of_getElem? (i := 271) (by decide +kernel)⟩
theorem lw_p9 : lw_okq (⟨"RootCompass$Numbers", "negative", "(II)I"⟩, 6) := ⟨⟨by decide +kernel, by decide +kernel⟩, List.mem_of_getElem? (i := 23) (by decide +kernel), List.mem_of_getElem? (i := 282) (by decide +kernel), List.mem_of_getElem? (i := 283) (by decide +kernel)⟩
theorem lw_p10 : lw_okq (⟨"RootCompass$Numbers", "sum", "(III)I"⟩, 6) := ⟨⟨by decide +kernel, by decide +kernel⟩, List.mem_of_getElem? (i := 23) (by decide +kernel), List.mem_of_getElem? (i := 286) (by decide +kernel), List.mem_of_getElem? (i := 287) (by decide +kernel)⟩
theorem lw_p11 : lw_okq (⟨"RootCompass$Numbers", "product", "(III)I"⟩, 6) := ⟨⟨by decide +kernel, by decide +kernel⟩, List.mem_of_getElem? (i := 23) (by decide +kernel), List.mem_of_getElem? (i := 300) (by decide +kernel), List.mem_of_getElem? (i := 301) (by decide +kernel)⟩
theorem lw_p12 : lw_okq (⟨"RootCompass$Numbers", "isZero", "(II)Z"⟩, 6) := ⟨⟨by decide +kernel, by decide +kernel⟩, List.mem_of_getElem? (i := 23) (by decide +kernel), List.mem_of_getElem? (i := 304) (by decide +kernel), List.mem_of_getElem? (i := 305) (by decide +kernel)⟩
theorem lw_p13 : lw_okq (⟨"RootCompass$Numbers", "pair", "(IIII)I"⟩, 6) := ⟨⟨by decide +kernel, by decide +kernel⟩, List.mem_of_getElem? (i := 23) (by decide +kernel), List.mem_of_getElem? (i := 311) (by decide +kernel), List.mem_of_getElem? (i := 312) (by decide +kernel)⟩
theorem lw_p14 : lw_okq (⟨"RootCompass", "drawCircle", "(I)V"⟩, 8) := ⟨⟨by decide +kernel, by decide +kernel⟩, List.mem_of_getElem? (i := 15) (by decide +kernel), List.mem_of_getElem? (i := 322) (by decide +kernel), List.mem_of_getElem? (i := 323) (by decide +kernel)⟩
theorem lw_p15 : lw_okq (⟨"RootCompass", "squareOfDistance", "(II)I"⟩, 8) := ⟨⟨by decide +kernel, by decide +kernel⟩, List.mem_of_getElem? (i := 15) (by decide +kernel), List.mem_of_getElem? (i := 326) (by decide +kernel), List.mem_of_getElem? (i := 327) (by decide +kernel)⟩
def lw_privs_1 : List (MethodName × Nat) := [(⟨"RootCompass", "countFreePoints", "()I"⟩, 8), (⟨"java/lang/Throwable", "fillInStackTrace", "(I)Ljava/lang/Throwable;"⟩, 6), (⟨"RootCompass", "addStep", "(IIII)I"⟩, 8), (⟨"RootCompass", "place", "(IIIII)V"⟩, 8), (⟨"RootCompass$Numbers", "reserve", "()I"⟩, 6), (⟨"RootCompass$Numbers", "put", "(IJJ)V"⟩, 6), (⟨"RootCompass", "redraw", "(I)I"⟩, 8), (⟨"RootCompass", "drawLine", "(I)V"⟩, 8), (⟨"RootCompass", "coincide", "(II)Z"⟩, 8), (⟨"RootCompass$Numbers", "negative", "(II)I"⟩, 6), (⟨"RootCompass$Numbers", "sum", "(III)I"⟩, 6), (⟨"RootCompass$Numbers", "product", "(III)I"⟩, 6), (⟨"RootCompass$Numbers", "isZero", "(II)Z"⟩, 6), (⟨"RootCompass$Numbers", "pair", "(IIII)I"⟩, 6), (⟨"RootCompass", "drawCircle", "(I)V"⟩, 8), (⟨"RootCompass", "squareOfDistance", "(II)I"⟩, 8)]
theorem lw_r1 : ∀ q ∈ lw_privs_1, lw_okq q := List.forall_mem_cons.mpr ⟨lw_p0, List.forall_mem_cons.mpr ⟨lw_p1, List.forall_mem_cons.mpr ⟨lw_p2, List.forall_mem_cons.mpr ⟨lw_p3, List.forall_mem_cons.mpr ⟨lw_p4, List.forall_mem_cons.mpr ⟨lw_p5, List.forall_mem_cons.mpr ⟨lw_p6, List.forall_mem_cons.mpr ⟨lw_p7, List.forall_mem_cons.mpr ⟨lw_p8, List.forall_mem_cons.mpr ⟨lw_p9, List.forall_mem_cons.mpr ⟨lw_p10, List.forall_mem_cons.mpr ⟨lw_p11, List.forall_mem_cons.mpr ⟨lw_p12, List.forall_mem_cons.mpr ⟨lw_p13, List.forall_mem_cons.mpr ⟨lw_p14, List.forall_mem_cons.mpr ⟨lw_p15, fun _ h => absurd h List.not_mem_nil⟩⟩⟩⟩⟩⟩⟩⟩⟩⟩⟩⟩⟩⟩⟩⟩
theorem lw_p16 : lw_okq (⟨"RootCompass", "drawMiddle", "(I)V"⟩, 8) := ⟨⟨by decide +kernel, by decide +kernel⟩, List.mem_of_getElem? (i := 15) (by decide +kernel), List.mem_of_getElem? (i := 337) (by decide +kernel), List.mem_of_getElem? (i := 338) (by decide +kernel)⟩
theorem lw_p17 : lw_okq (⟨"RootCompass$Numbers", "half", "(II)I"⟩, 6) := ⟨⟨by decide +kernel, by decide +kernel⟩, List.mem_of_getElem? (i := 23) (by decide +kernel), List.mem_of_getElem? (i := 345) (by decide +kernel), List.mem_of_getElem? (i := 346) (by decide +kernel)⟩
theorem lw_p18 : lw_okq (⟨"RootCompass", "drawMeetingOfLines", "(I)V"⟩, 8) := ⟨⟨by decide +kernel, by decide +kernel⟩, List.mem_of_getElem? (i := 15) (by decide +kernel), List.mem_of_getElem? (i := 350) (by decide +kernel), List.mem_of_getElem? (i := 351) (by decide +kernel)⟩
theorem lw_p19 : lw_okq (⟨"RootCompass$Numbers", "inverse", "(II)I"⟩, 6) := ⟨⟨by decide +kernel, by decide +kernel⟩, List.mem_of_getElem? (i := 23) (by decide +kernel), List.mem_of_getElem? (i := 358) (by decide +kernel), List.mem_of_getElem? (i := 359) (by decide +kernel)⟩
theorem lw_p20 : lw_okq (⟨"RootCompass", "takeLine", "(I)V"⟩, 8) := ⟨⟨by decide +kernel, by decide +kernel⟩, List.mem_of_getElem? (i := 15) (by decide +kernel), List.mem_of_getElem? (i := 362) (by decide +kernel), List.mem_of_getElem? (i := 363) (by decide +kernel)⟩
theorem lw_p21 : lw_okq (⟨"RootCompass", "measureCut", "(I)I"⟩, 8) := ⟨⟨by decide +kernel, by decide +kernel⟩, List.mem_of_getElem? (i := 15) (by decide +kernel), List.mem_of_getElem? (i := 366) (by decide +kernel), List.mem_of_getElem? (i := 367) (by decide +kernel)⟩
theorem lw_p22 : lw_okq (⟨"RootCompass$Numbers", "signOf", "(II)I"⟩, 6) := ⟨⟨by decide +kernel, by decide +kernel⟩, List.mem_of_getElem? (i := 23) (by decide +kernel), List.mem_of_getElem? (i := 374) (by decide +kernel), List.mem_of_getElem? (i := 375) (by decide +kernel)⟩
theorem lw_p23 : lw_okq (⟨"RootCompass$Numbers", "root", "(II)I"⟩, 6) := ⟨⟨by decide +kernel, by decide +kernel⟩, List.mem_of_getElem? (i := 23) (by decide +kernel), List.mem_of_getElem? (i := 381) (by decide +kernel), List.mem_of_getElem? (i := 382) (by decide +kernel)⟩
theorem lw_p24 : lw_okq (⟨"RootCompass$Numbers", "rootOfFraction", "(I)I"⟩, 6) := ⟨⟨by decide +kernel, by decide +kernel⟩, List.mem_of_getElem? (i := 23) (by decide +kernel), List.mem_of_getElem? (i := 385) (by decide +kernel), List.mem_of_getElem? (i := 386) (by decide +kernel)⟩
theorem lw_p25 : lw_okq (⟨"RootCompass$Numbers", "newLevel", "(I)I"⟩, 6) := ⟨⟨by decide +kernel, by decide +kernel⟩, List.mem_of_getElem? (i := 23) (by decide +kernel), List.mem_of_getElem? (i := 393) (by decide +kernel), List.mem_of_getElem? (i := 394) (by decide +kernel)⟩
theorem lw_p26 : lw_okq (⟨"RootCompass", "drawCut", "(II)V"⟩, 8) := ⟨⟨by decide +kernel, by decide +kernel⟩, List.mem_of_getElem? (i := 15) (by decide +kernel), List.mem_of_getElem? (i := 398) (by decide +kernel), List.mem_of_getElem? (i := 399) (by decide +kernel)⟩
theorem lw_p27 : lw_okq (⟨"RootCompass", "takeCommonLine", "(II)V"⟩, 8) := ⟨⟨by decide +kernel, by decide +kernel⟩, List.mem_of_getElem? (i := 15) (by decide +kernel), List.mem_of_getElem? (i := 406) (by decide +kernel), List.mem_of_getElem? (i := 407) (by decide +kernel)⟩
theorem lw_p28 : lw_okq (⟨"RootCompass", "settle", "(I)I"⟩, 8) := ⟨⟨by decide +kernel, by decide +kernel⟩, List.mem_of_getElem? (i := 15) (by decide +kernel), List.mem_of_getElem? (i := 410) (by decide +kernel), List.mem_of_getElem? (i := 411) (by decide +kernel)⟩
theorem lw_p29 : lw_okq (⟨"RootCompass", "isPoint", "(I)Z"⟩, 8) := ⟨⟨by decide +kernel, by decide +kernel⟩, List.mem_of_getElem? (i := 15) (by decide +kernel), List.mem_of_getElem? (i := 439) (by decide +kernel), List.mem_of_getElem? (i := 440) (by decide +kernel)⟩
theorem lw_p30 : lw_okq (⟨"RootCompass", "isCurve", "(I)Z"⟩, 8) := ⟨⟨by decide +kernel, by decide +kernel⟩, List.mem_of_getElem? (i := 15) (by decide +kernel), List.mem_of_getElem? (i := 466) (by decide +kernel), List.mem_of_getElem? (i := 467) (by decide +kernel)⟩
theorem lw_p31 : lw_okq (⟨"RootCompass", "isLine", "(I)Z"⟩, 8) := ⟨⟨by decide +kernel, by decide +kernel⟩, List.mem_of_getElem? (i := 15) (by decide +kernel), List.mem_of_getElem? (i := 470) (by decide +kernel), List.mem_of_getElem? (i := 471) (by decide +kernel)⟩
def lw_privs_2 : List (MethodName × Nat) := [(⟨"RootCompass", "drawMiddle", "(I)V"⟩, 8), (⟨"RootCompass$Numbers", "half", "(II)I"⟩, 6), (⟨"RootCompass", "drawMeetingOfLines", "(I)V"⟩, 8), (⟨"RootCompass$Numbers", "inverse", "(II)I"⟩, 6), (⟨"RootCompass", "takeLine", "(I)V"⟩, 8), (⟨"RootCompass", "measureCut", "(I)I"⟩, 8), (⟨"RootCompass$Numbers", "signOf", "(II)I"⟩, 6), (⟨"RootCompass$Numbers", "root", "(II)I"⟩, 6), (⟨"RootCompass$Numbers", "rootOfFraction", "(I)I"⟩, 6), (⟨"RootCompass$Numbers", "newLevel", "(I)I"⟩, 6), (⟨"RootCompass", "drawCut", "(II)V"⟩, 8), (⟨"RootCompass", "takeCommonLine", "(II)V"⟩, 8), (⟨"RootCompass", "settle", "(I)I"⟩, 8), (⟨"RootCompass", "isPoint", "(I)Z"⟩, 8), (⟨"RootCompass", "isCurve", "(I)Z"⟩, 8), (⟨"RootCompass", "isLine", "(I)Z"⟩, 8)]
theorem lw_r2 : ∀ q ∈ lw_privs_2, lw_okq q := List.forall_mem_cons.mpr ⟨lw_p16, List.forall_mem_cons.mpr ⟨lw_p17, List.forall_mem_cons.mpr ⟨lw_p18, List.forall_mem_cons.mpr ⟨lw_p19, List.forall_mem_cons.mpr ⟨lw_p20, List.forall_mem_cons.mpr ⟨lw_p21, List.forall_mem_cons.mpr ⟨lw_p22, List.forall_mem_cons.mpr ⟨lw_p23, List.forall_mem_cons.mpr ⟨lw_p24, List.forall_mem_cons.mpr ⟨lw_p25, List.forall_mem_cons.mpr ⟨lw_p26, List.forall_mem_cons.mpr ⟨lw_p27, List.forall_mem_cons.mpr ⟨lw_p28, List.forall_mem_cons.mpr ⟨lw_p29, List.forall_mem_cons.mpr ⟨lw_p30, List.forall_mem_cons.mpr ⟨lw_p31, fun _ h => absurd h List.not_mem_nil⟩⟩⟩⟩⟩⟩⟩⟩⟩⟩⟩⟩⟩⟩⟩⟩
theorem lw_p32 : lw_okq (⟨"RootCompass", "isCircle", "(I)Z"⟩, 8) := ⟨⟨by decide +kernel, by decide +kernel⟩, List.mem_of_getElem? (i := 15) (by decide +kernel), List.mem_of_getElem? (i := 474) (by decide +kernel), List.mem_of_getElem? (i := 475) (by decide +kernel)⟩
theorem lw_p33 : lw_okq (⟨"RootCompass", "copyPlace", "(II)V"⟩, 8) := ⟨⟨by decide +kernel, by decide +kernel⟩, List.mem_of_getElem? (i := 15) (by decide +kernel), List.mem_of_getElem? (i := 488) (by decide +kernel), List.mem_of_getElem? (i := 489) (by decide +kernel)⟩
theorem lw_p34 : lw_okq (⟨"RootCompass", "liesOnLine", "(II)Z"⟩, 8) := ⟨⟨by decide +kernel, by decide +kernel⟩, List.mem_of_getElem? (i := 15) (by decide +kernel), List.mem_of_getElem? (i := 500) (by decide +kernel), List.mem_of_getElem? (i := 501) (by decide +kernel)⟩
theorem lw_p35 : lw_okq (⟨"RootCompass", "refuseTooWide", "()V"⟩, 8) := ⟨⟨by decide +kernel, by decide +kernel⟩, List.mem_of_getElem? (i := 15) (by decide +kernel), List.mem_of_getElem? (i := 504) (by decide +kernel), List.mem_of_getElem? (i := 505) (by decide +kernel)⟩
theorem lw_p36 : lw_okq (⟨"RootCompassModel", "fresh", "(IIIII)I"⟩, 11) := ⟨⟨by decide +kernel, by decide +kernel⟩, List.mem_of_getElem? (i := 594) (by decide +kernel), List.mem_of_getElem? (i := 647) (by decide +kernel), List.mem_of_getElem? (i := 648) (by decide +kernel)⟩
theorem lw_p37 : lw_okq (⟨"RootCompassModel", "make", "(I)Z"⟩, 11) := ⟨⟨by decide +kernel, by decide +kernel⟩, List.mem_of_getElem? (i := 594) (by decide +kernel), List.mem_of_getElem? (i := 651) (by decide +kernel), List.mem_of_getElem? (i := 652) (by decide +kernel)⟩
theorem lw_p38 : lw_okq (⟨"RootCompassModel", "clear", "(II)V"⟩, 11) := ⟨⟨by decide +kernel, by decide +kernel⟩, List.mem_of_getElem? (i := 594) (by decide +kernel), List.mem_of_getElem? (i := 655) (by decide +kernel), List.mem_of_getElem? (i := 656) (by decide +kernel)⟩
theorem lw_p39 : lw_okq (⟨"RootCompassModel", "put", "(IJJ)V"⟩, 11) := ⟨⟨by decide +kernel, by decide +kernel⟩, List.mem_of_getElem? (i := 594) (by decide +kernel), List.mem_of_getElem? (i := 659) (by decide +kernel), List.mem_of_getElem? (i := 660) (by decide +kernel)⟩
theorem lw_p40 : lw_okq (⟨"RootCompassModel", "makeLine", "(III)V"⟩, 11) := ⟨⟨by decide +kernel, by decide +kernel⟩, List.mem_of_getElem? (i := 594) (by decide +kernel), List.mem_of_getElem? (i := 668) (by decide +kernel), List.mem_of_getElem? (i := 669) (by decide +kernel)⟩
theorem lw_p41 : lw_okq (⟨"RootCompassModel", "alike", "(II)Z"⟩, 11) := ⟨⟨by decide +kernel, by decide +kernel⟩, List.mem_of_getElem? (i := 594) (by decide +kernel), List.mem_of_getElem? (i := 675) (by decide +kernel), List.mem_of_getElem? (i := 676) (by decide +kernel)⟩
theorem lw_p42 : lw_okq (⟨"RootCompassModel", "sub", "(IIII)V"⟩, 11) := ⟨⟨by decide +kernel, by decide +kernel⟩, List.mem_of_getElem? (i := 594) (by decide +kernel), List.mem_of_getElem? (i := 682) (by decide +kernel), List.mem_of_getElem? (i := 683) (by decide +kernel)⟩
theorem lw_p43 : lw_okq (⟨"RootCompassModel", "sub0", "(III)V"⟩, 11) := ⟨⟨by decide +kernel, by decide +kernel⟩, List.mem_of_getElem? (i := 594) (by decide +kernel), List.mem_of_getElem? (i := 686) (by decide +kernel), List.mem_of_getElem? (i := 687) (by decide +kernel)⟩
theorem lw_p44 : lw_okq (⟨"RootCompassModel", "products", "(IIIII)V"⟩, 11) := ⟨⟨by decide +kernel, by decide +kernel⟩, List.mem_of_getElem? (i := 594) (by decide +kernel), List.mem_of_getElem? (i := 690) (by decide +kernel), List.mem_of_getElem? (i := 691) (by decide +kernel)⟩
theorem lw_p45 : lw_okq (⟨"RootCompassModel", "mul", "(III)V"⟩, 11) := ⟨⟨by decide +kernel, by decide +kernel⟩, List.mem_of_getElem? (i := 594) (by decide +kernel), List.mem_of_getElem? (i := 697) (by decide +kernel), List.mem_of_getElem? (i := 698) (by decide +kernel)⟩
theorem lw_p46 : lw_okq (⟨"RootCompassModel", "mul0", "(III)V"⟩, 11) := ⟨⟨by decide +kernel, by decide +kernel⟩, List.mem_of_getElem? (i := 594) (by decide +kernel), List.mem_of_getElem? (i := 701) (by decide +kernel), List.mem_of_getElem? (i := 702) (by decide +kernel)⟩
theorem lw_p47 : lw_okq (⟨"RootCompassModel", "mul1", "(III)V"⟩, 11) := ⟨⟨by decide +kernel, by decide +kernel⟩, List.mem_of_getElem? (i := 594) (by decide +kernel), List.mem_of_getElem? (i := 705) (by decide +kernel), List.mem_of_getElem? (i := 706) (by decide +kernel)⟩
def lw_privs_3 : List (MethodName × Nat) := [(⟨"RootCompass", "isCircle", "(I)Z"⟩, 8), (⟨"RootCompass", "copyPlace", "(II)V"⟩, 8), (⟨"RootCompass", "liesOnLine", "(II)Z"⟩, 8), (⟨"RootCompass", "refuseTooWide", "()V"⟩, 8), (⟨"RootCompassModel", "fresh", "(IIIII)I"⟩, 11), (⟨"RootCompassModel", "make", "(I)Z"⟩, 11), (⟨"RootCompassModel", "clear", "(II)V"⟩, 11), (⟨"RootCompassModel", "put", "(IJJ)V"⟩, 11), (⟨"RootCompassModel", "makeLine", "(III)V"⟩, 11), (⟨"RootCompassModel", "alike", "(II)Z"⟩, 11), (⟨"RootCompassModel", "sub", "(IIII)V"⟩, 11), (⟨"RootCompassModel", "sub0", "(III)V"⟩, 11), (⟨"RootCompassModel", "products", "(IIIII)V"⟩, 11), (⟨"RootCompassModel", "mul", "(III)V"⟩, 11), (⟨"RootCompassModel", "mul0", "(III)V"⟩, 11), (⟨"RootCompassModel", "mul1", "(III)V"⟩, 11)]
theorem lw_r3 : ∀ q ∈ lw_privs_3, lw_okq q := List.forall_mem_cons.mpr ⟨lw_p32, List.forall_mem_cons.mpr ⟨lw_p33, List.forall_mem_cons.mpr ⟨lw_p34, List.forall_mem_cons.mpr ⟨lw_p35, List.forall_mem_cons.mpr ⟨lw_p36, List.forall_mem_cons.mpr ⟨lw_p37, List.forall_mem_cons.mpr ⟨lw_p38, List.forall_mem_cons.mpr ⟨lw_p39, List.forall_mem_cons.mpr ⟨lw_p40, List.forall_mem_cons.mpr ⟨lw_p41, List.forall_mem_cons.mpr ⟨lw_p42, List.forall_mem_cons.mpr ⟨lw_p43, List.forall_mem_cons.mpr ⟨lw_p44, List.forall_mem_cons.mpr ⟨lw_p45, List.forall_mem_cons.mpr ⟨lw_p46, List.forall_mem_cons.mpr ⟨lw_p47, fun _ h => absurd h List.not_mem_nil⟩⟩⟩⟩⟩⟩⟩⟩⟩⟩⟩⟩⟩⟩⟩⟩
theorem lw_p48 : lw_okq (⟨"RootCompassModel", "add0", "(III)V"⟩, 11) := ⟨⟨by decide +kernel, by decide +kernel⟩, List.mem_of_getElem? (i := 594) (by decide +kernel), List.mem_of_getElem? (i := 709) (by decide +kernel), List.mem_of_getElem? (i := 710) (by decide +kernel)⟩
theorem lw_p49 : lw_okq (⟨"RootCompassModel", "mul2", "(III)V"⟩, 11) := ⟨⟨by decide +kernel, by decide +kernel⟩, List.mem_of_getElem? (i := 594) (by decide +kernel), List.mem_of_getElem? (i := 713) (by decide +kernel), List.mem_of_getElem? (i := 714) (by decide +kernel)⟩
theorem lw_p50 : lw_okq (⟨"RootCompassModel", "add", "(IIII)V"⟩, 11) := ⟨⟨by decide +kernel, by decide +kernel⟩, List.mem_of_getElem? (i := 594) (by decide +kernel), List.mem_of_getElem? (i := 717) (by decide +kernel), List.mem_of_getElem? (i := 718) (by decide +kernel)⟩
theorem lw_p51 : lw_okq (⟨"RootCompassModel", "squared", "(III)V"⟩, 11) := ⟨⟨by decide +kernel, by decide +kernel⟩, List.mem_of_getElem? (i := 594) (by decide +kernel), List.mem_of_getElem? (i := 721) (by decide +kernel), List.mem_of_getElem? (i := 722) (by decide +kernel)⟩
theorem lw_p52 : lw_okq (⟨"RootCompassModel", "isZero", "(II)Z"⟩, 11) := ⟨⟨by decide +kernel, by decide +kernel⟩, List.mem_of_getElem? (i := 594) (by decide +kernel), List.mem_of_getElem? (i := 725) (by decide +kernel), List.mem_of_getElem? (i := 726) (by decide +kernel)⟩
theorem lw_p53 : lw_okq (⟨"RootCompassModel", "makeMiddle", "(III)V"⟩, 11) := ⟨⟨by decide +kernel, by decide +kernel⟩, List.mem_of_getElem? (i := 594) (by decide +kernel), List.mem_of_getElem? (i := 729) (by decide +kernel), List.mem_of_getElem? (i := 730) (by decide +kernel)⟩
theorem lw_p54 : lw_okq (⟨"RootCompassModel", "halve", "(III)V"⟩, 11) := ⟨⟨by decide +kernel, by decide +kernel⟩, List.mem_of_getElem? (i := 594) (by decide +kernel), List.mem_of_getElem? (i := 733) (by decide +kernel), List.mem_of_getElem? (i := 734) (by decide +kernel)⟩
theorem lw_p55 : lw_okq (⟨"RootCompassModel", "makeMeeting", "(IIII)V"⟩, 11) := ⟨⟨by decide +kernel, by decide +kernel⟩, List.mem_of_getElem? (i := 594) (by decide +kernel), List.mem_of_getElem? (i := 737) (by decide +kernel), List.mem_of_getElem? (i := 738) (by decide +kernel)⟩
theorem lw_p56 : lw_okq (⟨"RootCompassModel", "meetLines", "(III)V"⟩, 11) := ⟨⟨by decide +kernel, by decide +kernel⟩, List.mem_of_getElem? (i := 594) (by decide +kernel), List.mem_of_getElem? (i := 741) (by decide +kernel), List.mem_of_getElem? (i := 742) (by decide +kernel)⟩
theorem lw_p57 : lw_okq (⟨"RootCompassModel", "cross", "(IIIII)V"⟩, 11) := ⟨⟨by decide +kernel, by decide +kernel⟩, List.mem_of_getElem? (i := 594) (by decide +kernel), List.mem_of_getElem? (i := 745) (by decide +kernel), List.mem_of_getElem? (i := 746) (by decide +kernel)⟩
theorem lw_p58 : lw_okq (⟨"RootCompassModel", "inv", "(II)V"⟩, 11) := ⟨⟨by decide +kernel, by decide +kernel⟩, List.mem_of_getElem? (i := 594) (by decide +kernel), List.mem_of_getElem? (i := 749) (by decide +kernel), List.mem_of_getElem? (i := 750) (by decide +kernel)⟩
theorem lw_p59 : lw_okq (⟨"RootCompassModel", "inv0", "(II)V"⟩, 11) := ⟨⟨by decide +kernel, by decide +kernel⟩, List.mem_of_getElem? (i := 594) (by decide +kernel), List.mem_of_getElem? (i := 753) (by decide +kernel), List.mem_of_getElem? (i := 754) (by decide +kernel)⟩
theorem lw_p60 : lw_okq (⟨"RootCompassModel", "inv1", "(II)V"⟩, 11) := ⟨⟨by decide +kernel, by decide +kernel⟩, List.mem_of_getElem? (i := 594) (by decide +kernel), List.mem_of_getElem? (i := 757) (by decide +kernel), List.mem_of_getElem? (i := 758) (by decide +kernel)⟩
theorem lw_p61 : lw_okq (⟨"RootCompassModel", "norm1", "(II)V"⟩, 11) := ⟨⟨by decide +kernel, by decide +kernel⟩, List.mem_of_getElem? (i := 594) (by decide +kernel), List.mem_of_getElem? (i := 761) (by decide +kernel), List.mem_of_getElem? (i := 762) (by decide +kernel)⟩
theorem lw_p62 : lw_okq (⟨"RootCompassModel", "neg0", "(II)V"⟩, 11) := ⟨⟨by decide +kernel, by decide +kernel⟩, List.mem_of_getElem? (i := 594) (by decide +kernel), List.mem_of_getElem? (i := 765) (by decide +kernel), List.mem_of_getElem? (i := 766) (by decide +kernel)⟩
theorem lw_p63 : lw_okq (⟨"RootCompassModel", "inv2", "(II)V"⟩, 11) := ⟨⟨by decide +kernel, by decide +kernel⟩, List.mem_of_getElem? (i := 594) (by decide +kernel), List.mem_of_getElem? (i := 769) (by decide +kernel), List.mem_of_getElem? (i := 770) (by decide +kernel)⟩
def lw_privs_4 : List (MethodName × Nat) := [(⟨"RootCompassModel", "add0", "(III)V"⟩, 11), (⟨"RootCompassModel", "mul2", "(III)V"⟩, 11), (⟨"RootCompassModel", "add", "(IIII)V"⟩, 11), (⟨"RootCompassModel", "squared", "(III)V"⟩, 11), (⟨"RootCompassModel", "isZero", "(II)Z"⟩, 11), (⟨"RootCompassModel", "makeMiddle", "(III)V"⟩, 11), (⟨"RootCompassModel", "halve", "(III)V"⟩, 11), (⟨"RootCompassModel", "makeMeeting", "(IIII)V"⟩, 11), (⟨"RootCompassModel", "meetLines", "(III)V"⟩, 11), (⟨"RootCompassModel", "cross", "(IIIII)V"⟩, 11), (⟨"RootCompassModel", "inv", "(II)V"⟩, 11), (⟨"RootCompassModel", "inv0", "(II)V"⟩, 11), (⟨"RootCompassModel", "inv1", "(II)V"⟩, 11), (⟨"RootCompassModel", "norm1", "(II)V"⟩, 11), (⟨"RootCompassModel", "neg0", "(II)V"⟩, 11), (⟨"RootCompassModel", "inv2", "(II)V"⟩, 11)]
theorem lw_r4 : ∀ q ∈ lw_privs_4, lw_okq q := List.forall_mem_cons.mpr ⟨lw_p48, List.forall_mem_cons.mpr ⟨lw_p49, List.forall_mem_cons.mpr ⟨lw_p50, List.forall_mem_cons.mpr ⟨lw_p51, List.forall_mem_cons.mpr ⟨lw_p52, List.forall_mem_cons.mpr ⟨lw_p53, List.forall_mem_cons.mpr ⟨lw_p54, List.forall_mem_cons.mpr ⟨lw_p55, List.forall_mem_cons.mpr ⟨lw_p56, List.forall_mem_cons.mpr ⟨lw_p57, List.forall_mem_cons.mpr ⟨lw_p58, List.forall_mem_cons.mpr ⟨lw_p59, List.forall_mem_cons.mpr ⟨lw_p60, List.forall_mem_cons.mpr ⟨lw_p61, List.forall_mem_cons.mpr ⟨lw_p62, List.forall_mem_cons.mpr ⟨lw_p63, fun _ h => absurd h List.not_mem_nil⟩⟩⟩⟩⟩⟩⟩⟩⟩⟩⟩⟩⟩⟩⟩⟩
theorem lw_p64 : lw_okq (⟨"RootCompassModel", "norm2", "(II)V"⟩, 11) := ⟨⟨by decide +kernel, by decide +kernel⟩, List.mem_of_getElem? (i := 594) (by decide +kernel), List.mem_of_getElem? (i := 773) (by decide +kernel), List.mem_of_getElem? (i := 774) (by decide +kernel)⟩
theorem lw_p65 : lw_okq (⟨"RootCompassModel", "neg", "(III)V"⟩, 11) := ⟨⟨by decide +kernel, by decide +kernel⟩, List.mem_of_getElem? (i := 594) (by decide +kernel), List.mem_of_getElem? (i := 777) (by decide +kernel), List.mem_of_getElem? (i := 778) (by decide +kernel)⟩
theorem lw_p66 : lw_okq (⟨"RootCompassModel", "set", "(III)V"⟩, 11) := ⟨⟨by decide +kernel, by decide +kernel⟩, List.mem_of_getElem? (i := 594) (by decide +kernel), List.mem_of_getElem? (i := 781) (by decide +kernel), List.mem_of_getElem? (i := 782) (by decide +kernel)⟩
theorem lw_p67 : lw_okq (⟨"RootCompassModel", "meetCircles", "(IIII)V"⟩, 11) := ⟨⟨by decide +kernel, by decide +kernel⟩, List.mem_of_getElem? (i := 594) (by decide +kernel), List.mem_of_getElem? (i := 785) (by decide +kernel), List.mem_of_getElem? (i := 786) (by decide +kernel)⟩
theorem lw_p68 : lw_okq (⟨"RootCompassModel", "meetCircle", "(IIII)V"⟩, 11) := ⟨⟨by decide +kernel, by decide +kernel⟩, List.mem_of_getElem? (i := 594) (by decide +kernel), List.mem_of_getElem? (i := 789) (by decide +kernel), List.mem_of_getElem? (i := 790) (by decide +kernel)⟩
theorem lw_p69 : lw_okq (⟨"RootCompassModel", "takeRoot", "(II)V"⟩, 11) := ⟨⟨by decide +kernel, by decide +kernel⟩, List.mem_of_getElem? (i := 594) (by decide +kernel), List.mem_of_getElem? (i := 793) (by decide +kernel), List.mem_of_getElem? (i := 794) (by decide +kernel)⟩
theorem lw_p70 : lw_okq (⟨"RootCompassModel", "signOf", "(I)I"⟩, 11) := ⟨⟨by decide +kernel, by decide +kernel⟩, List.mem_of_getElem? (i := 594) (by decide +kernel), List.mem_of_getElem? (i := 797) (by decide +kernel), List.mem_of_getElem? (i := 798) (by decide +kernel)⟩
theorem lw_p71 : lw_okq (⟨"RootCompassModel", "sign0", "(I)I"⟩, 11) := ⟨⟨by decide +kernel, by decide +kernel⟩, List.mem_of_getElem? (i := 594) (by decide +kernel), List.mem_of_getElem? (i := 801) (by decide +kernel), List.mem_of_getElem? (i := 802) (by decide +kernel)⟩
theorem lw_p72 : lw_okq (⟨"RootCompassModel", "sign1", "(I)I"⟩, 11) := ⟨⟨by decide +kernel, by decide +kernel⟩, List.mem_of_getElem? (i := 594) (by decide +kernel), List.mem_of_getElem? (i := 805) (by decide +kernel), List.mem_of_getElem? (i := 806) (by decide +kernel)⟩
theorem lw_p73 : lw_okq (⟨"RootCompassModel", "sign2", "(I)I"⟩, 11) := ⟨⟨by decide +kernel, by decide +kernel⟩, List.mem_of_getElem? (i := 594) (by decide +kernel), List.mem_of_getElem? (i := 809) (by decide +kernel), List.mem_of_getElem? (i := 810) (by decide +kernel)⟩
theorem lw_p74 : lw_okq (⟨"RootCompassModel", "root", "(II)Z"⟩, 11) := ⟨⟨by decide +kernel, by decide +kernel⟩, List.mem_of_getElem? (i := 594) (by decide +kernel), List.mem_of_getElem? (i := 813) (by decide +kernel), List.mem_of_getElem? (i := 814) (by decide +kernel)⟩
theorem lw_p75 : lw_okq (⟨"RootCompassModel", "root0", "(II)Z"⟩, 11) := ⟨⟨by decide +kernel, by decide +kernel⟩, List.mem_of_getElem? (i := 594) (by decide +kernel), List.mem_of_getElem? (i := 817) (by decide +kernel), List.mem_of_getElem? (i := 818) (by decide +kernel)⟩
theorem lw_p76 : lw_okq (⟨"RootCompassModel", "root1", "(II)Z"⟩, 11) := ⟨⟨by decide +kernel, by decide +kernel⟩, List.mem_of_getElem? (i := 594) (by decide +kernel), List.mem_of_getElem? (i := 826) (by decide +kernel), List.mem_of_getElem? (i := 827) (by decide +kernel)⟩
theorem lw_p77 : lw_okq (⟨"RootCompassModel", "half1", "(IIIZ)Z"⟩, 11) := ⟨⟨by decide +kernel, by decide +kernel⟩, List.mem_of_getElem? (i := 594) (by decide +kernel), List.mem_of_getElem? (i := 830) (by decide +kernel), List.mem_of_getElem? (i := 831) (by decide +kernel)⟩
theorem lw_p78 : lw_okq (⟨"RootCompassModel", "root2", "(II)Z"⟩, 11) := ⟨⟨by decide +kernel, by decide +kernel⟩, List.mem_of_getElem? (i := 594) (by decide +kernel), List.mem_of_getElem? (i := 834) (by decide +kernel), List.mem_of_getElem? (i := 835) (by decide +kernel)⟩
theorem lw_p79 : lw_okq (⟨"RootCompassModel", "half2", "(IIIZ)Z"⟩, 11) := ⟨⟨by decide +kernel, by decide +kernel⟩, List.mem_of_getElem? (i := 594) (by decide +kernel), List.mem_of_getElem? (i := 838) (by decide +kernel), List.mem_of_getElem? (i := 839) (by decide +kernel)⟩
def lw_privs_5 : List (MethodName × Nat) := [(⟨"RootCompassModel", "norm2", "(II)V"⟩, 11), (⟨"RootCompassModel", "neg", "(III)V"⟩, 11), (⟨"RootCompassModel", "set", "(III)V"⟩, 11), (⟨"RootCompassModel", "meetCircles", "(IIII)V"⟩, 11), (⟨"RootCompassModel", "meetCircle", "(IIII)V"⟩, 11), (⟨"RootCompassModel", "takeRoot", "(II)V"⟩, 11), (⟨"RootCompassModel", "signOf", "(I)I"⟩, 11), (⟨"RootCompassModel", "sign0", "(I)I"⟩, 11), (⟨"RootCompassModel", "sign1", "(I)I"⟩, 11), (⟨"RootCompassModel", "sign2", "(I)I"⟩, 11), (⟨"RootCompassModel", "root", "(II)Z"⟩, 11), (⟨"RootCompassModel", "root0", "(II)Z"⟩, 11), (⟨"RootCompassModel", "root1", "(II)Z"⟩, 11), (⟨"RootCompassModel", "half1", "(IIIZ)Z"⟩, 11), (⟨"RootCompassModel", "root2", "(II)Z"⟩, 11), (⟨"RootCompassModel", "half2", "(IIIZ)Z"⟩, 11)]
theorem lw_r5 : ∀ q ∈ lw_privs_5, lw_okq q := List.forall_mem_cons.mpr ⟨lw_p64, List.forall_mem_cons.mpr ⟨lw_p65, List.forall_mem_cons.mpr ⟨lw_p66, List.forall_mem_cons.mpr ⟨lw_p67, List.forall_mem_cons.mpr ⟨lw_p68, List.forall_mem_cons.mpr ⟨lw_p69, List.forall_mem_cons.mpr ⟨lw_p70, List.forall_mem_cons.mpr ⟨lw_p71, List.forall_mem_cons.mpr ⟨lw_p72, List.forall_mem_cons.mpr ⟨lw_p73, List.forall_mem_cons.mpr ⟨lw_p74, List.forall_mem_cons.mpr ⟨lw_p75, List.forall_mem_cons.mpr ⟨lw_p76, List.forall_mem_cons.mpr ⟨lw_p77, List.forall_mem_cons.mpr ⟨lw_p78, List.forall_mem_cons.mpr ⟨lw_p79, fun _ h => absurd h List.not_mem_nil⟩⟩⟩⟩⟩⟩⟩⟩⟩⟩⟩⟩⟩⟩⟩⟩
theorem lw_p80 : lw_okq (⟨"RootCompassModel", "isPoint", "(I)Z"⟩, 11) := ⟨⟨by decide +kernel, by decide +kernel⟩, List.mem_of_getElem? (i := 594) (by decide +kernel), List.mem_of_getElem? (i := 846) (by decide +kernel), List.mem_of_getElem? (i := 847) (by decide +kernel)⟩
theorem lw_p81 : lw_okq (⟨"RootCompassModel", "kindOf", "(I)I"⟩, 11) := ⟨⟨by decide +kernel, by decide +kernel⟩, List.mem_of_getElem? (i := 594) (by decide +kernel), List.mem_of_getElem? (i := 850) (by decide +kernel), List.mem_of_getElem? (i := 851) (by decide +kernel)⟩
theorem lw_p82 : lw_okq (⟨"RootCompassModel", "become", "(IIIII)V"⟩, 11) := ⟨⟨by decide +kernel, by decide +kernel⟩, List.mem_of_getElem? (i := 594) (by decide +kernel), List.mem_of_getElem? (i := 870) (by decide +kernel), List.mem_of_getElem? (i := 871) (by decide +kernel)⟩
theorem lw_p83 : lw_okq (⟨"RootCompassModel", "redraw", "()I"⟩, 11) := ⟨⟨by decide +kernel, by decide +kernel⟩, List.mem_of_getElem? (i := 594) (by decide +kernel), List.mem_of_getElem? (i := 874) (by decide +kernel), List.mem_of_getElem? (i := 875) (by decide +kernel)⟩
theorem lw_p84 : lw_okq (⟨"RootCompassModel", "told", "(Z)Z"⟩, 11) := ⟨⟨by decide +kernel, by decide +kernel⟩, List.mem_of_getElem? (i := 594) (by decide +kernel), List.mem_of_getElem? (i := 886) (by decide +kernel), List.mem_of_getElem? (i := 887) (by decide +kernel)⟩
def lw_privs_6 : List (MethodName × Nat) := [(⟨"RootCompassModel", "isPoint", "(I)Z"⟩, 11), (⟨"RootCompassModel", "kindOf", "(I)I"⟩, 11), (⟨"RootCompassModel", "become", "(IIIII)V"⟩, 11), (⟨"RootCompassModel", "redraw", "()I"⟩, 11), (⟨"RootCompassModel", "told", "(Z)Z"⟩, 11)]
theorem lw_r6 : ∀ q ∈ lw_privs_6, lw_okq q := List.forall_mem_cons.mpr ⟨lw_p80, List.forall_mem_cons.mpr ⟨lw_p81, List.forall_mem_cons.mpr ⟨lw_p82, List.forall_mem_cons.mpr ⟨lw_p83, List.forall_mem_cons.mpr ⟨lw_p84, fun _ h => absurd h List.not_mem_nil⟩⟩⟩⟩⟩
def lw_privs : List (MethodName × Nat) := lw_privs_1 ++ (lw_privs_2 ++ (lw_privs_3 ++ (lw_privs_4 ++ (lw_privs_5 ++ (lw_privs_6)))))
def lw_tbl : List Cond := k2_sels lw_privs ++ tables_1
theorem lw_privs_ok : ∀ q ∈ lw_privs, lw_okq q := by
  show ∀ q ∈ lw_privs_1 ++ (lw_privs_2 ++ (lw_privs_3 ++ (lw_privs_4 ++ (lw_privs_5 ++ (lw_privs_6))))), lw_okq q
  exact List.forall_mem_append.mpr ⟨lw_r1, List.forall_mem_append.mpr ⟨lw_r2, List.forall_mem_append.mpr ⟨lw_r3, List.forall_mem_append.mpr ⟨lw_r4, List.forall_mem_append.mpr ⟨lw_r5, lw_r6⟩⟩⟩⟩⟩
end
section
/-! ===== BEGIN words of one list among another's, by their places ===== -/
theorem goodIn_r {big : List Cond} (ws : List Cond) (ps : List Nat) (hp : ws = ps.filterMap (fun i => big[i]?)) (h : ws.all goodWord = true) : GoodIn big ws := by
  intro w hw
  have h1 := List.all_eq_true.mp h w hw
  rw [hp] at hw
  obtain ⟨i, -, hi⟩ := List.mem_filterMap.mp hw
  have hm : w ∈ big := by first | exact List.mem_of_getElem? hi | exact List.getElem?_mem hi
  exact ⟨hm, good_of_word h1⟩
theorem goodIn_app {big a b : List Cond} (ha : GoodIn big a) (hb : GoodIn big b) : GoodIn big (a ++ b) := fun w h => (List.mem_append.mp h).elim (ha w) (hb w)
theorem goodIn_ca {big a b : List Cond} {c : Cond} (ha : GoodIn big (c :: a)) (hb : GoodIn big b) : GoodIn big (c :: (a ++ b)) := fun w h => (List.mem_cons.mp h).elim (fun e => ha w (List.mem_cons.mpr (Or.inl e))) (fun h => (List.mem_append.mp h).elim (fun h => ha w (List.mem_cons.mpr (Or.inr h))) (hb w))
theorem goodIn_sub {big ws : List Cond} (hm : ∀ w ∈ ws, w ∈ big) (h : ws.all goodWord = true) : GoodIn big ws := fun w hw => ⟨hm w hw, good_of_word (List.all_eq_true.mp h w hw)⟩
/-! ===== END ===== -/

/-! ===== BEGIN exceptions that leave a method, and their catching by the caller (launches without stack traces) ===== -/
section VXA
/-! The laws vx_back, vx_callV, vx_callS, vx_callSW, vx_throw0, vx_throwS follow proofs of the library, with one case more: JvmDerived/Free/Laws.lean (Back.of_free), Shelf42/LK1.lean (callV, callS), Shelf/KitTraced.lean (throwNew0V, throwNewS). -/
/-- where a method has thrown q: the class by its name, the cell, what was written, the world -/
def vx_T (XC : String → State → State → Prop) (st : State) (q : Addr) (t : State) (mc ms : Nat) (free : Addr → Prop) : Prop :=
  ∃ (E : String) (ce : Cell) (L : List Loc), XC E st t ∧ t.heap[q]? = some ce ∧ ce.vm = .none ∧ st.vm.findClass E = some ce.cls ∧ st.WarmedH t.vm ∧ st.sameButNew ({ t with vm := st.vm } : State) L mc ms ∧ ∀ z ∈ L, free z.base
def vx_Q (Qc : Array Value → State → Outcome → State → Prop) (XC : String → State → State → Prop) (mc ms : Nat) (free : Addr → Prop) : Array Value → State → Outcome → State → Prop := fun a st o t =>
  (Qc a st o t ∧ ∃ L, FrameEnd st o t L mc ms ∧ ∀ q ∈ L, free q.base) ∨ ∃ q, o = .threw q ∧ vx_T XC st q t mc ms free
/-- a callee that returns or throws -/
def vx_Met (l : Launch) (y : MethodName) (ws : List Cond) (rm : Room) (Pc : Array Value → State → Prop) (Qc : Array Value → State → Outcome → State → Prop) (XC : String → State → State → Prop) (mc ms : Nat) (free : Addr → Prop) : Prop :=
  MetFree l y (headSpec ws rm) Pc (fun _ _ _ _ _ => True) (vx_Q Qc XC mc ms free)
def vx_Post (XC : String → State → State → Prop) (mc ms : Nat) (free : Addr → Prop) : Pt → Array Value → Addr → Pt → Prop := fun A a q B =>
  ∃ (g : JFrame) (mk : MethodId) (t : State) (L : List Loc) (E : String) (ce : Cell), B.U.heap = t.heap ∧ B.U.vm = t.vm ∧ XC E (A.U.calling g mk a) t ∧ t.heap[q]? = some ce ∧ ce.vm = .none ∧ A.U.vm.findClass E = some ce.cls ∧ B.locs = A.locs ++ L ∧ (∀ z ∈ L, free z.base) ∧ B.cells = A.cells + mc ∧ B.slots = A.slots + ms
def vx_Back (l : Launch) (R : Room) (p : Program) (e : Env) (below : List Frame) (s : State) (sargs : Array Value) (y : MethodName) (len W9 : Nat)
    (Pre : Pt → Array Value → Prop) (Post : Pt → Array Value → Option Value → Pt → Prop) (PostX : Pt → Array Value → Addr → Pt → Prop) : Prop :=
  ∀ (m : MethodId) (meth : Method) (c : Code) (A : Pt) (g : JFrame) (ig : Instr) (mk : MethodId) (a : Array Value),
    Stand p l e R s m sargs below meth c A.U A.locs A.cells A.slots → g.method = m → g.locals.size = c.maxLocals → decode c.code g.pc = .ok (ig, len) →
    2 * g.monitorRoom + (g.stack.map fun v => v.category).sum ≤ W9 → A.U.methodNamed? y = some mk → Pre A a →
    (∃ (v : Option Value) (B : Pt), Stand p l e R s m sargs below meth c B.U B.locs B.cells B.slots ∧ Post A a v B ∧
      Steps p.tables e below (doInvoke e (A.U.setTop g) [] mk a).1 (B.U.setTop { g with pc := g.pc + len, stack := v.toList ++ g.stack })) ∨
    (∃ (q : Addr) (B : Pt), Stand p l e R s m sargs below meth c B.U B.locs B.cells B.slots ∧ PostX A a q B ∧
      Steps p.tables e below (doInvoke e (A.U.setTop g) [] mk a).1 ((B.U.setTop g).pushFrame (.throwing q)))
section Payer
variable {l : Launch} {R : Room} {p : Program} {e : Env} {below : List Frame} {s : State} {sargs : Array Value} {y : MethodName} {len W9 : Nat}
theorem vx_back {ws : List Cond} {rm : Room} {Pc : Array Value → State → Prop} {Qc : Array Value → State → Outcome → State → Prop} {XC : String → State → State → Prop} {mc ms : Nat} {free : Addr → Prop} {bytes : ByteArray} {maxL : Nat} {ret : Option FieldType}
    (hM : vx_Met l y ws rm Pc Qc XC mc ms free) (hblind : FrameBlind Pc) (hrc : rm.cells = mc) (hrs : rm.slots = ms)
    (hframes : rm.frames + 1 ≤ R.frames) (hlocals : W9 + (maxL + 11) + rm.locals ≤ R.locals)
    (hws : ∀ w ∈ ws, ∀ a' U, s.WarmedH U.vm → w.before a' U = true) (hcode : Cond.code y bytes maxL ret ∈ ws) (hinit : ∀ a' U, s.WarmedH U.vm → (Cond.initialized y.cls).before a' U = true) :
    vx_Back l R p e below s sargs y len W9 (PreOf R mc ms Pc) (PostOf Qc mc ms free) (vx_Post XC mc ms free) := by
  intro m meth c A g ig mk a X hg hsize hdg hW hn hp
  have h1 : (headSpec ws rm).pre.before a A.U = true := atoms_intro fun w hw => hws w hw _ _ X.warmed
  have h2 : (Cond.code y bytes maxL ret).before a A.U = true := hws _ hcode _ _ X.warmed
  have h3 : (Cond.initialized y.cls).before a A.U = true := hinit _ _ X.warmed
  have h4 : A.cells + (headSpec ws rm).room.cells ≤ R.cells := by rw [show (headSpec ws rm).room.cells = mc from hrc]; exact hp.1
  have h5 : A.slots + (headSpec ws rm).room.slots ≤ R.slots := by rw [show (headSpec ws rm).room.slots = ms from hrs]; exact hp.2.1
  have hPc : Pc a (A.U.calling g mk a) := hblind _ _ _ _ hp.2.2
  obtain ⟨U, Ls, c0, s0⟩ := A
  dsimp only [Pt.U, Pt.locs, Pt.cells, Pt.slots] at h1 h2 h3 h4 h5 X hn hPc ⊢
  obtain ⟨methY, cY, hmY, hcY, -, hlY, -, -, -, -⟩ := Cond.code_spec hn h2
  obtain ⟨kY, hkY, -⟩ := className_of_methodNamed hn
  have hinitY : kY.init = .initialized := Cond.initialized_spec (findClass_of_methodNamed hn) hkY h3
  have h : At U g.method c below := by rw [hg]; exact X.here
  have hlocals9 : W9 + (maxL + 11) + (headSpec ws rm).room.locals ≤ R.locals := hlocals
  have happ : (headSpec ws rm).appliesLoose y e.platform (U.calling g mk a) = true :=
    Spec.appliesLoose_calling (g := g) h hdg hn hkY hinitY
      (X.room_calling (g := g) (R' := (headSpec ws rm).room) hsize hmY hcY hframes (by rw [hlY]; omega) h4 h5) h1
  obtain ⟨mid, hmid⟩ := h.above
  have hfr : (U.setTop g).frames = (.java g :: mid) ++ below := by rw [State.frames_setTop' g h.top, hmid]; rfl
  obtain ⟨o, s₂, hsteps, -, hend, hq⟩ := Steps.callFree hM p X.admits X.cas X.clock (acts := []) hfr happ hPc trivial
  have hq' : vx_Q Qc XC mc ms free a (U.calling g mk a) o s₂ := hq
  rw [State.frames_setTop' g h.top] at hend
  obtain ⟨g₀, hg0⟩ := Option.isSome_iff_exists.mp h.top
  obtain ⟨r, hr⟩ := State.topJava?_eq_some.mp hg0
  have hr' : (({ U with heap := s₂.heap, slotsUsed := s₂.slotsUsed } : State).setVm s₂.vm).frames = .java g₀ :: r := hr
  rcases hq' with ⟨hqc, L, hfe, hL⟩ | ⟨q, rfl, E, ce, L, hx, hce, hcv, hcl, hW₂, hsm, hL⟩
  · obtain ⟨⟨v, rfl⟩, hW₂, e2, q2, q3, q4, q5, q6⟩ := id hfe
    have e3 : s₂ = ({ (U.calling g mk a).setFrames s₂.frames with heap := s₂.heap, slotsUsed := s₂.slotsUsed } : State).setVm s₂.vm := by
      have : s₂ = ({ s₂ with vm := (U.calling g mk a).vm } : State).setVm s₂.vm := rfl
      rw [e2] at this
      exact this
    obtain ⟨c₂, i₂, len₂, hc₂, hd₂, hf₂⟩ := hend
    have hW' : U.WarmedH s₂.vm := hW₂
    have hcc : c₂ = c := by
      have h1 : s₂.code? g.method = U.code? g.method := by
        rw [State.code?_eq, State.code?_eq, hW'.alike.method?]
      exact Option.some.inj (hc₂.symm.trans (h1.trans h.code))
    subst hcc
    have hlen : len₂ = len := by rw [hdg] at hd₂; cases hd₂; rfl
    subst hlen
    have hs₂ : s₂ = (({ U with heap := s₂.heap, slotsUsed := s₂.slotsUsed } : State).setVm s₂.vm).setTop { g with pc := g.pc + len₂, stack := v.toList ++ g.stack } := by
      refine e3.trans ?_
      rw [hf₂, State.calling_eq h.top, State.setFrames_setFrames, State.setTop_of_frames _ hr', hr]
      rfl
    have hsame : U.sameButNew ({ U with heap := s₂.heap, slotsUsed := s₂.slotsUsed } : State) L mc ms := by
      refine ⟨?_, q2, q3, q4, q5, q6⟩
      obtain ⟨t, ht, -⟩ := State.frames_cons hr
      show ({ U with heap := s₂.heap, slotsUsed := s₂.slotsUsed } : State) = { U.setFrames U.frames with heap := s₂.heap, slotsUsed := s₂.slotsUsed }
      rw [State.setFrames_self ht]
    subst hg
    refine Or.inl ⟨v, ⟨(({ U with heap := s₂.heap, slotsUsed := s₂.slotsUsed } : State).setVm s₂.vm), Ls ++ L, c0 + mc, s0 + ms⟩,
      ⟨X.admits, X.cas, X.clock, X.frames, X.room, X.hears, X.method, X.code, (X.here.setHeapUsed s₂.heap s₂.slotsUsed).setVm hW'.alike, X.tail, State.WarmedH.trans X.warmed hW', X.limits, X.bytes, X.same.trans (hsame.setVm s.vm)⟩,
      ⟨g, mk, s₂, L, rfl, rfl, hqc, rfl, hL, rfl, rfl⟩, ?_⟩
    show Steps p.tables e below _ ((({ U with heap := s₂.heap, slotsUsed := s₂.slotsUsed } : State).setVm s₂.vm).setTop { g with pc := g.pc + len₂, stack := v.toList ++ g.stack })
    rw [← hs₂]
    exact hsteps
  · obtain ⟨e2, q2, q3, q4, q5, q6⟩ := id hsm
    have e3 : s₂ = ({ (U.calling g mk a).setFrames s₂.frames with heap := s₂.heap, slotsUsed := s₂.slotsUsed } : State).setVm s₂.vm := by
      have : s₂ = ({ s₂ with vm := (U.calling g mk a).vm } : State).setVm s₂.vm := rfl
      rw [e2] at this
      exact this
    have hf₂ : s₂.frames = .throwing q :: .java g :: U.frames.tail := hend
    have hW' : U.WarmedH s₂.vm := hW₂
    have hs₂ : s₂ = ((({ U with heap := s₂.heap, slotsUsed := s₂.slotsUsed } : State).setVm s₂.vm).setTop g).pushFrame (.throwing q) := by
      refine e3.trans ?_
      rw [hf₂, State.calling_eq h.top, State.setFrames_setFrames, State.pushFrame, State.frames_setTop _ hr', State.setTop_of_frames _ hr', State.setFrames_setFrames, hr]
      rfl
    have hsame : U.sameButNew ({ U with heap := s₂.heap, slotsUsed := s₂.slotsUsed } : State) L mc ms := by
      refine ⟨?_, q2, q3, q4, q5, q6⟩
      obtain ⟨t, ht, -⟩ := State.frames_cons hr
      show ({ U with heap := s₂.heap, slotsUsed := s₂.slotsUsed } : State) = { U.setFrames U.frames with heap := s₂.heap, slotsUsed := s₂.slotsUsed }
      rw [State.setFrames_self ht]
    subst hg
    refine Or.inr ⟨q, ⟨(({ U with heap := s₂.heap, slotsUsed := s₂.slotsUsed } : State).setVm s₂.vm), Ls ++ L, c0 + mc, s0 + ms⟩,
      ⟨X.admits, X.cas, X.clock, X.frames, X.room, X.hears, X.method, X.code, (X.here.setHeapUsed s₂.heap s₂.slotsUsed).setVm hW'.alike, X.tail, State.WarmedH.trans X.warmed hW', X.limits, X.bytes, X.same.trans (hsame.setVm s.vm)⟩,
      ⟨g, mk, s₂, L, E, ce, rfl, rfl, hx, hce, hcv, hcl, rfl, hL, rfl, rfl⟩, ?_⟩
    show Steps p.tables e below _ (((({ U with heap := s₂.heap, slotsUsed := s₂.slotsUsed } : State).setVm s₂.vm).setTop g).pushFrame (.throwing q))
    rw [← hs₂]
    exact hsteps
end Payer
section Calls
variable {p : Program} {l : Launch} {e : Env} {R : Room} {s : State} {m : MethodId} {args : Array Value} {below : List Frame} {meth : Method} {c : Code} {T : State} {locs : List Loc} {cells slots : Nat}
theorem vx_callV (X : Stand p l e R s m args below meth c T locs cells slots) (hexec : p.tables.exec = Jvm.exec) {own C : String} {index : Nat} {y : MethodName} {bytes : ByteArray} {maxL : Nat} {ret : Option FieldType}
    (hown : s.vm.findClass own = some m.cls) (hlink : (Cond.methodLink own index y).before args s = true) (hinst : (Cond.instanceMethod y).before args s = true) (hsel : (Cond.selects C y y).before args s = true)
    (hcode : (Cond.code y bytes maxL ret).before args s = true) (hy : y.cls ≠ "java/lang/invoke/MethodHandle" ∧ y.cls ≠ "java/lang/invoke/VarHandle")
    {W9 : Nat} {Pre : Pt → Array Value → Prop} {Post : Pt → Array Value → Option Value → Pt → Prop} {PostX : Pt → Array Value → Addr → Pt → Prop} (hK : vx_Back l R p e below s args y 3 W9 Pre Post PostX)
    {b : Addr} {cellB : Cell} (hcell : T.heap[b]? = some cellB) (hobj : cellB.vm.isStatics = false) (hcls : s.vm.findClass C = some cellB.cls)
    {g : JFrame} (hg : g.method = m) (hsize : g.locals.size = c.maxLocals) {argsL rest : List Value} (hlen : ∀ sig, parseMethodDescriptor y.desc = some sig → argsL.length = sig.parameters.length)
    (hstack : g.stack = argsL.reverse ++ .ref b :: rest) (hW : 2 * g.monitorRoom + (rest.map fun v => v.category).sum ≤ W9) (hdg : decode c.code g.pc = .ok (.invokevirtual index, 3))
    (hpre : ∀ vm₁, s.WarmedH vm₁ → Pre ⟨T.setVm vm₁, locs, cells, slots⟩ (Value.ref b :: argsL).toArray) :
    (∃ (v : Option Value) (vm₁ : Vm) (B : Pt), s.WarmedH vm₁ ∧ Stand p l e R s m args below meth c B.U B.locs B.cells B.slots ∧ Post ⟨T.setVm vm₁, locs, cells, slots⟩ (Value.ref b :: argsL).toArray v B ∧
      ∀ target, Steps p.tables e below (B.U.setTop { g with pc := g.pc + 3, stack := v.toList ++ rest }) target → Steps p.tables e below (T.setTop g) target) ∨
    (∃ (q : Addr) (vm₁ : Vm) (B : Pt), s.WarmedH vm₁ ∧ Stand p l e R s m args below meth c B.U B.locs B.cells B.slots ∧ PostX ⟨T.setVm vm₁, locs, cells, slots⟩ (Value.ref b :: argsL).toArray q B ∧
      Steps p.tables e below (T.setTop g) ((B.U.setTop { g with stack := rest }).pushFrame (.throwing q))) := by
  obtain ⟨mk, methM, hnamed, hmethM, hstM, habM⟩ := Cond.instanceMethod_spec hinst
  obtain ⟨methM', cM, hmethM', -, -, -, -, -, -, hsigM⟩ := Cond.code_spec hnamed hcode
  cases hmethM.symm.trans hmethM'
  obtain ⟨c2, r2, m2, q1, q2, q3, q4, kP, hkP, hkPi⟩ := Cond.selects_spec hsel
  cases hcls.symm.trans q1
  cases (State.methodFound?_of_named hnamed hy).symm.trans q2
  cases hnamed.symm.trans q3
  have hselP : selectMethod e.platform s.vm cellB.cls mk = .method mk := by rw [Launch.admits_selectMethod X.admits]; exact q4
  obtain ⟨vm₁, X₁, hstep₁⟩ := X.invokevirtual hexec hown hlink hnamed hmethM hstM hkP hkPi hy (a := b) (cell := cellB) hcell
    (fun z h => by rw [h] at hobj; cases hobj) hselP hmethM habM hkP hkPi (g := g) hg (argsL := argsL) (rest := rest) (hlen _ hsigM) hstack hdg
  rcases hK m meth c ⟨T.setVm vm₁, locs, cells, slots⟩ { g with stack := rest } (.invokevirtual index) mk (Value.ref b :: argsL).toArray X₁ hg hsize hdg hW (X₁.named hnamed) (hpre vm₁ X₁.warmed) with ⟨v, B, X', hpost, hsteps⟩ | ⟨q, B, X', hpost, hsteps⟩
  · exact Or.inl ⟨v, vm₁, B, X₁.warmed, X', hpost, fun target h => hstep₁ _ fun acts => by rw [doInvoke_state]; exact hsteps.trans h⟩
  · exact Or.inr ⟨q, vm₁, B, X₁.warmed, X', hpost, hstep₁ _ fun acts => by rw [doInvoke_state]; exact hsteps⟩
theorem vx_callS (X : Stand p l e R s m args below meth c T locs cells slots) (hexec : p.tables.exec = Jvm.exec) {own : String} {index : Nat} {y : MethodName} {bytes : ByteArray} {maxL : Nat} {ret : Option FieldType}
    (hown : s.vm.findClass own = some m.cls) (hlink : (Cond.methodLink own index y).before args s = true) (hstat : (Cond.static y).before args s = true) (hinit : (Cond.initialized y.cls).before args s = true)
    (hcode : (Cond.code y bytes maxL ret).before args s = true) (hy : y.cls ≠ "java/lang/invoke/MethodHandle" ∧ y.cls ≠ "java/lang/invoke/VarHandle")
    {W9 : Nat} {Pre : Pt → Array Value → Prop} {Post : Pt → Array Value → Option Value → Pt → Prop} {PostX : Pt → Array Value → Addr → Pt → Prop} (hK : vx_Back l R p e below s args y 3 W9 Pre Post PostX)
    {g : JFrame} (hg : g.method = m) (hsize : g.locals.size = c.maxLocals) {argsL rest : List Value} (hlen : ∀ sig, parseMethodDescriptor y.desc = some sig → argsL.length = sig.parameters.length)
    (hstack : g.stack = argsL.reverse ++ rest) (hW : 2 * g.monitorRoom + (rest.map fun v => v.category).sum ≤ W9) (hdg : decode c.code g.pc = .ok (.invokestatic index, 3))
    (hpre : ∀ vm₁, s.WarmedH vm₁ → Pre ⟨T.setVm vm₁, locs, cells, slots⟩ argsL.toArray) :
    (∃ (v : Option Value) (vm₁ : Vm) (B : Pt), s.WarmedH vm₁ ∧ Stand p l e R s m args below meth c B.U B.locs B.cells B.slots ∧ Post ⟨T.setVm vm₁, locs, cells, slots⟩ argsL.toArray v B ∧
      ∀ target, Steps p.tables e below (B.U.setTop { g with pc := g.pc + 3, stack := v.toList ++ rest }) target → Steps p.tables e below (T.setTop g) target) ∨
    (∃ (q : Addr) (vm₁ : Vm) (B : Pt), s.WarmedH vm₁ ∧ Stand p l e R s m args below meth c B.U B.locs B.cells B.slots ∧ PostX ⟨T.setVm vm₁, locs, cells, slots⟩ argsL.toArray q B ∧
      Steps p.tables e below (T.setTop g) ((B.U.setTop { g with stack := rest }).pushFrame (.throwing q))) := by
  obtain ⟨mk, hnamed⟩ := Cond.code_named hcode
  obtain ⟨methM, cM, hmethM, -, -, -, -, -, -, hsigM⟩ := Cond.code_spec hnamed hcode
  have hstatic : methM.isStatic = true := Cond.static_spec hnamed hmethM hstat
  obtain ⟨kP, hkP, -⟩ := className_of_methodNamed hnamed
  have hinitP : kP.init = .initialized := Cond.initialized_spec (findClass_of_methodNamed hnamed) hkP hinit
  obtain ⟨vm₁, X₁, hstep₁⟩ := X.invokestatic hexec hown hlink hnamed hmethM hstatic hkP hinitP hy (g := g) hg (argsL := argsL) (rest := rest) (hlen _ hsigM) hstack hdg
  rcases hK m meth c ⟨T.setVm vm₁, locs, cells, slots⟩ { g with stack := rest } (.invokestatic index) mk argsL.toArray X₁ hg hsize hdg hW (X₁.named hnamed) (hpre vm₁ X₁.warmed) with ⟨v, B, X', hpost, hsteps⟩ | ⟨q, B, X', hpost, hsteps⟩
  · exact Or.inl ⟨v, vm₁, B, X₁.warmed, X', hpost, fun target h => hstep₁ _ fun acts => by rw [doInvoke_state]; exact hsteps.trans h⟩
  · exact Or.inr ⟨q, vm₁, B, X₁.warmed, X', hpost, hstep₁ _ fun acts => by rw [doInvoke_state]; exact hsteps⟩
end Calls
theorem vx_cls {s : State} {T : State} {vm₁ : Vm} {E : String} {k : ClassId} (hW : s.WarmedH vm₁) (h : (T.setVm vm₁).vm.findClass E = some k) : s.vm.findClass E = some k := by
  have h1 : vm₁.findClass E = some k := h
  rw [hW.alike.findClass] at h1
  exact h1
/-- the method's frame g, with q thrown over it -/
def vx_W (p : Program) (l : Launch) (e : Env) (R : Room) (s : State) (m : MethodId) (args : Array Value) (below : List Frame) (meth : Method) (c : Code) (H : Heap) (locs : List Loc) (cells slots : Nat) (Q : State → Prop) (g : JFrame) (q : Addr) : Prop :=
  ∀ T : State, T.heap = H → Stand p l e R s m args below meth c T locs cells slots → ∃ t, Steps p.tables e below ((T.setTop g).pushFrame (.throwing q)) t ∧ Q t
def vx_Run (p : Program) (l : Launch) (e : Env) (R : Room) (s : State) (m : MethodId) (args : Array Value) (below : List Frame) (meth : Method) (c : Code) (H : Heap) (locs : List Loc) (cells slots mc ms : Nat) (g : JFrame) (rest : List Value) (Qa : State → Outcome → State → Prop) (XC : String → State → State → Prop) (free : Addr → Prop) : Prop :=
  ∀ T : State, T.heap = H → Stand p l e R s m args below meth c T locs cells slots →
    (∃ (v : Option Value) (st₀ t T' : State) (L : List Loc), st₀.heap = H ∧ Stand p l e R s m args below meth c T' (locs ++ L) (cells + mc) (slots + ms) ∧ (∀ q ∈ L, free q.base) ∧ T'.heap = t.heap ∧ T'.vm = t.vm ∧ Qa st₀ (.returned v) t ∧
      Goes p e below T g T' { g with pc := g.pc + 3, stack := v.toList ++ rest }) ∨
    (∃ (q : Addr) (st₀ t T' : State) (L : List Loc) (E : String) (ce : Cell), st₀.heap = H ∧ Stand p l e R s m args below meth c T' (locs ++ L) (cells + mc) (slots + ms) ∧ (∀ z ∈ L, free z.base) ∧ T'.heap = t.heap ∧ T'.vm = t.vm ∧ XC E st₀ t ∧ t.heap[q]? = some ce ∧ ce.vm = .none ∧ s.vm.findClass E = some ce.cls ∧
      Steps p.tables e below (T.setTop g) ((T'.setTop { g with stack := rest }).pushFrame (.throwing q)))
def vx_X {S : Type} (px : S → Prop) (B : String → S → State → Prop) (A : Nat → Prop) : String → State → State → Prop := fun E st t => ∃ u : S, px u ∧ B E u t ∧ va_F A st t
section Runs
variable {p : Program} {l : Launch} {e : Env} {R : Room} {s : State} {m : MethodId} {args : Array Value} {below : List Frame} {meth : Method} {c : Code} {H : Heap} {locs : List Loc} {cells slots : Nat}
variable {y : MethodName} {bytes cc : ByteArray} {maxL nL mc ms n index : Nat} {ret : Option FieldType} {ws : List Cond} {rm : Room} {Pc : Array Value → State → Prop} {Qc : Array Value → State → Outcome → State → Prop} {XC : String → State → State → Prop} {free : Addr → Prop} {Ts : List Cond} {own C : String} {b : Addr} {As rest : List Value} {g : JFrame}
theorem vx_callBack (cb : CallB R s args own index y bytes maxL ret ws rm mc ms n) (hM : vx_Met l y ws rm Pc Qc XC mc ms free) (hbl : FrameBlind Pc) : vx_Back l R p e below s args y 3 8 (PreOf R mc ms Pc) (PostOf Qc mc ms free) (vx_Post XC mc ms free) := by
  obtain ⟨hrc, hrs, hfr, hlo, hws, hcw, -, hini, -⟩ := cb
  exact vx_back (bytes := bytes) (maxL := maxL) (ret := ret) hM hbl hrc hrs hfr hlo hws hcw (fun a' U hW => word_at hW (Or.inl (by first | rfl | simp [Cond.onTables, Cond.keeps, Cond.steady])) hini)
theorem vx_runV (S : CallFix p m c cc nL s args Ts own) (hM : vx_Met l y ws rm Pc Qc XC mc ms free) (cw : CallW R s args own C index y bytes maxL ret ws rm mc ms n) (hp : PreV s H C b Pc As)
    (hg : g.method = m) (hn : As.length = n) (hsize : g.locals.size = nL) (hstack : g.stack = As.reverse ++ .ref b :: rest) (hW : 2 * g.monitorRoom + (rest.map fun v => v.category).sum ≤ 8) (hdg : decode cc g.pc = .ok (.invokevirtual index, 3)) (hf : cells + mc ≤ R.cells ∧ slots + ms ≤ R.slots) :
    vx_Run p l e R s m args below meth c H locs cells slots mc ms g rest (Qc (Value.ref b :: As).toArray) XC free := by
  have hK : vx_Back l R p e below s args y 3 8 (PreOf R mc ms Pc) (PostOf Qc mc ms free) (vx_Post XC mc ms free) := vx_callBack cw.1 hM hp.1
  obtain ⟨⟨-, -, -, -, -, -, hcode, -, hy, hlen, hl⟩, hin, hse⟩ := cw
  obtain ⟨hx, hb, hml, ho, -⟩ := S
  obtain ⟨-, ⟨cellB, hcB, hoB, hclB⟩, hPc⟩ := hp
  intro T hT X
  rcases vx_callV X hx (C := C) (bytes := bytes) (maxL := maxL) (ret := ret) ho hl hin hse hcode hy hK (by rw [hT]; exact hcB) hoB hclB hg (hsize.trans hml.symm) (argsL := As) (rest := rest) (fun sig h => hn.trans (hlen sig h)) hstack hW (by rw [hb]; exact hdg)
    (fun vm₁ hW₁ => ⟨hf.1, hf.2, hPc (T.setVm vm₁) hT hW₁⟩) with ⟨v, vm₁, ⟨U', l2, c2, s2⟩, hW₁, X', ⟨g', mk, t, L, e1, e2, hq, h1, hL, h2, h3⟩, st⟩ | ⟨q, vm₁, ⟨U', l2, c2, s2⟩, hW₁, X', ⟨g', mk, t, L, E, ce, e1, e2, hq, hce, hcv, hcl, h1, hL, h2, h3⟩, st⟩
  · dsimp only [Pt.U, Pt.locs, Pt.cells, Pt.slots] at X' e1 e2 h1 h2 h3 st
    subst h1; subst h2; subst h3
    exact Or.inl ⟨v, (T.setVm vm₁).calling g' mk (Value.ref b :: As).toArray, t, U', L, hT, X', hL, e1, e2, hq, st⟩
  · dsimp only [Pt.U, Pt.locs, Pt.cells, Pt.slots] at X' e1 e2 h1 h2 h3 st hcl
    subst h1; subst h2; subst h3
    exact Or.inr ⟨q, (T.setVm vm₁).calling g' mk (Value.ref b :: As).toArray, t, U', L, E, ce, hT, X', hL, e1, e2, hq, hce, hcv, vx_cls hW₁ hcl, st⟩
theorem vx_runS (S : CallFix p m c cc nL s args Ts own) (hM : vx_Met l y ws rm Pc Qc XC mc ms free) (cw : CallB R s args own index y bytes maxL ret ws rm mc ms n ∧ (Cond.static y).before args s = true) (hp : PreS s H Pc As)
    (hg : g.method = m) (hn : As.length = n) (hsize : g.locals.size = nL) (hstack : g.stack = As.reverse ++ rest) (hW : 2 * g.monitorRoom + (rest.map fun v => v.category).sum ≤ 8) (hdg : decode cc g.pc = .ok (.invokestatic index, 3)) (hf : cells + mc ≤ R.cells ∧ slots + ms ≤ R.slots) :
    vx_Run p l e R s m args below meth c H locs cells slots mc ms g rest (Qc As.toArray) XC free := by
  have hK : vx_Back l R p e below s args y 3 8 (PreOf R mc ms Pc) (PostOf Qc mc ms free) (vx_Post XC mc ms free) := vx_callBack cw.1 hM hp.1
  obtain ⟨⟨-, -, -, -, -, -, hcode, hini, hy, hlen, hl⟩, hstt⟩ := cw
  obtain ⟨hx, hb, hml, ho, -⟩ := S
  intro T hT X
  rcases vx_callS X hx (bytes := bytes) (maxL := maxL) (ret := ret) ho hl hstt hini hcode hy hK hg (hsize.trans hml.symm) (argsL := As) (rest := rest) (fun sig h => hn.trans (hlen sig h)) hstack hW (by rw [hb]; exact hdg)
    (fun vm₁ hW₁ => ⟨hf.1, hf.2, hp.2 (T.setVm vm₁) hT hW₁⟩) with ⟨v, vm₁, ⟨U', l2, c2, s2⟩, hW₁, X', ⟨g', mk, t, L, e1, e2, hq, h1, hL, h2, h3⟩, st⟩ | ⟨q, vm₁, ⟨U', l2, c2, s2⟩, hW₁, X', ⟨g', mk, t, L, E, ce, e1, e2, hq, hce, hcv, hcl, h1, hL, h2, h3⟩, st⟩
  · dsimp only [Pt.U, Pt.locs, Pt.cells, Pt.slots] at X' e1 e2 h1 h2 h3 st
    subst h1; subst h2; subst h3
    exact Or.inl ⟨v, (T.setVm vm₁).calling g' mk As.toArray, t, U', L, hT, X', hL, e1, e2, hq, st⟩
  · dsimp only [Pt.U, Pt.locs, Pt.cells, Pt.slots] at X' e1 e2 h1 h2 h3 st hcl
    subst h1; subst h2; subst h3
    exact Or.inr ⟨q, (T.setVm vm₁).calling g' mk As.toArray, t, U', L, E, ce, hT, X', hL, e1, e2, hq, hce, hcv, vx_cls hW₁ hcl, st⟩
end Runs
section Rows
variable {p : Program} {l : Launch} {e : Env} {R : Room} {s : State} {m : MethodId} {args : Array Value} {below : List Frame} {meth : Method} {c : Code} {H : Heap} {locs : List Loc} {cells slots : Nat} {Q : State → Prop}
variable {mc ms : Nat} {free : Addr → Prop} {A0 A1 : Nat → Prop} {H0 : Heap} {a : Array Value} {pc : Nat} {ls : Array Slot} {st0 rest : List Value}
theorem vx_keep {st₀ t T' : State} {L : List Loc} (h0 : st₀.heap = H) (e1 : T'.heap = t.heap) (hS : va_S A0 H0 H locs) (hA : ∀ q, q < H.size → A1 q → A0 q) (hf : ∀ q, free q → A0 q) (hL : ∀ q ∈ L, free q.base) (hF : va_F A1 st₀ t) :
    H.size ≤ T'.heap.size ∧ (∀ q : Nat, q < H.size → ¬ A1 q → T'.heap[q]? = H[q]?) ∧ va_S A0 H0 T'.heap (locs ++ L) := by
  obtain ⟨hz, hk⟩ := hF
  rw [h0] at hz hk
  exact ⟨by rw [e1]; exact hz, fun q h1 h2 => by rw [e1]; exact hk q h1 h2,
    ⟨Nat.le_trans hS.1 (by rw [e1]; exact hz), fun q h1 h2 => by rw [e1, hk q (Nat.lt_of_lt_of_le h1 hS.1) (fun z => h2 (hA q (Nat.lt_of_lt_of_le h1 hS.1) z))]; exact hS.2.1 q h1 h2, fun q hq => by
      rcases List.mem_append.mp hq with h | h
      · exact hS.2.2 q h
      · exact hf _ (hL q h)⟩⟩
theorem vx_calli {S SX : Type} {post : Int32 → S → Prop} {px : SX → Prop} {B : S → State → Prop} {BX : String → SX → State → Prop} {AX : Nat → Prop} (hr : vx_Run p l e R s m args below meth c H locs cells slots mc ms (F0 m pc ls st0) rest (va_Qi post B A1 a) (vx_X px BX AX) free) (hS : va_S A0 H0 H locs) (hA : ∀ q, q < H.size → A1 q → A0 q) (hf : ∀ q, free q → A0 q) (hAX : ∀ q, q < H.size → AX q → A0 q)
    (kx : ∀ (E : String) (ce : Cell) (q9 : Addr) (u : SX) (t : State) (H1 : Heap) (locs1 : List Loc), t.heap = H1 → s.vm.Alike t.vm → px u → BX E u t → H.size ≤ H1.size → (∀ q : Nat, q < H.size → ¬ AX q → H1[q]? = H[q]?) → va_S A0 H0 H1 locs1 → H1[q9]? = some ce → ce.vm = .none → s.vm.findClass E = some ce.cls → vx_W p l e R s m args below meth c H1 locs1 (cells + mc) (slots + ms) Q (F0 m pc ls rest) q9)
    (kk : ∀ (r : Int32) (u : S) (t : State) (H1 : Heap) (locs1 : List Loc), t.heap = H1 → s.vm.Alike t.vm → post r u → B u t → H.size ≤ H1.size → (∀ q : Nat, q < H.size → ¬ A1 q → H1[q]? = H[q]?) → va_S A0 H0 H1 locs1 → W p l e R s m args below meth c H1 locs1 (cells + mc) (slots + ms) Q (F0 m (pc + 3) ls (.int r :: rest))) : W p l e R s m args below meth c H locs cells slots Q (F0 m pc ls st0) := by
  intro T hT X
  rcases hr T hT X with ⟨v, st₀, t, T', L, h0, X', hL, e1, e2, ⟨⟨r, u, hv, hp, hb⟩, hF⟩, st⟩ | ⟨q, st₀, t, T', L, E, ce, h0, X', hL, e1, e2, ⟨u, hp, hb, hF⟩, hce, hcv, hcl, st⟩
  · cases hv
    obtain ⟨k1, k2, k3⟩ := vx_keep h0 e1 hS hA hf hL hF
    obtain ⟨t2, a1, b1⟩ := kk r u t T'.heap (locs ++ L) e1.symm (by rw [← e2]; exact X'.warmed.alike) hp hb k1 k2 k3 T' rfl X'
    exact ⟨t2, st t2 a1, b1⟩
  · obtain ⟨k1, k2, k3⟩ := vx_keep h0 e1 hS hAX hf hL hF
    obtain ⟨t2, a1, b1⟩ := kx E ce q u t T'.heap (locs ++ L) e1.symm (by rw [← e2]; exact X'.warmed.alike) hp hb k1 k2 k3 (by rw [e1]; exact hce) hcv hcl T' rfl X'
    exact ⟨t2, st.trans a1, b1⟩
theorem vx_calll {S SX : Type} {post : Int64 → S → Prop} {px : SX → Prop} {B : S → State → Prop} {BX : String → SX → State → Prop} {AX : Nat → Prop} (hr : vx_Run p l e R s m args below meth c H locs cells slots mc ms (F0 m pc ls st0) rest (va_Ql post B A1 a) (vx_X px BX AX) free) (hS : va_S A0 H0 H locs) (hA : ∀ q, q < H.size → A1 q → A0 q) (hf : ∀ q, free q → A0 q) (hAX : ∀ q, q < H.size → AX q → A0 q)
    (kx : ∀ (E : String) (ce : Cell) (q9 : Addr) (u : SX) (t : State) (H1 : Heap) (locs1 : List Loc), t.heap = H1 → s.vm.Alike t.vm → px u → BX E u t → H.size ≤ H1.size → (∀ q : Nat, q < H.size → ¬ AX q → H1[q]? = H[q]?) → va_S A0 H0 H1 locs1 → H1[q9]? = some ce → ce.vm = .none → s.vm.findClass E = some ce.cls → vx_W p l e R s m args below meth c H1 locs1 (cells + mc) (slots + ms) Q (F0 m pc ls rest) q9)
    (kk : ∀ (r : Int64) (u : S) (t : State) (H1 : Heap) (locs1 : List Loc), t.heap = H1 → s.vm.Alike t.vm → post r u → B u t → H.size ≤ H1.size → (∀ q : Nat, q < H.size → ¬ A1 q → H1[q]? = H[q]?) → va_S A0 H0 H1 locs1 → W p l e R s m args below meth c H1 locs1 (cells + mc) (slots + ms) Q (F0 m (pc + 3) ls (.long r :: rest))) : W p l e R s m args below meth c H locs cells slots Q (F0 m pc ls st0) := by
  intro T hT X
  rcases hr T hT X with ⟨v, st₀, t, T', L, h0, X', hL, e1, e2, ⟨⟨r, u, hv, hp, hb⟩, hF⟩, st⟩ | ⟨q, st₀, t, T', L, E, ce, h0, X', hL, e1, e2, ⟨u, hp, hb, hF⟩, hce, hcv, hcl, st⟩
  · cases hv
    obtain ⟨k1, k2, k3⟩ := vx_keep h0 e1 hS hA hf hL hF
    obtain ⟨t2, a1, b1⟩ := kk r u t T'.heap (locs ++ L) e1.symm (by rw [← e2]; exact X'.warmed.alike) hp hb k1 k2 k3 T' rfl X'
    exact ⟨t2, st t2 a1, b1⟩
  · obtain ⟨k1, k2, k3⟩ := vx_keep h0 e1 hS hAX hf hL hF
    obtain ⟨t2, a1, b1⟩ := kx E ce q u t T'.heap (locs ++ L) e1.symm (by rw [← e2]; exact X'.warmed.alike) hp hb k1 k2 k3 (by rw [e1]; exact hce) hcv hcl T' rfl X'
    exact ⟨t2, st.trans a1, b1⟩
theorem vx_callf {S SX : Type} {post : UInt32 → S → Prop} {px : SX → Prop} {B : S → State → Prop} {BX : String → SX → State → Prop} {AX : Nat → Prop} (hr : vx_Run p l e R s m args below meth c H locs cells slots mc ms (F0 m pc ls st0) rest (va_Qf post B A1 a) (vx_X px BX AX) free) (hS : va_S A0 H0 H locs) (hA : ∀ q, q < H.size → A1 q → A0 q) (hf : ∀ q, free q → A0 q) (hAX : ∀ q, q < H.size → AX q → A0 q)
    (kx : ∀ (E : String) (ce : Cell) (q9 : Addr) (u : SX) (t : State) (H1 : Heap) (locs1 : List Loc), t.heap = H1 → s.vm.Alike t.vm → px u → BX E u t → H.size ≤ H1.size → (∀ q : Nat, q < H.size → ¬ AX q → H1[q]? = H[q]?) → va_S A0 H0 H1 locs1 → H1[q9]? = some ce → ce.vm = .none → s.vm.findClass E = some ce.cls → vx_W p l e R s m args below meth c H1 locs1 (cells + mc) (slots + ms) Q (F0 m pc ls rest) q9)
    (kk : ∀ (r : UInt32) (u : S) (t : State) (H1 : Heap) (locs1 : List Loc), t.heap = H1 → s.vm.Alike t.vm → post r u → B u t → H.size ≤ H1.size → (∀ q : Nat, q < H.size → ¬ A1 q → H1[q]? = H[q]?) → va_S A0 H0 H1 locs1 → W p l e R s m args below meth c H1 locs1 (cells + mc) (slots + ms) Q (F0 m (pc + 3) ls (.float r :: rest))) : W p l e R s m args below meth c H locs cells slots Q (F0 m pc ls st0) := by
  intro T hT X
  rcases hr T hT X with ⟨v, st₀, t, T', L, h0, X', hL, e1, e2, ⟨⟨r, u, hv, hp, hb⟩, hF⟩, st⟩ | ⟨q, st₀, t, T', L, E, ce, h0, X', hL, e1, e2, ⟨u, hp, hb, hF⟩, hce, hcv, hcl, st⟩
  · cases hv
    obtain ⟨k1, k2, k3⟩ := vx_keep h0 e1 hS hA hf hL hF
    obtain ⟨t2, a1, b1⟩ := kk r u t T'.heap (locs ++ L) e1.symm (by rw [← e2]; exact X'.warmed.alike) hp hb k1 k2 k3 T' rfl X'
    exact ⟨t2, st t2 a1, b1⟩
  · obtain ⟨k1, k2, k3⟩ := vx_keep h0 e1 hS hAX hf hL hF
    obtain ⟨t2, a1, b1⟩ := kx E ce q u t T'.heap (locs ++ L) e1.symm (by rw [← e2]; exact X'.warmed.alike) hp hb k1 k2 k3 (by rw [e1]; exact hce) hcv hcl T' rfl X'
    exact ⟨t2, st.trans a1, b1⟩
theorem vx_calld {S SX : Type} {post : UInt64 → S → Prop} {px : SX → Prop} {B : S → State → Prop} {BX : String → SX → State → Prop} {AX : Nat → Prop} (hr : vx_Run p l e R s m args below meth c H locs cells slots mc ms (F0 m pc ls st0) rest (va_Qd post B A1 a) (vx_X px BX AX) free) (hS : va_S A0 H0 H locs) (hA : ∀ q, q < H.size → A1 q → A0 q) (hf : ∀ q, free q → A0 q) (hAX : ∀ q, q < H.size → AX q → A0 q)
    (kx : ∀ (E : String) (ce : Cell) (q9 : Addr) (u : SX) (t : State) (H1 : Heap) (locs1 : List Loc), t.heap = H1 → s.vm.Alike t.vm → px u → BX E u t → H.size ≤ H1.size → (∀ q : Nat, q < H.size → ¬ AX q → H1[q]? = H[q]?) → va_S A0 H0 H1 locs1 → H1[q9]? = some ce → ce.vm = .none → s.vm.findClass E = some ce.cls → vx_W p l e R s m args below meth c H1 locs1 (cells + mc) (slots + ms) Q (F0 m pc ls rest) q9)
    (kk : ∀ (r : UInt64) (u : S) (t : State) (H1 : Heap) (locs1 : List Loc), t.heap = H1 → s.vm.Alike t.vm → post r u → B u t → H.size ≤ H1.size → (∀ q : Nat, q < H.size → ¬ A1 q → H1[q]? = H[q]?) → va_S A0 H0 H1 locs1 → W p l e R s m args below meth c H1 locs1 (cells + mc) (slots + ms) Q (F0 m (pc + 3) ls (.double r :: rest))) : W p l e R s m args below meth c H locs cells slots Q (F0 m pc ls st0) := by
  intro T hT X
  rcases hr T hT X with ⟨v, st₀, t, T', L, h0, X', hL, e1, e2, ⟨⟨r, u, hv, hp, hb⟩, hF⟩, st⟩ | ⟨q, st₀, t, T', L, E, ce, h0, X', hL, e1, e2, ⟨u, hp, hb, hF⟩, hce, hcv, hcl, st⟩
  · cases hv
    obtain ⟨k1, k2, k3⟩ := vx_keep h0 e1 hS hA hf hL hF
    obtain ⟨t2, a1, b1⟩ := kk r u t T'.heap (locs ++ L) e1.symm (by rw [← e2]; exact X'.warmed.alike) hp hb k1 k2 k3 T' rfl X'
    exact ⟨t2, st t2 a1, b1⟩
  · obtain ⟨k1, k2, k3⟩ := vx_keep h0 e1 hS hAX hf hL hF
    obtain ⟨t2, a1, b1⟩ := kx E ce q u t T'.heap (locs ++ L) e1.symm (by rw [← e2]; exact X'.warmed.alike) hp hb k1 k2 k3 (by rw [e1]; exact hce) hcv hcl T' rfl X'
    exact ⟨t2, st.trans a1, b1⟩
theorem vx_callv {S SX : Type} {post : S → Prop} {px : SX → Prop} {B : S → State → Prop} {BX : String → SX → State → Prop} {AX : Nat → Prop} (hr : vx_Run p l e R s m args below meth c H locs cells slots mc ms (F0 m pc ls st0) rest (va_Qv post B A1 a) (vx_X px BX AX) free) (hS : va_S A0 H0 H locs) (hA : ∀ q, q < H.size → A1 q → A0 q) (hf : ∀ q, free q → A0 q) (hAX : ∀ q, q < H.size → AX q → A0 q)
    (kx : ∀ (E : String) (ce : Cell) (q9 : Addr) (u : SX) (t : State) (H1 : Heap) (locs1 : List Loc), t.heap = H1 → s.vm.Alike t.vm → px u → BX E u t → H.size ≤ H1.size → (∀ q : Nat, q < H.size → ¬ AX q → H1[q]? = H[q]?) → va_S A0 H0 H1 locs1 → H1[q9]? = some ce → ce.vm = .none → s.vm.findClass E = some ce.cls → vx_W p l e R s m args below meth c H1 locs1 (cells + mc) (slots + ms) Q (F0 m pc ls rest) q9)
    (kk : ∀ (u : S) (t : State) (H1 : Heap) (locs1 : List Loc), t.heap = H1 → s.vm.Alike t.vm → post u → B u t → H.size ≤ H1.size → (∀ q : Nat, q < H.size → ¬ A1 q → H1[q]? = H[q]?) → va_S A0 H0 H1 locs1 → W p l e R s m args below meth c H1 locs1 (cells + mc) (slots + ms) Q (F0 m (pc + 3) ls (rest))) : W p l e R s m args below meth c H locs cells slots Q (F0 m pc ls st0) := by
  intro T hT X
  rcases hr T hT X with ⟨v, st₀, t, T', L, h0, X', hL, e1, e2, ⟨⟨u, hv, hp, hb⟩, hF⟩, st⟩ | ⟨q, st₀, t, T', L, E, ce, h0, X', hL, e1, e2, ⟨u, hp, hb, hF⟩, hce, hcv, hcl, st⟩
  · cases hv
    obtain ⟨k1, k2, k3⟩ := vx_keep h0 e1 hS hA hf hL hF
    obtain ⟨t2, a1, b1⟩ := kk u t T'.heap (locs ++ L) e1.symm (by rw [← e2]; exact X'.warmed.alike) hp hb k1 k2 k3 T' rfl X'
    exact ⟨t2, st t2 a1, b1⟩
  · obtain ⟨k1, k2, k3⟩ := vx_keep h0 e1 hS hAX hf hL hF
    obtain ⟨t2, a1, b1⟩ := kx E ce q u t T'.heap (locs ++ L) e1.symm (by rw [← e2]; exact X'.warmed.alike) hp hb k1 k2 k3 (by rw [e1]; exact hce) hcv hcl T' rfl X'
    exact ⟨t2, st.trans a1, b1⟩
/-- caught by the row x of this method's table; the rows ahead don't take it -/
theorem vx_catch {own name : String} {E : String} {ce : Cell} {q : Addr} (hown : s.vm.findClass own = some m.cls) (pre : List ExceptionTableEntry) (x : ExceptionTableEntry) (suf : List ExceptionTableEntry) (hsplit : c.exceptionTable.toList = pre ++ x :: suf)
    (hpass : ∀ z ∈ pre, covers z pc = false ∨ (z.catchType ≠ 0 ∧ ∃ nm : String, (Cond.classLink own z.catchType nm).before args s = true ∧ va_Nc E nm s)) (hx : covers x pc = true) (h0 : x.catchType ≠ 0)
    (hlink : (Cond.classLink own x.catchType name).before args s = true) (hcast : (Cond.castable E name).before args s = true) (hcell : H[q]? = some ce) (hv : ce.vm = .none) (hcl : s.vm.findClass E = some ce.cls)
    (kk : W p l e R s m args below meth c H locs cells slots Q (F0 m x.handlerPc ls [.ref q])) : vx_W p l e R s m args below meth c H locs cells slots Q (F0 m pc ls rest) q := by
  intro T hT X
  have hpl : e.platform.magicAccessors = ({} : Platform).magicAccessors := by rw [X.admits.platform]
  obtain ⟨c3, c4, hc3, hc4, hasg⟩ := Cond.castable_spec hcast
  cases Option.some.inj (hc3.symm.trans hcl)
  obtain ⟨c5, hc5, hcl5⟩ := Cond.classLink_spec hown hlink e.platform hpl
  cases Option.some.inj (hc4.symm.trans hc5)
  obtain ⟨vm', X', st⟩ := X.thenCaughtThrough q (g := F0 m pc ls rest) rfl (Steps.refl _) (by rw [hT]; exact hcell) (by rw [hv]; rfl) (by obtain ⟨k9, h9, -⟩ := Vm.findClass_spec hcl; exact ⟨k9, h9⟩) pre x suf hsplit
    (fun z hz => by
      rcases hpass z hz with h | ⟨hz0, nm, hl1, hn1⟩
      · exact Or.inl h
      · obtain ⟨c6, hc6, hcl6⟩ := Cond.classLink_spec hown hl1 e.platform hpl
        obtain ⟨a8, b8, h1, h2, h3⟩ := hn1
        cases Option.some.inj (h1.symm.trans hcl)
        cases Option.some.inj (h2.symm.trans hc6)
        exact Or.inr ⟨hz0, _, hcl6, h3⟩) hx (Or.inr ⟨h0, c4, hcl5, hasg⟩)
  obtain ⟨t, a1, b1⟩ := kk (T.setVm vm') hT X'
  exact ⟨t, st.trans a1, b1⟩
end Rows
section Ends
variable {p : Program} {l : Launch} {e : Env} {R : Room} {s : State} {m : MethodId} {args : Array Value} {below : List Frame} {meth : Method} {c : Code} {H : Heap} {locs : List Loc} {cells slots : Nat} {Q : State → Prop}
variable {mc ms : Nat} {free : Addr → Prop} {A0 A1 : Nat → Prop} {H0 : Heap} {a : Array Value} {ls : Array Slot} {st0 rest : List Value}
variable {Qc : Array Value → State → Outcome → State → Prop} {XC : String → State → State → Prop}
/-- what a body that may throw owes at its end -/
def vx_MQ (below : List Frame) (Qc : Array Value → State → Outcome → State → Prop) (XC : String → State → State → Prop) (a : Array Value) (s : State) (mc ms : Nat) (free : Addr → Prop) : State → Prop := fun t =>
  ∃ o, t.status = .running ∧ Ended t below o ∧ vx_Q Qc XC mc ms free a s o t
theorem vx_ret {g : JFrame} {mc ms : Nat} (k : W p l e R s m args below meth c H locs cells slots (MQ below Qc args s mc ms free) g) : W p l e R s m args below meth c H locs cells slots (vx_MQ below Qc XC args s mc ms free) g := by
  intro T hT X
  obtain ⟨t, a1, o, b1, b2, b3, b4⟩ := k T hT X
  exact ⟨t, a1, o, b1, b2, Or.inl ⟨b3, b4⟩⟩
/-- not caught here: it goes on to the caller -/
theorem vx_widen {g : JFrame} {q : Addr} {k n : Nat} (h1 : cells ≤ k) (h2 : slots ≤ n) (kk : vx_W p l e R s m args below meth c H locs k n Q g q) : vx_W p l e R s m args below meth c H locs cells slots Q g q := fun T hT X => kk T hT (stand_widen X h1 h2)
theorem vx_out {pc : Nat} {E : String} {ce : Cell} {q : Addr} {mc ms : Nat} (hout : ∀ x ∈ c.exceptionTable.toList, covers x pc = false) (hlocks : meth.locks = false) (hcell : H[q]? = some ce) (hv : ce.vm = .none) (hcl : s.vm.findClass E = some ce.cls)
    (hx : ∀ t : State, t.heap = H → s.vm.Alike t.vm → XC E s t) (hf : ∀ z ∈ locs, free z.base) (hc : cells ≤ mc) (hs : slots ≤ ms) :
    vx_W p l e R s m args below meth c H locs cells slots (vx_MQ below Qc XC args s mc ms free) (F0 m pc ls rest) q := by
  intro T hT X
  obtain ⟨st1, hrun, hend, hW, hsm⟩ := X.leaveThrown q (g := F0 m pc ls rest) rfl rfl rfl hout hlocks
  have hcell9 : (T.setFrames (.throwing q :: below)).heap[q]? = some ce := by
    show T.heap[q]? = some ce
    rw [hT]; exact hcell
  exact ⟨_, st1, .threw q, hrun, hend, Or.inr ⟨q, rfl, E, ce, locs, hx _ hT hW.alike, hcell9, hv, hcl, hW, hsm.mono hc hs, hf⟩⟩
theorem vx_frame {U : State} {k n : Nat} (h : s.sameButNew ({ U with vm := s.vm } : State) locs k n) : s.heap.size ≤ U.heap.size ∧ ∀ q : Nat, q < s.heap.size → (∀ z ∈ locs, z.base ≠ q) → U.heap[q]? = s.heap[q]? := by
  obtain ⟨-, h2, -, -, -, h6⟩ := h
  refine ⟨h2, fun q hq hz => ?_⟩
  obtain ⟨c9, e1, e2, e3, e4⟩ := h6 q _ (Array.getElem?_eq_getElem hq)
  have hs : c9.slots = (s.heap[q]).slots := Array.ext_getElem? fun i => e4 i fun hm => hz _ hm rfl
  have h9 : c9 = s.heap[q] := by
    rw [hs] at e2
    exact e2
  have e5 : U.heap[q]? = some c9 := e1
  rw [e5, h9, Array.getElem?_eq_getElem hq]
/-- the words of a throw but the four that speak of the heap -/
def vx_no (w : Cond) : Bool := decide (w ≠ .isRef (.static Bundle.tN "UNASSIGNED_STACK" Bundle.steD)) && decide (w ≠ .isRef (.static Bundle.tN "SUPPRESSED_SENTINEL" Bundle.listD)) && decide (w ≠ .laysStatic Bundle.tN "UNASSIGNED_STACK" Bundle.steD) && decide (w ≠ .laysStatic Bundle.tN "SUPPRESSED_SENTINEL" Bundle.listD)
def vx_at0 (own : String) (ic : Nat) (X : String) (names : List String) : List Cond := (Bundle.ownAtoms0 own ic X names).filter vx_no
def vx_atS (own : String) (ic : Nat) (X : String) (names : List String) : List Cond := (Bundle.ownAtoms own ic X names).filter vx_no
/-- a word that the tables alone decide, or a good one -/
def vx_ot (w : Cond) : Bool := w.onTables || goodWord w
theorem vx_ot_at {args a' : Array Value} {s U : State} {w : Cond} (hW : s.WarmedH U.vm) (hvm : s.vm = U.vm) (hg : vx_ot w = true) (h : w.before args s = true) : w.before a' U = true := by
  simp only [vx_ot, Bool.or_eq_true] at hg
  rcases hg with hg | hg
  · exact va_tabs hg hvm h
  · exact word_at hW (good_of_word hg) h
/-- a list's words: the good ones out of the method's own list, the others by premises of their own -/
theorem vx_hat {args : Array Value} {s : State} {L B : List Cond} (h1 : ∀ w ∈ L.filter goodWord, w.before args s = true) (h2 : ∀ w ∈ L.filter (fun w => !goodWord w), w ∈ B) (h3 : ∀ w ∈ B, w.before args s = true) : ∀ w ∈ L, w.before args s = true := by
  intro w hw
  by_cases g : goodWord w = true
  · exact h1 w (List.mem_filter.mpr ⟨hw, g⟩)
  · refine h3 w (h2 w (List.mem_filter.mpr ⟨hw, ?_⟩))
    show (!goodWord w) = true
    cases hgw : goodWord w
    · rfl
    · exact absurd hgw g
theorem vx_c {args : Array Value} {s : State} {w : Cond} {B : List Cond} (h : w.before args s = true) (t : ∀ w ∈ B, w.before args s = true) : ∀ w' ∈ w :: B, w'.before args s = true := fun w' h' => (List.mem_cons.mp h').elim (fun e => by rw [e]; exact h) (t w')
theorem vx_n {args : Array Value} {s : State} : ∀ w ∈ ([] : List Cond), w.before args s = true := fun _ h => nomatch h
theorem vx_own {args : Array Value} {s : State} {L : List Cond} (h1 : ∀ w ∈ L.filter vx_no, w.before args s = true)
    (hU : (Cond.isRef (.static Bundle.tN "UNASSIGNED_STACK" Bundle.steD)).before args s = true) (hN : (Cond.isRef (.static Bundle.tN "SUPPRESSED_SENTINEL" Bundle.listD)).before args s = true)
    (lU : (Cond.laysStatic Bundle.tN "UNASSIGNED_STACK" Bundle.steD).before args s = true) (lN : (Cond.laysStatic Bundle.tN "SUPPRESSED_SENTINEL" Bundle.listD).before args s = true) : ∀ w ∈ L, w.before args s = true := by
  intro w hw
  by_cases e1 : w = .isRef (.static Bundle.tN "UNASSIGNED_STACK" Bundle.steD)
  · rw [e1]; exact hU
  · by_cases e2 : w = .isRef (.static Bundle.tN "SUPPRESSED_SENTINEL" Bundle.listD)
    · rw [e2]; exact hN
    · by_cases e3 : w = .laysStatic Bundle.tN "UNASSIGNED_STACK" Bundle.steD
      · rw [e3]; exact lU
      · by_cases e4 : w = .laysStatic Bundle.tN "SUPPRESSED_SENTINEL" Bundle.listD
        · rw [e4]; exact lN
        · exact h1 w (List.mem_filter.mpr ⟨hw, by unfold vx_no; rw [decide_eq_true e1, decide_eq_true e2, decide_eq_true e3, decide_eq_true e4]; rfl⟩)
/-- where a static field lies, its class's statics cell in H -/
def vx_L (C n d : String) (A : Nat → Prop) (U : State) (H : Heap) : Prop := ∃ (c : ClassId) (k : Class) (i : Nat) (f : Field) (a : Nat) (cell : Cell), U.vm.findClass C = some c ∧ U.fieldFound? C n d = some (c, k, i, f) ∧ f.isStatic = true ∧ k.statics = some a ∧ H[a]? = some cell ∧ cell.vm.isStatics = true ∧ cell.cls = c ∧ f.slot < cell.slots.size ∧ k.staticTypes[f.slot]? = some f.type ∧ ¬ A a
theorem vx_L.moved {C n d : String} {A : Nat → Prop} {u U : State} {H : Heap} (hvm : u.vm.Alike U.vm) (h : vx_L C n d A u H) : vx_L C n d A U H := by
  obtain ⟨c, k, i, f, a, cell, h1, h2, h3, h4, h5, h6, h7, h8, h9, h10⟩ := h
  obtain ⟨k', hi', he⟩ := State.fieldFound?_setVm hvm h2
  exact ⟨c, k', i, f, a, cell, by rw [hvm.findClass]; exact h1, hi', h3, by rw [he]; exact h4, h5, h6, h7, h8, by rw [he]; exact h9, h10⟩
theorem vx_L.kept {C n d : String} {A : Nat → Prop} {U : State} {H H1 : Heap} (h : vx_L C n d A U H) (hq : ∀ a : Nat, a < H.size → ¬ A a → H1[a]? = H[a]?) : vx_L C n d A U H1 := by
  obtain ⟨c, k, i, f, a, cell, h1, h2, h3, h4, h5, h6, h7, h8, h9, h10⟩ := h
  exact ⟨c, k, i, f, a, cell, h1, h2, h3, h4, by rw [hq a (Array.getElem?_eq_some_iff.mp h5).1 h10]; exact h5, h6, h7, h8, h9, h10⟩
theorem vx_L.narrow {C n d : String} {A B : Nat → Prop} {U : State} {H : Heap} (h : vx_L C n d A U H) (hAB : ∀ q, B q → A q) : vx_L C n d B U H := by
  obtain ⟨c, k, i, f, a, cell, h1, h2, h3, h4, h5, h6, h7, h8, h9, h10⟩ := h
  exact ⟨c, k, i, f, a, cell, h1, h2, h3, h4, h5, h6, h7, h8, h9, fun z => h10 (hAB _ z)⟩
theorem vx_L.word {C n d : String} {A : Nat → Prop} {s : State} {args : Array Value} (h : vx_L C n d A s s.heap) : (Cond.laysStatic C n d).before args s = true := by
  obtain ⟨c, k, i, f, a, cell, h1, h2, h3, h4, h5, h6, h7, h8, h9, -⟩ := h
  show (Cond.laysStatic C n d).holds args s none s [] = true
  exact Cond.laysStatic_of h1 h2 h3 h4 h5 h6 h7 h8 h9
/-- .. and what it holds: null or some reference -/
def vx_Zq (C n d : String) (A : Nat → Prop) (U : State) (H : Heap) : Prop := va_Zq C n d A U H ∧ vx_L C n d A U H
theorem vx_Zq.moved {C n d : String} {A : Nat → Prop} {u U : State} {H : Heap} (hvm : u.vm.Alike U.vm) (h : vx_Zq C n d A u H) : vx_Zq C n d A U H := ⟨va_Zq.moved hvm h.1, vx_L.moved hvm h.2⟩
theorem vx_Zq.kept {C n d : String} {A : Nat → Prop} {U : State} {H H1 : Heap} (h : vx_Zq C n d A U H) (hq : ∀ a : Nat, a < H.size → ¬ A a → H1[a]? = H[a]?) : vx_Zq C n d A U H1 := ⟨va_Zq.kept h.1 hq, vx_L.kept h.2 hq⟩
theorem vx_Zq.narrow {C n d : String} {A B : Nat → Prop} {U : State} {H : Heap} (h : vx_Zq C n d A U H) (hAB : ∀ q, B q → A q) : vx_Zq C n d B U H := ⟨va_Zq.narrow h.1 hAB, vx_L.narrow h.2 hAB⟩
theorem vx_Zqof {args : Array Value} {s : State} {C n d : String} {A : Nat → Prop} (hl : (Cond.laysStatic C n d).before args s = true) (hini : (Cond.initialized C).before args s = true) (h : (Cond.isRef (.static C n d)).before args s = true) (hA : ∀ a : Nat, a < s.heap.size → ¬ A a) : vx_Zq C n d A s s.heap := by
  refine ⟨va_Zqof hl hini h hA, ?_⟩
  obtain ⟨c, k, i, f, a, cell, h1, h2, h3, h4, h5, h6, h7, h8, h9⟩ := Cond.laysStatic_spec hl
  exact ⟨c, k, i, f, a, cell, h1, h2, h3, h4, h5, h6, h7, h8, h9, hA a (Array.getElem?_eq_some_iff.mp h5).1⟩
theorem vx_isRef {C n d : String} {v : Value} {A : Nat → Prop} {s : State} {args : Array Value} (h : va_Z C n d v A s s.heap) (hv : v.isRef = true) : (Cond.isRef (.static C n d)).before args s = true := by
  obtain ⟨cf, kf, fi, f, a, cell, h1, h2, h3, h4, h5, h6, h7, -⟩ := h
  have he : (Term.static C n d).eval args s none [] s = some v := by
    simp [Term.eval, State.fieldNamed?, h1, h2, h4, h5, h6, h7]
  simp only [Cond.before, Cond.holds, Cond.value, he]
  cases v <;> simp_all [Value.isRef]
theorem vx_isRefq {C n d : String} {A : Nat → Prop} {s : State} {args : Array Value} (h : va_Zq C n d A s s.heap) : (Cond.isRef (.static C n d)).before args s = true := by
  rcases h with h | ⟨t, h⟩
  · exact vx_isRef h rfl
  · exact vx_isRef h rfl
/-- the same frame, seen from here: as if the method were called anew in this heap -/
theorem vx_rebase {T : State} (X : Stand p l e R s m args below meth c T locs cells slots) {R' : Room} (hf : R'.frames ≤ R.frames) (hl : R'.locals ≤ R.locals) (hc : cells + R'.cells ≤ R.cells) (hs : slots + R'.slots ≤ R.slots) :
    Stand p l e R' ((T.setVm s.vm).setFrames (.invoking m args :: below)) m args below meth c T [] 0 0 := by
  have htop : (T.setVm s.vm).topJava?.isSome := X.here.top
  have hF : ((T.setVm s.vm).setFrames (.invoking m args :: below)).frames = .invoking m args :: below := State.frames_setFrames _ (State.cur_lt_of_top htop)
  obtain ⟨g₀, hg0⟩ := Option.isSome_iff_exists.mp htop
  obtain ⟨r, hr⟩ := State.topJava?_eq_some.mp hg0
  have hl9 : e.platform.stackLimits (T.setVm s.vm).me = e.platform.stackLimits s.me := X.limits
  have hb9 : (T.setVm s.vm).me.stackBytes = s.me.stackBytes := X.bytes
  refine ⟨X.admits, X.cas, X.clock, hF, ?_, X.hears, X.method, X.code, X.here, X.tail, X.warmed, ?_, ?_, ?_⟩
  · have h := X.room
    have hU : ((T.setVm s.vm).setFrames (.invoking m args :: below)).localsInUse = s.localsInUse := by
      rw [State.localsInUse_invoking hF (meth := meth) (c := c) X.method X.code, State.localsInUse_invoking X.frames X.method X.code]
    simp only [State.hasRoom, Bool.and_eq_true, decide_eq_true_eq] at h ⊢
    obtain ⟨⟨⟨⟨h1, h2, h3, h4, h5, h6⟩, h7⟩, h8⟩, h9⟩ := h
    rw [X.frames, List.length_cons] at h2 h3
    have q1 := X.heapSize
    have q2 := X.used
    simp only [hF, hU, List.length_cons, State.stackLimits_setFrames, State.stackBytes_setFrames, hl9, hb9]
    refine ⟨⟨⟨⟨by omega, by omega, by omega, by omega, by omega, h6⟩, ?_⟩, ?_⟩, X.book⟩
    · show T.heap.size + R'.cells ≤ e.platform.maxCells
      omega
    · show T.slotsUsed + R'.slots ≤ e.platform.maxSlots
      omega
  · rw [State.stackLimits_setFrames]; rfl
  · rw [State.stackBytes_setFrames]; rfl
  · refine ⟨?_, Nat.le_refl _, Nat.le_refl _, ?_, ?_, fun a c9 h9 => ⟨c9, h9, rfl, rfl, fun _ _ => rfl⟩⟩
    · obtain ⟨t, ht, -⟩ := State.frames_cons hr
      show T.setVm s.vm = { ((T.setVm s.vm).setFrames (.invoking m args :: below)).setFrames (T.setVm s.vm).frames with heap := T.heap, slotsUsed := T.slotsUsed }
      rw [State.setFrames_setFrames, State.setFrames_self ht]
      rfl
    · show T.slotsUsed = T.slotsUsed + ((T.heap.toList.drop T.heap.size).map (·.slots.size)).sum
      rw [List.drop_eq_nil_of_le (Nat.le_of_eq Array.length_toList)]
      rfl
    · show ((T.heap.toList.drop T.heap.size).map (·.slots.size)).sum ≤ 0
      rw [List.drop_eq_nil_of_le (Nat.le_of_eq Array.length_toList)]
      exact Nat.le_refl _
/-- 'throw new E()': new; dup; invokespecial; athrow -/
theorem vx_throw0 {cc : ByteArray} {pc : Nat} (hexec : p.tables.exec = Jvm.exec) (hb : c.code = cc) (hl : l.stackTraces = false) {own cls : String} {names : List String} {ik ic mc ms : Nat} {A : Nat → Prop}
    (hown : s.vm.findClass own = some m.cls) (hcls : Bundle.fit cls = true) (hnames : ∀ n ∈ names, Bundle.fit n = true)
    (hk : (Cond.classLink own ik cls).before args s = true) (hini : (Cond.initialized cls).before args s = true) (hat : ∀ w ∈ vx_at0 own ic cls names, w.before args s = true)
    (hgood : ∀ w ∈ Cond.classLink own ik cls :: Cond.initialized cls :: vx_at0 own ic cls names, vx_ot w = true)
    (hU : vx_Zq Bundle.tN "UNASSIGNED_STACK" Bundle.steD A s s.heap) (hN : vx_Zq Bundle.tN "SUPPRESSED_SENTINEL" Bundle.listD A s s.heap) (hS : va_S A s.heap H locs) (hsize : ls.size = c.maxLocals)
    (d0 : decode cc pc = .ok (.new ik, 3)) (d3 : decode cc (pc + 3) = .ok (.dup, 1)) (d4 : decode cc (pc + 4) = .ok (.invokespecial ic, 3)) (d7 : decode cc (pc + 7) = .ok (.athrow, 1))
    (hout : ∀ x ∈ c.exceptionTable.toList, covers x (pc + 7) = false)
    (hRframes : names.length + 3 < R.frames) (hRlocals : (rest.map fun v => v.category).sum + (13 * (names.length + 1) + 42) ≤ R.locals) (hRcells : cells + 1 ≤ R.cells) (hRslots : slots + 6 ≤ R.slots) (hlocks : meth.locks = false)
    (hx : ∀ t : State, s.vm.Alike t.vm → H.size ≤ t.heap.size → (∀ q : Nat, q < H.size → t.heap[q]? = H[q]?) → XC cls s t)
    (hf : ∀ z ∈ locs, free z.base) (hc : cells + 1 ≤ mc) (hs : slots + 6 ≤ ms) :
    W p l e R s m args below meth c H locs cells slots (vx_MQ below Qc XC args s mc ms free) (F0 m pc ls rest) := by
  intro T hT X
  have htr : e.platform.stackTraces = false := (show e.platform.stackTraces = l.stackTraces by rw [X.admits.platform]).trans hl
  have Y := vx_rebase X (R' := { frames := R.frames, locals := R.locals, cells := 1, slots := 6 }) (Nat.le_refl _) (Nat.le_refl _) hRcells hRslots
  obtain ⟨s', hA⟩ : ∃ z, z = (T.setVm s.vm).setFrames (.invoking m args :: below) := ⟨_, rfl⟩
  rw [← hA] at Y
  have hvm : s'.vm = s.vm := by rw [hA]; rfl
  have hhp : s'.heap = H := by rw [hA]; exact hT
  have hW0 : s.WarmedH s'.vm := by rw [hvm]; exact State.WarmedH.refl s
  have hat' : ∀ w ∈ vx_at0 own ic cls names, w.before args s' = true := fun w hw => vx_ot_at hW0 hvm.symm (hgood w (List.mem_cons_of_mem _ (List.mem_cons_of_mem _ hw))) (hat w hw)
  have hk' : (Cond.classLink own ik cls).before args s' = true := vx_ot_at hW0 hvm.symm (hgood _ List.mem_cons_self) hk
  have hini' : (Cond.initialized cls).before args s' = true := vx_ot_at hW0 hvm.symm (hgood _ (List.mem_cons_of_mem _ List.mem_cons_self)) hini
  have hU' : vx_Zq Bundle.tN "UNASSIGNED_STACK" Bundle.steD A s' s'.heap := by rw [hhp]; exact vx_Zq.moved hW0.alike (hU.kept hS.2.1)
  have hN' : vx_Zq Bundle.tN "SUPPRESSED_SENTINEL" Bundle.listD A s' s'.heap := by rw [hhp]; exact vx_Zq.moved hW0.alike (hN.kept hS.2.1)
  have h : ∀ w ∈ Bundle.ownAtoms0 own ic cls names, w.before args s' = true := vx_own hat' (vx_isRefq hU'.1) (vx_isRefq hN'.1) hU'.2.word hN'.2.word
  have hown' : s'.vm.findClass own = some m.cls := by rw [hvm]; exact hown
  have hins : (Cond.instantiable cls 6).before args s' = true := h _ (by simp [Bundle.ownAtoms0])
  obtain ⟨vm₁, cX, kX, hfX, hkX, -, -, X₁, st1⟩ := Y.newCold hexec (own := own) (C := cls) (index := ik) (n := 6) hown' hk' hins hini'
    (g := F0 m pc ls rest) rfl (by rw [hb]; exact d0) (Nat.le_refl _) (Nat.le_refl _)
  generalize hT1 : (T.setVm vm₁).pushCell { cls := cX, slots := kX.instanceTypes.map defaultValue, vm := .none } = T1 at X₁ st1
  have hcat : (Value.ref T.heap.size).category = 1 := rfl
  have hcellA : T1.heap[T.heap.size]? = some (freshCell cX kX) := by rw [← hT1]; exact State.heap_pushCell_size _ _
  have d3' : decode c.code (pc + 3) = .ok (.dup, 1) := by rw [hb]; exact d3
  obtain ⟨U, hsteps, hrun, hend, hW, hsame, ce, hce, hO⟩ := X₁.ctorThrow0 hexec htr (own := own) (cls := cls) (names := names) (ic := ic) hown' hcls hnames h (fun x hx => nomatch hx) hfX hkX hcellA (by rw [hhp, hT]; exact Nat.le_refl _)
    (g := { method := m, pc := pc + 4, locals := ls, stack := .ref T.heap.size :: .ref T.heap.size :: rest, locked := none }) rfl hsize rfl rfl (rest := rest) rfl
    (by rw [hb]; exact d4) (by rw [hb]; exact d7) hout hRframes (by simp only [List.map_cons, List.sum_cons, hcat]; omega) hlocks
  obtain ⟨f1, f2⟩ := vx_frame hsame
  rw [hhp] at f1 f2
  have hWs : s.WarmedH U.vm := State.WarmedH.trans hW0 hW
  have hcl : s.vm.findClass cls = some ce.cls := by
    have h9 := hO.cls
    rw [hvm] at h9
    exact h9
  have hall : s.sameButNew ({ U with vm := s.vm } : State) locs mc ms := by
    subst hA
    obtain ⟨e1, e2⟩ := hsame
    rw [State.setFrames_setFrames] at e1
    have h2 : (T.setVm s.vm).sameButNew ({ U with vm := s.vm } : State) [] (0 + 1) (0 + 6) := ⟨e1, e2⟩
    have h3 := X.same.trans h2
    rw [List.append_nil] at h3
    exact h3.mono hc hs
  refine ⟨U, ?_, .threw T.heap.size, hrun, hend, Or.inr ⟨T.heap.size, rfl, cls, ce, locs, hx U hWs.alike f1 (fun q hq => f2 q hq (fun z hz => nomatch hz)), hce, hO.vm, hcl, hWs, hall, hf⟩⟩
  refine st1 _ ?_
  show Steps p.tables e below (T1.setTop { method := m, pc := pc + 3, locals := ls, stack := .ref T.heap.size :: rest, locked := none }) _
  jvm_step X₁.here [X₁.here.top, hexec, d3', Value.category]
  exact hsteps
/-- 'throw new E("text")': new; dup; ldc; invokespecial; athrow -/
theorem vx_throwS {cc : ByteArray} {pc : Nat} (hexec : p.tables.exec = Jvm.exec) (hb : c.code = cc) (hl : l.stackTraces = false) {own cls text : String} {names : List String} {ik is ic mc ms sa : Nat} {A : Nat → Prop}
    (hown : s.vm.findClass own = some m.cls) (hcls : Bundle.fit cls = true) (hnames : ∀ n ∈ names, Bundle.fit n = true)
    (hk : (Cond.classLink own ik cls).before args s = true) (hini : (Cond.initialized cls).before args s = true) (hstr : vk_R own is text sa s) (hat : ∀ w ∈ vx_atS own ic cls names, w.before args s = true)
    (hgood : ∀ w ∈ Cond.classLink own ik cls :: Cond.initialized cls :: vx_atS own ic cls names, vx_ot w = true)
    (hU : vx_Zq Bundle.tN "UNASSIGNED_STACK" Bundle.steD A s s.heap) (hN : vx_Zq Bundle.tN "SUPPRESSED_SENTINEL" Bundle.listD A s s.heap) (hS : va_S A s.heap H locs) (hsize : ls.size = c.maxLocals)
    (d0 : decode cc pc = .ok (.new ik, 3)) (d3 : decode cc (pc + 3) = .ok (.dup, 1)) (d4 : decode cc (pc + 4) = .ok (.ldc is, 2)) (d6 : decode cc (pc + 6) = .ok (.invokespecial ic, 3)) (d9 : decode cc (pc + 9) = .ok (.athrow, 1))
    (hout : ∀ x ∈ c.exceptionTable.toList, covers x (pc + 9) = false)
    (hRframes : names.length + 3 < R.frames) (hRlocals : (rest.map fun v => v.category).sum + (13 * (names.length + 1) + 43) ≤ R.locals) (hRcells : cells + 1 ≤ R.cells) (hRslots : slots + 6 ≤ R.slots) (hlocks : meth.locks = false)
    (hx : ∀ t : State, s.vm.Alike t.vm → H.size ≤ t.heap.size → (∀ q : Nat, q < H.size → t.heap[q]? = H[q]?) → XC cls s t)
    (hf : ∀ z ∈ locs, free z.base) (hc : cells + 1 ≤ mc) (hs : slots + 6 ≤ ms) :
    W p l e R s m args below meth c H locs cells slots (vx_MQ below Qc XC args s mc ms free) (F0 m pc ls rest) := by
  intro T hT X
  have htr : e.platform.stackTraces = false := (show e.platform.stackTraces = l.stackTraces by rw [X.admits.platform]).trans hl
  have Y := vx_rebase X (R' := { frames := R.frames, locals := R.locals, cells := 1, slots := 6 }) (Nat.le_refl _) (Nat.le_refl _) hRcells hRslots
  obtain ⟨s', hA⟩ : ∃ z, z = (T.setVm s.vm).setFrames (.invoking m args :: below) := ⟨_, rfl⟩
  rw [← hA] at Y
  have hvm : s'.vm = s.vm := by rw [hA]; rfl
  have hhp : s'.heap = H := by rw [hA]; exact hT
  have hW0 : s.WarmedH s'.vm := by rw [hvm]; exact State.WarmedH.refl s
  have hat' : ∀ w ∈ vx_atS own ic cls names, w.before args s' = true := fun w hw => vx_ot_at hW0 hvm.symm (hgood w (List.mem_cons_of_mem _ (List.mem_cons_of_mem _ hw))) (hat w hw)
  have hk' : (Cond.classLink own ik cls).before args s' = true := vx_ot_at hW0 hvm.symm (hgood _ List.mem_cons_self) hk
  have hini' : (Cond.initialized cls).before args s' = true := vx_ot_at hW0 hvm.symm (hgood _ (List.mem_cons_of_mem _ List.mem_cons_self)) hini
  have hU' : vx_Zq Bundle.tN "UNASSIGNED_STACK" Bundle.steD A s' s'.heap := by rw [hhp]; exact vx_Zq.moved hW0.alike (hU.kept hS.2.1)
  have hN' : vx_Zq Bundle.tN "SUPPRESSED_SENTINEL" Bundle.listD A s' s'.heap := by rw [hhp]; exact vx_Zq.moved hW0.alike (hN.kept hS.2.1)
  have h : ∀ w ∈ Bundle.ownAtoms own ic cls names, w.before args s' = true := vx_own hat' (vx_isRefq hU'.1) (vx_isRefq hN'.1) hU'.2.word hN'.2.word
  have hown' : s'.vm.findClass own = some m.cls := by rw [hvm]; exact hown
  have hins : (Cond.instantiable cls 6).before args s' = true := h _ (by simp [Bundle.ownAtoms])
  obtain ⟨vm₁, cX, kX, hfX, hkX, -, -, X₁, st1⟩ := Y.newCold hexec (own := own) (C := cls) (index := ik) (n := 6) hown' hk' hins hini'
    (g := F0 m pc ls rest) rfl (by rw [hb]; exact d0) (Nat.le_refl _) (Nat.le_refl _)
  generalize hT1 : (T.setVm vm₁).pushCell { cls := cX, slots := kX.instanceTypes.map defaultValue, vm := .none } = T1 at X₁ st1
  have hcat : (Value.ref T.heap.size).category = 1 := rfl
  have hcellA : T1.heap[T.heap.size]? = some (freshCell cX kX) := by rw [← hT1]; exact State.heap_pushCell_size _ _
  have d3' : decode c.code (pc + 3) = .ok (.dup, 1) := by rw [hb]; exact d3
  have d4' : decode c.code (pc + 4) = .ok (.ldc is, 2) := by rw [hb]; exact d4
  have hstr' : vk_R own is text sa s' := vk_R.warm hW0 hstr
  obtain ⟨U, hsteps, hrun, hend, hW, hsame, ce, hce, hO⟩ := X₁.ctorThrowS hexec htr (own := own) (cls := cls) (names := names) (ic := ic) hown' hcls hnames h (fun x hx => nomatch hx) hfX hkX hcellA (by rw [hhp, hT]; exact Nat.le_refl _) (msg := .ref sa) rfl
    (g := { method := m, pc := pc + 6, locals := ls, stack := .ref sa :: .ref T.heap.size :: .ref T.heap.size :: rest, locked := none }) rfl hsize rfl rfl (rest := rest) rfl
    (by rw [hb]; exact d6) (by rw [hb]; exact d9) hout hRframes (by simp only [List.map_cons, List.sum_cons, hcat]; omega) hlocks
  obtain ⟨f1, f2⟩ := vx_frame hsame
  rw [hhp] at f1 f2
  have hWs : s.WarmedH U.vm := State.WarmedH.trans hW0 hW
  have hcl : s.vm.findClass cls = some ce.cls := by
    have h9 := hO.cls
    rw [hvm] at h9
    exact h9
  have hall : s.sameButNew ({ U with vm := s.vm } : State) locs mc ms := by
    subst hA
    obtain ⟨e1, e2⟩ := hsame
    rw [State.setFrames_setFrames] at e1
    have h2 : (T.setVm s.vm).sameButNew ({ U with vm := s.vm } : State) [] (0 + 1) (0 + 6) := ⟨e1, e2⟩
    have h3 := X.same.trans h2
    rw [List.append_nil] at h3
    exact h3.mono hc hs
  refine ⟨U, ?_, .threw T.heap.size, hrun, hend, Or.inr ⟨T.heap.size, rfl, cls, ce, locs, hx U hWs.alike f1 (fun q hq => f2 q hq (fun z hz => nomatch hz)), hce, hO.vm, hcl, hWs, hall, hf⟩⟩
  refine st1 _ ?_
  show Steps p.tables e below (T1.setTop { method := m, pc := pc + 3, locals := ls, stack := .ref T.heap.size :: rest, locked := none }) _
  jvm_step X₁.here [X₁.here.top, hexec, d3', Value.category]
  exact X₁.ldcString hexec (own := own) (text := text) (index := is) (a := sa) hown' hstr'.1 hstr'.2
    (g := { method := m, pc := pc + 4, locals := ls, stack := .ref T.heap.size :: .ref T.heap.size :: rest, locked := none }) rfl d4' _ hsteps
/-- 'throw new E("text")', the text by a wide index -/
theorem vx_throwSW {cc : ByteArray} {pc : Nat} (hexec : p.tables.exec = Jvm.exec) (hb : c.code = cc) (hl : l.stackTraces = false) {own cls text : String} {names : List String} {ik is ic mc ms sa : Nat} {A : Nat → Prop}
    (hown : s.vm.findClass own = some m.cls) (hcls : Bundle.fit cls = true) (hnames : ∀ n ∈ names, Bundle.fit n = true)
    (hk : (Cond.classLink own ik cls).before args s = true) (hini : (Cond.initialized cls).before args s = true) (hstr : vk_R own is text sa s) (hat : ∀ w ∈ vx_atS own ic cls names, w.before args s = true)
    (hgood : ∀ w ∈ Cond.classLink own ik cls :: Cond.initialized cls :: vx_atS own ic cls names, vx_ot w = true)
    (hU : vx_Zq Bundle.tN "UNASSIGNED_STACK" Bundle.steD A s s.heap) (hN : vx_Zq Bundle.tN "SUPPRESSED_SENTINEL" Bundle.listD A s s.heap) (hS : va_S A s.heap H locs) (hsize : ls.size = c.maxLocals)
    (d0 : decode cc pc = .ok (.new ik, 3)) (d3 : decode cc (pc + 3) = .ok (.dup, 1)) (d4 : decode cc (pc + 4) = .ok (.ldc_w is, 3)) (d7 : decode cc (pc + 7) = .ok (.invokespecial ic, 3)) (d10 : decode cc (pc + 10) = .ok (.athrow, 1))
    (hout : ∀ x ∈ c.exceptionTable.toList, covers x (pc + 10) = false)
    (hRframes : names.length + 3 < R.frames) (hRlocals : (rest.map fun v => v.category).sum + (13 * (names.length + 1) + 43) ≤ R.locals) (hRcells : cells + 1 ≤ R.cells) (hRslots : slots + 6 ≤ R.slots) (hlocks : meth.locks = false)
    (hx : ∀ t : State, s.vm.Alike t.vm → H.size ≤ t.heap.size → (∀ q : Nat, q < H.size → t.heap[q]? = H[q]?) → XC cls s t)
    (hf : ∀ z ∈ locs, free z.base) (hc : cells + 1 ≤ mc) (hs : slots + 6 ≤ ms) :
    W p l e R s m args below meth c H locs cells slots (vx_MQ below Qc XC args s mc ms free) (F0 m pc ls rest) := by
  intro T hT X
  have htr : e.platform.stackTraces = false := (show e.platform.stackTraces = l.stackTraces by rw [X.admits.platform]).trans hl
  have Y := vx_rebase X (R' := { frames := R.frames, locals := R.locals, cells := 1, slots := 6 }) (Nat.le_refl _) (Nat.le_refl _) hRcells hRslots
  obtain ⟨s', hA⟩ : ∃ z, z = (T.setVm s.vm).setFrames (.invoking m args :: below) := ⟨_, rfl⟩
  rw [← hA] at Y
  have hvm : s'.vm = s.vm := by rw [hA]; rfl
  have hhp : s'.heap = H := by rw [hA]; exact hT
  have hW0 : s.WarmedH s'.vm := by rw [hvm]; exact State.WarmedH.refl s
  have hat' : ∀ w ∈ vx_atS own ic cls names, w.before args s' = true := fun w hw => vx_ot_at hW0 hvm.symm (hgood w (List.mem_cons_of_mem _ (List.mem_cons_of_mem _ hw))) (hat w hw)
  have hk' : (Cond.classLink own ik cls).before args s' = true := vx_ot_at hW0 hvm.symm (hgood _ List.mem_cons_self) hk
  have hini' : (Cond.initialized cls).before args s' = true := vx_ot_at hW0 hvm.symm (hgood _ (List.mem_cons_of_mem _ List.mem_cons_self)) hini
  have hU' : vx_Zq Bundle.tN "UNASSIGNED_STACK" Bundle.steD A s' s'.heap := by rw [hhp]; exact vx_Zq.moved hW0.alike (hU.kept hS.2.1)
  have hN' : vx_Zq Bundle.tN "SUPPRESSED_SENTINEL" Bundle.listD A s' s'.heap := by rw [hhp]; exact vx_Zq.moved hW0.alike (hN.kept hS.2.1)
  have h : ∀ w ∈ Bundle.ownAtoms own ic cls names, w.before args s' = true := vx_own hat' (vx_isRefq hU'.1) (vx_isRefq hN'.1) hU'.2.word hN'.2.word
  have hown' : s'.vm.findClass own = some m.cls := by rw [hvm]; exact hown
  have hins : (Cond.instantiable cls 6).before args s' = true := h _ (by simp [Bundle.ownAtoms])
  obtain ⟨vm₁, cX, kX, hfX, hkX, -, -, X₁, st1⟩ := Y.newCold hexec (own := own) (C := cls) (index := ik) (n := 6) hown' hk' hins hini'
    (g := F0 m pc ls rest) rfl (by rw [hb]; exact d0) (Nat.le_refl _) (Nat.le_refl _)
  generalize hT1 : (T.setVm vm₁).pushCell { cls := cX, slots := kX.instanceTypes.map defaultValue, vm := .none } = T1 at X₁ st1
  have hcat : (Value.ref T.heap.size).category = 1 := rfl
  have hcellA : T1.heap[T.heap.size]? = some (freshCell cX kX) := by rw [← hT1]; exact State.heap_pushCell_size _ _
  have d3' : decode c.code (pc + 3) = .ok (.dup, 1) := by rw [hb]; exact d3
  have d4' : decode c.code (pc + 4) = .ok (.ldc_w is, 3) := by rw [hb]; exact d4
  have hstr' : vk_R own is text sa s' := vk_R.warm hW0 hstr
  obtain ⟨U, hsteps, hrun, hend, hW, hsame, ce, hce, hO⟩ := X₁.ctorThrowS hexec htr (own := own) (cls := cls) (names := names) (ic := ic) hown' hcls hnames h (fun x hx => nomatch hx) hfX hkX hcellA (by rw [hhp, hT]; exact Nat.le_refl _) (msg := .ref sa) rfl
    (g := { method := m, pc := pc + 7, locals := ls, stack := .ref sa :: .ref T.heap.size :: .ref T.heap.size :: rest, locked := none }) rfl hsize rfl rfl (rest := rest) rfl
    (by rw [hb]; exact d7) (by rw [hb]; exact d10) hout hRframes (by simp only [List.map_cons, List.sum_cons, hcat]; omega) hlocks
  obtain ⟨f1, f2⟩ := vx_frame hsame
  rw [hhp] at f1 f2
  have hWs : s.WarmedH U.vm := State.WarmedH.trans hW0 hW
  have hcl : s.vm.findClass cls = some ce.cls := by
    have h9 := hO.cls
    rw [hvm] at h9
    exact h9
  have hall : s.sameButNew ({ U with vm := s.vm } : State) locs mc ms := by
    subst hA
    obtain ⟨e1, e2⟩ := hsame
    rw [State.setFrames_setFrames] at e1
    have h2 : (T.setVm s.vm).sameButNew ({ U with vm := s.vm } : State) [] (0 + 1) (0 + 6) := ⟨e1, e2⟩
    have h3 := X.same.trans h2
    rw [List.append_nil] at h3
    exact h3.mono hc hs
  refine ⟨U, ?_, .threw T.heap.size, hrun, hend, Or.inr ⟨T.heap.size, rfl, cls, ce, locs, hx U hWs.alike f1 (fun q hq => f2 q hq (fun z hz => nomatch hz)), hce, hO.vm, hcl, hWs, hall, hf⟩⟩
  refine st1 _ ?_
  show Steps p.tables e below (T1.setTop { method := m, pc := pc + 3, locals := ls, stack := .ref T.heap.size :: rest, locked := none }) _
  jvm_step X₁.here [X₁.here.top, hexec, d3', Value.category]
  exact X₁.ldcStringW hexec (own := own) (text := text) (index := is) (a := sa) hown' hstr'.1 hstr'.2
    (g := { method := m, pc := pc + 4, locals := ls, stack := .ref T.heap.size :: .ref T.heap.size :: rest, locked := none }) rfl d4' _ hsteps
end Ends
section Bodies
variable {l : Launch}
theorem vx_ofW {y : MethodName} {ws ws' : List Cond} {rm : Room} {Pc : Array Value → State → Prop} {Qc : Array Value → State → Outcome → State → Prop} {XC : String → State → State → Prop} {mc ms : Nat} {free : Addr → Prop} {cc : ByteArray} {maxL : Nat} {ret : Option FieldType}
    (hy : plainName y.cls = true) (hw : ws = Cond.code y cc maxL ret :: ws')
    (body : ∀ p e s m args below meth c s₁, BodyLoose p l y (headSpec ws rm) cc maxL ret e s m args below meth c s₁ → c.maxLocals = maxL → (∀ x ∈ c.exceptionTable.toList, False) → Pc args s →
      W p l e (headSpec ws rm).room s m args below meth c s.heap [] 0 0 (vx_MQ below Qc XC args s mc ms free) (entryFrame m args maxL)) : vx_Met l y ws rm Pc Qc XC mc ms free := by
  refine MetFree.of_bodyS (code := cc) (maxLocals := maxL) (ret := ret) hy ?_ ?_
  · intro args s m h hn
    obtain ⟨meth, c, h1, h2, h3, h4, h5, h6, -, -⟩ := Cond.code_spec hn (atoms_spec (ws := ws) h _ (by rw [hw]; exact List.mem_cons_self))
    exact ⟨meth, c, h1, h2, h3, h4, h5, h6⟩
  · intro p e s m args below meth c s₁ B hml hP _
    have hh0 : s₁.heap = s.heap := by rw [B.state]; rfl
    have ht : ∀ x ∈ c.exceptionTable.toList, False := by
      obtain ⟨meth9, c9, h1, h2, -, -, -, -, h7, -⟩ := Cond.code_spec B.named (atoms_spec (ws := ws) B.pre _ (by rw [hw]; exact List.mem_cons_self))
      cases Option.some.inj (h1.symm.trans B.method)
      cases Option.some.inj (h2.symm.trans (Stand.of_body B).code)
      intro x hx
      rw [Array.isEmpty_iff.mp h7] at hx
      cases hx
    obtain ⟨t, a1, o, b1, b2, b3⟩ := body p e s m args below meth c s₁ B hml ht hP s₁ hh0 (Stand.of_body B)
    exact ⟨t, o, a1, b1, b2, b3⟩
/-- the table of a body with handlers -/
theorem vx_table {p : Program} {x y : MethodName} {S : Spec} {cc bytes : ByteArray} {maxL maxL' : Nat} {ret ret' : Option FieldType} {e : Env} {s s₁ : State} {m : MethodId} {args : Array Value} {below : List Frame} {meth : Method} {c : Code} {hh : List (Nat × Nat × Nat × Nat)}
    (B : BodyLoose p l y S cc maxL ret e s m args below meth c s₁) (h : (Cond.codeWith y bytes maxL' ret' hh).before args s = true) : c.exceptionTable.toList = tableOf hh := by
  obtain ⟨m9, meth9, c9, hn9, h1, h2, -, -, h6, -⟩ := Cond.codeWith_spec h
  cases Option.some.inj (hn9.symm.trans B.named)
  cases Option.some.inj (h1.symm.trans B.method)
  cases Option.some.inj (h2.symm.trans (Stand.of_body B).code)
  rw [← h6, table_eq]
end Bodies
end VXA
/-! ===== END ===== -/
/-! ===== BEGIN a static call of a method with an exception table ===== -/
section VXS
variable {p : Program} {l : Launch} {e : Env} {R : Room} {s : State} {m : MethodId} {args : Array Value} {below : List Frame} {meth : Method} {c : Code} {T : State} {H : Heap} {locs : List Loc} {cells slots : Nat}
abbrev vx_CSW (R : Room) (s : State) (args : Array Value) (own : String) (index : Nat) (y : MethodName) (bytes : ByteArray) (maxL : Nat) (ret : Option FieldType) (hh : List (Nat × Nat × Nat × Nat)) (ws : List Cond) (rm : Room) (mc ms n : Nat) : Prop :=
  (rm.cells = mc ∧ rm.slots = ms ∧ rm.frames + 1 ≤ R.frames ∧ 8 + (maxL + 11) + rm.locals ≤ R.locals ∧ (∀ w ∈ ws, ∀ (a' : Array Value) (U : State), s.WarmedH U.vm → w.before a' U = true) ∧ Cond.codeWith y bytes maxL ret hh ∈ ws) ∧
  (Cond.codeWith y bytes maxL ret hh).before args s = true ∧ (Cond.initialized y.cls).before args s = true ∧ (y.cls ≠ "java/lang/invoke/MethodHandle" ∧ y.cls ≠ "java/lang/invoke/VarHandle") ∧
  (∀ sig, parseMethodDescriptor y.desc = some sig → n = sig.parameters.length) ∧ (Cond.methodLink own index y).before args s = true ∧ (Cond.static y).before args s = true
theorem vx_cwSW {own : String} {index maxL mc ms : Nat} {y : MethodName} {bytes : ByteArray} {ret : Option FieldType} {hh : List (Nat × Nat × Nat × Nat)} {Ts ws ws' : List Cond} {rm : Room} (n : Nat) (ht : ∀ w ∈ Ts, w.before args s = true) (hT : GoodIn Ts (va_wsS own index y ws)) (hw : ws = Cond.codeWith y bytes maxL ret hh :: ws') (hrc : rm.cells = mc) (hrs : rm.slots = ms)
    (hd : y.cls ≠ "java/lang/invoke/MethodHandle" ∧ y.cls ≠ "java/lang/invoke/VarHandle" ∧ (parseMethodDescriptor y.desc).map (fun d => d.parameters.length) = some n) (hR : rm.frames + 1 ≤ R.frames ∧ 8 + (maxL + 11) + rm.locals ≤ R.locals) :
    vx_CSW R s args own index y bytes maxL ret hh ws rm mc ms n := by
  have ok : ∀ w ∈ va_wsS own index y ws, w.before args s = true := fun w h => ht w (hT w h).1
  have hG : GoodIn Ts ws := fun w h => hT w (by unfold va_wsS; exact List.mem_append_right _ h)
  have hc : Cond.codeWith y bytes maxL ret hh ∈ ws := by rw [hw]; exact List.mem_cons_self
  refine ⟨⟨hrc, hrs, hR.1, hR.2, pay_in ht hG, hc⟩, ht _ (hG _ hc).1, ok _ (by simp [va_wsS]), ⟨hd.1, hd.2.1⟩, fun sig h => ?_, ok _ (by simp [va_wsS]), ok _ (by simp [va_wsS])⟩
  have h2 := hd.2.2
  rw [h] at h2
  exact (Option.some.inj h2).symm
theorem vx_callSW (X : Stand p l e R s m args below meth c T locs cells slots) (hexec : p.tables.exec = Jvm.exec) {own : String} {index : Nat} {y : MethodName} {bytes : ByteArray} {maxL : Nat} {ret : Option FieldType} {hh : List (Nat × Nat × Nat × Nat)}
    (hown : s.vm.findClass own = some m.cls) (hlink : (Cond.methodLink own index y).before args s = true) (hstat : (Cond.static y).before args s = true) (hinit : (Cond.initialized y.cls).before args s = true)
    (hcode : (Cond.codeWith y bytes maxL ret hh).before args s = true) (hy : y.cls ≠ "java/lang/invoke/MethodHandle" ∧ y.cls ≠ "java/lang/invoke/VarHandle")
    {W9 : Nat} {Pre : Pt → Array Value → Prop} {Post : Pt → Array Value → Option Value → Pt → Prop} (hK : Back l R p e below s args y 3 W9 Pre Post)
    {g : JFrame} (hg : g.method = m) (hsize : g.locals.size = c.maxLocals) {argsL rest : List Value} (hlen : ∀ sig, parseMethodDescriptor y.desc = some sig → argsL.length = sig.parameters.length)
    (hstack : g.stack = argsL.reverse ++ rest) (hW : 2 * g.monitorRoom + (rest.map fun v => v.category).sum ≤ W9) (hdg : decode c.code g.pc = .ok (.invokestatic index, 3))
    (hpre : ∀ vm₁, s.WarmedH vm₁ → Pre ⟨T.setVm vm₁, locs, cells, slots⟩ argsL.toArray) :
    ∃ (v : Option Value) (vm₁ : Vm) (B : Pt), s.WarmedH vm₁ ∧ Stand p l e R s m args below meth c B.U B.locs B.cells B.slots ∧ Post ⟨T.setVm vm₁, locs, cells, slots⟩ argsL.toArray v B ∧
      ∀ target, Steps p.tables e below (B.U.setTop { g with pc := g.pc + 3, stack := v.toList ++ rest }) target → Steps p.tables e below (T.setTop g) target := by
  obtain ⟨mk, methM, cM, hnamed, hmethM, -, -, -, -, -, -, hsigM⟩ := Cond.codeWith_spec hcode
  have hstatic : methM.isStatic = true := Cond.static_spec hnamed hmethM hstat
  obtain ⟨kP, hkP, -⟩ := className_of_methodNamed hnamed
  have hinitP : kP.init = .initialized := Cond.initialized_spec (findClass_of_methodNamed hnamed) hkP hinit
  obtain ⟨vm₁, X₁, hstep₁⟩ := X.invokestatic hexec hown hlink hnamed hmethM hstatic hkP hinitP hy (g := g) hg (argsL := argsL) (rest := rest) (hlen _ hsigM) hstack hdg
  obtain ⟨v, B, X', hpost, hsteps⟩ := hK m meth c ⟨T.setVm vm₁, locs, cells, slots⟩ { g with stack := rest } (.invokestatic index) mk argsL.toArray X₁ hg hsize hdg hW (X₁.named hnamed) (hpre vm₁ X₁.warmed)
  exact ⟨v, vm₁, B, X₁.warmed, X', hpost, fun target h => hstep₁ _ fun acts => by rw [doInvoke_state]; exact hsteps.trans h⟩
theorem vx_runSW {y : MethodName} {bytes cc : ByteArray} {maxL nL mc ms n index : Nat} {ret : Option FieldType} {hh : List (Nat × Nat × Nat × Nat)} {ws : List Cond} {rm : Room} {Pc : Array Value → State → Prop} {Qc : Array Value → State → Outcome → State → Prop} {free : Addr → Prop} {Ts : List Cond} {own : String} {As rest : List Value} {g : JFrame}
    (S : CallFix p m c cc nL s args Ts own) (hM : Met l y ws rm Pc Qc mc ms free) (cw : vx_CSW R s args own index y bytes maxL ret hh ws rm mc ms n) (hp : PreS s H Pc As)
    (hg : g.method = m) (hn : As.length = n) (hsize : g.locals.size = nL) (hstack : g.stack = As.reverse ++ rest) (hW : 2 * g.monitorRoom + (rest.map fun v => v.category).sum ≤ 8) (hdg : decode cc g.pc = .ok (.invokestatic index, 3)) (hf : cells + mc ≤ R.cells ∧ slots + ms ≤ R.slots) :
    va_Run p l e R s m args below meth c H locs cells slots mc ms g rest (Qc As.toArray) (free) := by
  obtain ⟨⟨hrc, hrs, hfr, hlo, hws, hcw⟩, hcode, hini, hy, hlen, hl, hstt⟩ := cw
  have hK : Back l R p e below s args y 3 8 (PreOf R mc ms Pc) (PostOf Qc mc ms free) := va_backW (hh := hh) (bytes := bytes) (maxL := maxL) (ret := ret) hM hp.1 hrc hrs hfr hlo hws hcw (fun a' U hW => word_at hW (Or.inl (by first | rfl | simp [Cond.onTables, Cond.keeps, Cond.steady])) hini)
  obtain ⟨hx, hb, hml, ho, -⟩ := S
  intro T hT X
  obtain ⟨v, vm₁, ⟨U', l2, c2, s2⟩, hW₁, X', ⟨g', mk, t, L, e1, e2, hq, h1, hL, h2, h3⟩, st⟩ := vx_callSW X hx (hh := hh) (bytes := bytes) (maxL := maxL) (ret := ret) ho hl hstt hini hcode hy hK hg (hsize.trans hml.symm) (argsL := As) (rest := rest) (fun sig h => hn.trans (hlen sig h)) hstack hW (by rw [hb]; exact hdg)
    (fun vm₁ hW₁ => ⟨hf.1, hf.2, hp.2 (T.setVm vm₁) hT hW₁⟩)
  dsimp only [Pt.U, Pt.locs, Pt.cells, Pt.slots] at X' e1 e2 h1 h2 h3 st
  subst h1; subst h2; subst h3
  exact ⟨v, (T.setVm vm₁).calling g' mk As.toArray, t, U', L, hT, X', hL, e1, e2, hq, st⟩
/-- not caught here, past rows that name other classes: it goes on to the caller -/
theorem vx_outP {p : Program} {l : Launch} {e : Env} {R : Room} {s : State} {m : MethodId} {args : Array Value} {below : List Frame} {meth : Method} {c : Code} {H : Heap} {locs : List Loc} {cells slots : Nat} {free : Addr → Prop} {ls : Array Slot} {rest : List Value} {Qc : Array Value → State → Outcome → State → Prop} {XC : String → State → State → Prop}
    {pc : Nat} {own E : String} {ce : Cell} {q : Addr} {mc ms : Nat} (hown : s.vm.findClass own = some m.cls) (hlocks : meth.locks = false)
    (hpass : ∀ z ∈ c.exceptionTable.toList, covers z pc = false ∨ (z.catchType ≠ 0 ∧ ∃ nm : String, (Cond.classLink own z.catchType nm).before args s = true ∧ va_Nc E nm s)) (hcell : H[q]? = some ce) (hv : ce.vm = .none) (hcl : s.vm.findClass E = some ce.cls)
    (hx : ∀ t : State, t.heap = H → s.vm.Alike t.vm → XC E s t) (hf : ∀ z ∈ locs, free z.base) (hc : cells ≤ mc) (hs : slots ≤ ms) :
    vx_W p l e R s m args below meth c H locs cells slots (vx_MQ below Qc XC args s mc ms free) (F0 m pc ls rest) q := by
  intro T hT X
  have hpl : e.platform.magicAccessors = ({} : Platform).magicAccessors := by rw [X.admits.platform]
  obtain ⟨vm', hW', X', st⟩ := X.outThrough hlocks q (g := F0 m pc ls rest) rfl rfl rfl (cell := ce) (by rw [hT]; exact hcell) (by rw [hv]; rfl)
    (by obtain ⟨k9, h9, -⟩ := Vm.findClass_spec hcl; exact ⟨k9, h9⟩) (fun z hz => by
      rcases hpass z hz with h | ⟨hz0, nm, hl1, hn1⟩
      · exact Or.inl h
      · obtain ⟨c6, hc6, hcl6⟩ := Cond.classLink_spec hown hl1 e.platform hpl
        obtain ⟨a8, b8, h1, h2, h3⟩ := hn1
        cases Option.some.inj (h1.symm.trans hcl)
        cases Option.some.inj (h2.symm.trans hc6)
        exact Or.inr ⟨hz0, _, hcl6, h3⟩)
  obtain ⟨g₀, hfr⟩ := X'.frames_eq
  have hcell9 : ((T.setVm vm').setFrames (.throwing q :: below)).heap[q]? = some ce := by
    show T.heap[q]? = some ce
    rw [hT]; exact hcell
  have hend : Ended ((T.setVm vm').setFrames (.throwing q :: below)) below (.threw q) := State.frames_setFrames _ (State.cur_lt_of_frames hfr)
  refine ⟨(T.setVm vm').setFrames (.throwing q :: below), ?_, .threw q, X'.here.running, hend, Or.inr ⟨q, rfl, E, ce, locs, hx _ hT (X'.ends _).1.alike, hcell9, hv, hcl, (X'.ends _).1, (X'.ends _).2.mono hc hs, hf⟩⟩
  rw [X.pushThrowing_eq]
  exact st
/-- a thing of a world lies in the heap -/
theorem vx_lt {D : va_G} {cl : List vw_C} {ws : va_W} {H1 : Heap} (h : va_P D cl ws H1) {k : Nat} {q : Nat × va_E} (hk : ws[k]? = some q) : q.1 < H1.size := (h k q hk).lt
end VXS
/-! ===== END ===== -/
/-! ===== BEGIN methods with a table of their own: called by a name, returning or throwing ===== -/
section VXH
/-! vx_backW, vx_callVX, vx_callSX, vx_callVW, vx_runVW, vx_runVX, vx_runSX, vx_ofWH follow the same proofs as their sisters above (Free/Laws.lean, Shelf42/LK1.lean); vx_outP calls Shelf42/NT130.lean (outThrough). -/
section
variable {l : Launch} {R : Room} {p : Program} {e : Env} {below : List Frame} {s : State} {sargs : Array Value} {y : MethodName} {len W9 : Nat}
theorem vx_backW {ws : List Cond} {rm : Room} {Pc : Array Value → State → Prop} {Qc : Array Value → State → Outcome → State → Prop} {XC : String → State → State → Prop} {mc ms : Nat} {free : Addr → Prop} {bytes : ByteArray} {maxL : Nat} {ret : Option FieldType} {hh : List (Nat × Nat × Nat × Nat)}
    (hM : vx_Met l y ws rm Pc Qc XC mc ms free) (hblind : FrameBlind Pc) (hrc : rm.cells = mc) (hrs : rm.slots = ms)
    (hframes : rm.frames + 1 ≤ R.frames) (hlocals : W9 + (maxL + 11) + rm.locals ≤ R.locals)
    (hws : ∀ w ∈ ws, ∀ a' U, s.WarmedH U.vm → w.before a' U = true) (hcode : Cond.codeWith y bytes maxL ret hh ∈ ws) (hinit : ∀ a' U, s.WarmedH U.vm → (Cond.initialized y.cls).before a' U = true) :
    vx_Back l R p e below s sargs y len W9 (PreOf R mc ms Pc) (PostOf Qc mc ms free) (vx_Post XC mc ms free) := by
  intro m meth c A g ig mk a X hg hsize hdg hW hn hp
  have h1 : (headSpec ws rm).pre.before a A.U = true := atoms_intro fun w hw => hws w hw _ _ X.warmed
  have h2 : (Cond.codeWith y bytes maxL ret hh).before a A.U = true := hws _ hcode _ _ X.warmed
  have h3 : (Cond.initialized y.cls).before a A.U = true := hinit _ _ X.warmed
  have h4 : A.cells + (headSpec ws rm).room.cells ≤ R.cells := by rw [show (headSpec ws rm).room.cells = mc from hrc]; exact hp.1
  have h5 : A.slots + (headSpec ws rm).room.slots ≤ R.slots := by rw [show (headSpec ws rm).room.slots = ms from hrs]; exact hp.2.1
  have hPc : Pc a (A.U.calling g mk a) := hblind _ _ _ _ hp.2.2
  obtain ⟨U, Ls, c0, s0⟩ := A
  dsimp only [Pt.U, Pt.locs, Pt.cells, Pt.slots] at h1 h2 h3 h4 h5 X hn hPc ⊢
  obtain ⟨m9, methY, cY, hn9, hmY, hcY, -, hlY, -⟩ := Cond.codeWith_spec h2
  cases Option.some.inj (hn9.symm.trans hn)
  obtain ⟨kY, hkY, -⟩ := className_of_methodNamed hn
  have hinitY : kY.init = .initialized := Cond.initialized_spec (findClass_of_methodNamed hn) hkY h3
  have h : At U g.method c below := by rw [hg]; exact X.here
  have hlocals9 : W9 + (maxL + 11) + (headSpec ws rm).room.locals ≤ R.locals := hlocals
  have happ : (headSpec ws rm).appliesLoose y e.platform (U.calling g mk a) = true :=
    Spec.appliesLoose_calling (g := g) h hdg hn hkY hinitY
      (X.room_calling (g := g) (R' := (headSpec ws rm).room) hsize hmY hcY hframes (by rw [hlY]; omega) h4 h5) h1
  obtain ⟨mid, hmid⟩ := h.above
  have hfr : (U.setTop g).frames = (.java g :: mid) ++ below := by rw [State.frames_setTop' g h.top, hmid]; rfl
  obtain ⟨o, s₂, hsteps, -, hend, hq⟩ := Steps.callFree hM p X.admits X.cas X.clock (acts := []) hfr happ hPc trivial
  have hq' : vx_Q Qc XC mc ms free a (U.calling g mk a) o s₂ := hq
  rw [State.frames_setTop' g h.top] at hend
  obtain ⟨g₀, hg0⟩ := Option.isSome_iff_exists.mp h.top
  obtain ⟨r, hr⟩ := State.topJava?_eq_some.mp hg0
  have hr' : (({ U with heap := s₂.heap, slotsUsed := s₂.slotsUsed } : State).setVm s₂.vm).frames = .java g₀ :: r := hr
  rcases hq' with ⟨hqc, L, hfe, hL⟩ | ⟨q, rfl, E, ce, L, hx, hce, hcv, hcl, hW₂, hsm, hL⟩
  · obtain ⟨⟨v, rfl⟩, hW₂, e2, q2, q3, q4, q5, q6⟩ := id hfe
    have e3 : s₂ = ({ (U.calling g mk a).setFrames s₂.frames with heap := s₂.heap, slotsUsed := s₂.slotsUsed } : State).setVm s₂.vm := by
      have : s₂ = ({ s₂ with vm := (U.calling g mk a).vm } : State).setVm s₂.vm := rfl
      rw [e2] at this
      exact this
    obtain ⟨c₂, i₂, len₂, hc₂, hd₂, hf₂⟩ := hend
    have hW' : U.WarmedH s₂.vm := hW₂
    have hcc : c₂ = c := by
      have h1 : s₂.code? g.method = U.code? g.method := by
        rw [State.code?_eq, State.code?_eq, hW'.alike.method?]
      exact Option.some.inj (hc₂.symm.trans (h1.trans h.code))
    subst hcc
    have hlen : len₂ = len := by rw [hdg] at hd₂; cases hd₂; rfl
    subst hlen
    have hs₂ : s₂ = (({ U with heap := s₂.heap, slotsUsed := s₂.slotsUsed } : State).setVm s₂.vm).setTop { g with pc := g.pc + len₂, stack := v.toList ++ g.stack } := by
      refine e3.trans ?_
      rw [hf₂, State.calling_eq h.top, State.setFrames_setFrames, State.setTop_of_frames _ hr', hr]
      rfl
    have hsame : U.sameButNew ({ U with heap := s₂.heap, slotsUsed := s₂.slotsUsed } : State) L mc ms := by
      refine ⟨?_, q2, q3, q4, q5, q6⟩
      obtain ⟨t, ht, -⟩ := State.frames_cons hr
      show ({ U with heap := s₂.heap, slotsUsed := s₂.slotsUsed } : State) = { U.setFrames U.frames with heap := s₂.heap, slotsUsed := s₂.slotsUsed }
      rw [State.setFrames_self ht]
    subst hg
    refine Or.inl ⟨v, ⟨(({ U with heap := s₂.heap, slotsUsed := s₂.slotsUsed } : State).setVm s₂.vm), Ls ++ L, c0 + mc, s0 + ms⟩,
      ⟨X.admits, X.cas, X.clock, X.frames, X.room, X.hears, X.method, X.code, (X.here.setHeapUsed s₂.heap s₂.slotsUsed).setVm hW'.alike, X.tail, State.WarmedH.trans X.warmed hW', X.limits, X.bytes, X.same.trans (hsame.setVm s.vm)⟩,
      ⟨g, mk, s₂, L, rfl, rfl, hqc, rfl, hL, rfl, rfl⟩, ?_⟩
    show Steps p.tables e below _ ((({ U with heap := s₂.heap, slotsUsed := s₂.slotsUsed } : State).setVm s₂.vm).setTop { g with pc := g.pc + len₂, stack := v.toList ++ g.stack })
    rw [← hs₂]
    exact hsteps
  · obtain ⟨e2, q2, q3, q4, q5, q6⟩ := id hsm
    have e3 : s₂ = ({ (U.calling g mk a).setFrames s₂.frames with heap := s₂.heap, slotsUsed := s₂.slotsUsed } : State).setVm s₂.vm := by
      have : s₂ = ({ s₂ with vm := (U.calling g mk a).vm } : State).setVm s₂.vm := rfl
      rw [e2] at this
      exact this
    have hf₂ : s₂.frames = .throwing q :: .java g :: U.frames.tail := hend
    have hW' : U.WarmedH s₂.vm := hW₂
    have hs₂ : s₂ = ((({ U with heap := s₂.heap, slotsUsed := s₂.slotsUsed } : State).setVm s₂.vm).setTop g).pushFrame (.throwing q) := by
      refine e3.trans ?_
      rw [hf₂, State.calling_eq h.top, State.setFrames_setFrames, State.pushFrame, State.frames_setTop _ hr', State.setTop_of_frames _ hr', State.setFrames_setFrames, hr]
      rfl
    have hsame : U.sameButNew ({ U with heap := s₂.heap, slotsUsed := s₂.slotsUsed } : State) L mc ms := by
      refine ⟨?_, q2, q3, q4, q5, q6⟩
      obtain ⟨t, ht, -⟩ := State.frames_cons hr
      show ({ U with heap := s₂.heap, slotsUsed := s₂.slotsUsed } : State) = { U.setFrames U.frames with heap := s₂.heap, slotsUsed := s₂.slotsUsed }
      rw [State.setFrames_self ht]
    subst hg
    refine Or.inr ⟨q, ⟨(({ U with heap := s₂.heap, slotsUsed := s₂.slotsUsed } : State).setVm s₂.vm), Ls ++ L, c0 + mc, s0 + ms⟩,
      ⟨X.admits, X.cas, X.clock, X.frames, X.room, X.hears, X.method, X.code, (X.here.setHeapUsed s₂.heap s₂.slotsUsed).setVm hW'.alike, X.tail, State.WarmedH.trans X.warmed hW', X.limits, X.bytes, X.same.trans (hsame.setVm s.vm)⟩,
      ⟨g, mk, s₂, L, E, ce, rfl, rfl, hx, hce, hcv, hcl, rfl, hL, rfl, rfl⟩, ?_⟩
    show Steps p.tables e below _ (((({ U with heap := s₂.heap, slotsUsed := s₂.slotsUsed } : State).setVm s₂.vm).setTop g).pushFrame (.throwing q))
    rw [← hs₂]
    exact hsteps
end
variable {p : Program} {l : Launch} {e : Env} {R : Room} {s : State} {m : MethodId} {args : Array Value} {below : List Frame} {meth : Method} {c : Code} {T : State} {H : Heap} {locs : List Loc} {cells slots : Nat}
theorem vx_callVX (X : Stand p l e R s m args below meth c T locs cells slots) (hexec : p.tables.exec = Jvm.exec) {own C : String} {index : Nat} {y : MethodName} {bytes : ByteArray} {maxL : Nat} {ret : Option FieldType} {hh : List (Nat × Nat × Nat × Nat)}
    (hown : s.vm.findClass own = some m.cls) (hlink : (Cond.methodLink own index y).before args s = true) (hinst : (Cond.instanceMethod y).before args s = true) (hsel : (Cond.selects C y y).before args s = true)
    (hcode : (Cond.codeWith y bytes maxL ret hh).before args s = true) (hy : y.cls ≠ "java/lang/invoke/MethodHandle" ∧ y.cls ≠ "java/lang/invoke/VarHandle")
    {W9 : Nat} {Pre : Pt → Array Value → Prop} {Post : Pt → Array Value → Option Value → Pt → Prop} {PostX : Pt → Array Value → Addr → Pt → Prop} (hK : vx_Back l R p e below s args y 3 W9 Pre Post PostX)
    {b : Addr} {cellB : Cell} (hcell : T.heap[b]? = some cellB) (hobj : cellB.vm.isStatics = false) (hcls : s.vm.findClass C = some cellB.cls)
    {g : JFrame} (hg : g.method = m) (hsize : g.locals.size = c.maxLocals) {argsL rest : List Value} (hlen : ∀ sig, parseMethodDescriptor y.desc = some sig → argsL.length = sig.parameters.length)
    (hstack : g.stack = argsL.reverse ++ .ref b :: rest) (hW : 2 * g.monitorRoom + (rest.map fun v => v.category).sum ≤ W9) (hdg : decode c.code g.pc = .ok (.invokevirtual index, 3))
    (hpre : ∀ vm₁, s.WarmedH vm₁ → Pre ⟨T.setVm vm₁, locs, cells, slots⟩ (Value.ref b :: argsL).toArray) :
    (∃ (v : Option Value) (vm₁ : Vm) (B : Pt), s.WarmedH vm₁ ∧ Stand p l e R s m args below meth c B.U B.locs B.cells B.slots ∧ Post ⟨T.setVm vm₁, locs, cells, slots⟩ (Value.ref b :: argsL).toArray v B ∧
      ∀ target, Steps p.tables e below (B.U.setTop { g with pc := g.pc + 3, stack := v.toList ++ rest }) target → Steps p.tables e below (T.setTop g) target) ∨
    (∃ (q : Addr) (vm₁ : Vm) (B : Pt), s.WarmedH vm₁ ∧ Stand p l e R s m args below meth c B.U B.locs B.cells B.slots ∧ PostX ⟨T.setVm vm₁, locs, cells, slots⟩ (Value.ref b :: argsL).toArray q B ∧
      Steps p.tables e below (T.setTop g) ((B.U.setTop { g with stack := rest }).pushFrame (.throwing q))) := by
  obtain ⟨mk, methM, hnamed, hmethM, hstM, habM⟩ := Cond.instanceMethod_spec hinst
  obtain ⟨m8, methM', cM, hn8, hmethM', -, -, -, -, -, -, hsigM⟩ := Cond.codeWith_spec hcode
  cases Option.some.inj (hn8.symm.trans hnamed)
  cases hmethM.symm.trans hmethM'
  obtain ⟨c2, r2, m2, q1, q2, q3, q4, kP, hkP, hkPi⟩ := Cond.selects_spec hsel
  cases hcls.symm.trans q1
  cases (State.methodFound?_of_named hnamed hy).symm.trans q2
  cases hnamed.symm.trans q3
  have hselP : selectMethod e.platform s.vm cellB.cls mk = .method mk := by rw [Launch.admits_selectMethod X.admits]; exact q4
  obtain ⟨vm₁, X₁, hstep₁⟩ := X.invokevirtual hexec hown hlink hnamed hmethM hstM hkP hkPi hy (a := b) (cell := cellB) hcell
    (fun z h => by rw [h] at hobj; cases hobj) hselP hmethM habM hkP hkPi (g := g) hg (argsL := argsL) (rest := rest) (hlen _ hsigM) hstack hdg
  rcases hK m meth c ⟨T.setVm vm₁, locs, cells, slots⟩ { g with stack := rest } (.invokevirtual index) mk (Value.ref b :: argsL).toArray X₁ hg hsize hdg hW (X₁.named hnamed) (hpre vm₁ X₁.warmed) with ⟨v, B, X', hpost, hsteps⟩ | ⟨q, B, X', hpost, hsteps⟩
  · exact Or.inl ⟨v, vm₁, B, X₁.warmed, X', hpost, fun target h => hstep₁ _ fun acts => by rw [doInvoke_state]; exact hsteps.trans h⟩
  · exact Or.inr ⟨q, vm₁, B, X₁.warmed, X', hpost, hstep₁ _ fun acts => by rw [doInvoke_state]; exact hsteps⟩
theorem vx_callSX (X : Stand p l e R s m args below meth c T locs cells slots) (hexec : p.tables.exec = Jvm.exec) {own : String} {index : Nat} {y : MethodName} {bytes : ByteArray} {maxL : Nat} {ret : Option FieldType} {hh : List (Nat × Nat × Nat × Nat)}
    (hown : s.vm.findClass own = some m.cls) (hlink : (Cond.methodLink own index y).before args s = true) (hstat : (Cond.static y).before args s = true) (hinit : (Cond.initialized y.cls).before args s = true)
    (hcode : (Cond.codeWith y bytes maxL ret hh).before args s = true) (hy : y.cls ≠ "java/lang/invoke/MethodHandle" ∧ y.cls ≠ "java/lang/invoke/VarHandle")
    {W9 : Nat} {Pre : Pt → Array Value → Prop} {Post : Pt → Array Value → Option Value → Pt → Prop} {PostX : Pt → Array Value → Addr → Pt → Prop} (hK : vx_Back l R p e below s args y 3 W9 Pre Post PostX)
    {g : JFrame} (hg : g.method = m) (hsize : g.locals.size = c.maxLocals) {argsL rest : List Value} (hlen : ∀ sig, parseMethodDescriptor y.desc = some sig → argsL.length = sig.parameters.length)
    (hstack : g.stack = argsL.reverse ++ rest) (hW : 2 * g.monitorRoom + (rest.map fun v => v.category).sum ≤ W9) (hdg : decode c.code g.pc = .ok (.invokestatic index, 3))
    (hpre : ∀ vm₁, s.WarmedH vm₁ → Pre ⟨T.setVm vm₁, locs, cells, slots⟩ argsL.toArray) :
    (∃ (v : Option Value) (vm₁ : Vm) (B : Pt), s.WarmedH vm₁ ∧ Stand p l e R s m args below meth c B.U B.locs B.cells B.slots ∧ Post ⟨T.setVm vm₁, locs, cells, slots⟩ argsL.toArray v B ∧
      ∀ target, Steps p.tables e below (B.U.setTop { g with pc := g.pc + 3, stack := v.toList ++ rest }) target → Steps p.tables e below (T.setTop g) target) ∨
    (∃ (q : Addr) (vm₁ : Vm) (B : Pt), s.WarmedH vm₁ ∧ Stand p l e R s m args below meth c B.U B.locs B.cells B.slots ∧ PostX ⟨T.setVm vm₁, locs, cells, slots⟩ argsL.toArray q B ∧
      Steps p.tables e below (T.setTop g) ((B.U.setTop { g with stack := rest }).pushFrame (.throwing q))) := by
  obtain ⟨mk, methM, cM, hnamed, hmethM, -, -, -, -, -, -, hsigM⟩ := Cond.codeWith_spec hcode
  have hstatic : methM.isStatic = true := Cond.static_spec hnamed hmethM hstat
  obtain ⟨kP, hkP, -⟩ := className_of_methodNamed hnamed
  have hinitP : kP.init = .initialized := Cond.initialized_spec (findClass_of_methodNamed hnamed) hkP hinit
  obtain ⟨vm₁, X₁, hstep₁⟩ := X.invokestatic hexec hown hlink hnamed hmethM hstatic hkP hinitP hy (g := g) hg (argsL := argsL) (rest := rest) (hlen _ hsigM) hstack hdg
  rcases hK m meth c ⟨T.setVm vm₁, locs, cells, slots⟩ { g with stack := rest } (.invokestatic index) mk argsL.toArray X₁ hg hsize hdg hW (X₁.named hnamed) (hpre vm₁ X₁.warmed) with ⟨v, B, X', hpost, hsteps⟩ | ⟨q, B, X', hpost, hsteps⟩
  · exact Or.inl ⟨v, vm₁, B, X₁.warmed, X', hpost, fun target h => hstep₁ _ fun acts => by rw [doInvoke_state]; exact hsteps.trans h⟩
  · exact Or.inr ⟨q, vm₁, B, X₁.warmed, X', hpost, hstep₁ _ fun acts => by rw [doInvoke_state]; exact hsteps⟩
theorem vx_callVW (X : Stand p l e R s m args below meth c T locs cells slots) (hexec : p.tables.exec = Jvm.exec) {own C : String} {index : Nat} {y : MethodName} {bytes : ByteArray} {maxL : Nat} {ret : Option FieldType} {hh : List (Nat × Nat × Nat × Nat)}
    (hown : s.vm.findClass own = some m.cls) (hlink : (Cond.methodLink own index y).before args s = true) (hinst : (Cond.instanceMethod y).before args s = true) (hsel : (Cond.selects C y y).before args s = true)
    (hcode : (Cond.codeWith y bytes maxL ret hh).before args s = true) (hy : y.cls ≠ "java/lang/invoke/MethodHandle" ∧ y.cls ≠ "java/lang/invoke/VarHandle")
    {W9 : Nat} {Pre : Pt → Array Value → Prop} {Post : Pt → Array Value → Option Value → Pt → Prop} (hK : Back l R p e below s args y 3 W9 Pre Post)
    {b : Addr} {cellB : Cell} (hcell : T.heap[b]? = some cellB) (hobj : cellB.vm.isStatics = false) (hcls : s.vm.findClass C = some cellB.cls)
    {g : JFrame} (hg : g.method = m) (hsize : g.locals.size = c.maxLocals) {argsL rest : List Value} (hlen : ∀ sig, parseMethodDescriptor y.desc = some sig → argsL.length = sig.parameters.length)
    (hstack : g.stack = argsL.reverse ++ .ref b :: rest) (hW : 2 * g.monitorRoom + (rest.map fun v => v.category).sum ≤ W9) (hdg : decode c.code g.pc = .ok (.invokevirtual index, 3))
    (hpre : ∀ vm₁, s.WarmedH vm₁ → Pre ⟨T.setVm vm₁, locs, cells, slots⟩ (Value.ref b :: argsL).toArray) :
    ∃ (v : Option Value) (vm₁ : Vm) (B : Pt), s.WarmedH vm₁ ∧ Stand p l e R s m args below meth c B.U B.locs B.cells B.slots ∧ Post ⟨T.setVm vm₁, locs, cells, slots⟩ (Value.ref b :: argsL).toArray v B ∧
      ∀ target, Steps p.tables e below (B.U.setTop { g with pc := g.pc + 3, stack := v.toList ++ rest }) target → Steps p.tables e below (T.setTop g) target := by
  obtain ⟨mk, methM, hnamed, hmethM, hstM, habM⟩ := Cond.instanceMethod_spec hinst
  obtain ⟨m8, methM', cM, hn8, hmethM', -, -, -, -, -, -, hsigM⟩ := Cond.codeWith_spec hcode
  cases Option.some.inj (hn8.symm.trans hnamed)
  cases hmethM.symm.trans hmethM'
  obtain ⟨c2, r2, m2, q1, q2, q3, q4, kP, hkP, hkPi⟩ := Cond.selects_spec hsel
  cases hcls.symm.trans q1
  cases (State.methodFound?_of_named hnamed hy).symm.trans q2
  cases hnamed.symm.trans q3
  have hselP : selectMethod e.platform s.vm cellB.cls mk = .method mk := by rw [Launch.admits_selectMethod X.admits]; exact q4
  obtain ⟨vm₁, X₁, hstep₁⟩ := X.invokevirtual hexec hown hlink hnamed hmethM hstM hkP hkPi hy (a := b) (cell := cellB) hcell
    (fun z h => by rw [h] at hobj; cases hobj) hselP hmethM habM hkP hkPi (g := g) hg (argsL := argsL) (rest := rest) (hlen _ hsigM) hstack hdg
  obtain ⟨v, B, X', hpost, hsteps⟩ := hK m meth c ⟨T.setVm vm₁, locs, cells, slots⟩ { g with stack := rest } (.invokevirtual index) mk (Value.ref b :: argsL).toArray X₁ hg hsize hdg hW (X₁.named hnamed) (hpre vm₁ X₁.warmed)
  exact ⟨v, vm₁, B, X₁.warmed, X', hpost, fun target h => hstep₁ _ fun acts => by rw [doInvoke_state]; exact hsteps.trans h⟩
abbrev vx_CVW (R : Room) (s : State) (args : Array Value) (own C : String) (index : Nat) (y : MethodName) (bytes : ByteArray) (maxL : Nat) (ret : Option FieldType) (hh : List (Nat × Nat × Nat × Nat)) (ws : List Cond) (rm : Room) (mc ms n : Nat) : Prop :=
  (rm.cells = mc ∧ rm.slots = ms ∧ rm.frames + 1 ≤ R.frames ∧ 8 + (maxL + 11) + rm.locals ≤ R.locals ∧ (∀ w ∈ ws, ∀ (a' : Array Value) (U : State), s.WarmedH U.vm → w.before a' U = true) ∧ Cond.codeWith y bytes maxL ret hh ∈ ws) ∧
  (Cond.codeWith y bytes maxL ret hh).before args s = true ∧ (Cond.initialized y.cls).before args s = true ∧ (y.cls ≠ "java/lang/invoke/MethodHandle" ∧ y.cls ≠ "java/lang/invoke/VarHandle") ∧
  (∀ sig, parseMethodDescriptor y.desc = some sig → n = sig.parameters.length) ∧ (Cond.methodLink own index y).before args s = true ∧ (Cond.instanceMethod y).before args s = true ∧ (Cond.selects C y y).before args s = true
theorem vx_cwVW {own C : String} {index maxL mc ms : Nat} {y : MethodName} {bytes : ByteArray} {ret : Option FieldType} {hh : List (Nat × Nat × Nat × Nat)} {Ts ws ws' : List Cond} {rm : Room} (n : Nat) (ht : ∀ w ∈ Ts, w.before args s = true) (hT : GoodIn Ts (wsV own index C y ws)) (hw : ws = Cond.codeWith y bytes maxL ret hh :: ws') (hrc : rm.cells = mc) (hrs : rm.slots = ms)
    (hd : y.cls = C ∧ y.cls ≠ "java/lang/invoke/MethodHandle" ∧ y.cls ≠ "java/lang/invoke/VarHandle" ∧ (parseMethodDescriptor y.desc).map (fun d => d.parameters.length) = some n) (hR : rm.frames + 1 ≤ R.frames ∧ 8 + (maxL + 11) + rm.locals ≤ R.locals) :
    vx_CVW R s args own C index y bytes maxL ret hh ws rm mc ms n := by
  obtain ⟨hC, hd⟩ := hd
  subst hC
  have ok : ∀ w ∈ wsV own index y.cls y ws, w.before args s = true := fun w h => ht w (hT w h).1
  have hG : GoodIn Ts ws := fun w h => hT w (by unfold wsV; exact List.mem_append_right _ h)
  have hc : Cond.codeWith y bytes maxL ret hh ∈ ws := by rw [hw]; exact List.mem_cons_self
  refine ⟨⟨hrc, hrs, hR.1, hR.2, pay_in ht hG, hc⟩, ht _ (hG _ hc).1, ok _ (by simp [wsV]), ⟨hd.1, hd.2.1⟩, fun sig h => ?_, ok _ (by simp [wsV]), ok _ (by simp [wsV]), ok _ (by simp [wsV])⟩
  have h2 := hd.2.2
  rw [h] at h2
  exact (Option.some.inj h2).symm
theorem vx_runVW {y : MethodName} {bytes cc : ByteArray} {maxL nL mc ms n index : Nat} {ret : Option FieldType} {hh : List (Nat × Nat × Nat × Nat)} {ws : List Cond} {rm : Room} {Pc : Array Value → State → Prop} {Qc : Array Value → State → Outcome → State → Prop} {free : Addr → Prop} {Ts : List Cond} {own C : String} {b : Addr} {As rest : List Value} {g : JFrame}
    (S : CallFix p m c cc nL s args Ts own) (hM : Met l y ws rm Pc Qc mc ms free) (cw : vx_CVW R s args own C index y bytes maxL ret hh ws rm mc ms n) (hp : PreV s H C b Pc As)
    (hg : g.method = m) (hn : As.length = n) (hsize : g.locals.size = nL) (hstack : g.stack = As.reverse ++ .ref b :: rest) (hW : 2 * g.monitorRoom + (rest.map fun v => v.category).sum ≤ 8) (hdg : decode cc g.pc = .ok (.invokevirtual index, 3)) (hf : cells + mc ≤ R.cells ∧ slots + ms ≤ R.slots) :
    va_Run p l e R s m args below meth c H locs cells slots mc ms g rest (Qc (Value.ref b :: As).toArray) free := by
  obtain ⟨⟨hrc, hrs, hfr, hlo, hws, hcw⟩, hcode, hini, hy, hlen, hl, hin, hse⟩ := cw
  have hK : Back l R p e below s args y 3 8 (PreOf R mc ms Pc) (PostOf Qc mc ms free) := va_backW (hh := hh) (bytes := bytes) (maxL := maxL) (ret := ret) hM hp.1 hrc hrs hfr hlo hws hcw (fun a' U hW => word_at hW (Or.inl (by first | rfl | simp [Cond.onTables, Cond.keeps, Cond.steady])) hini)
  obtain ⟨hx, hb, hml, ho, -⟩ := S
  obtain ⟨-, ⟨cellB, hcB, hoB, hclB⟩, hPc⟩ := hp
  intro T hT X
  obtain ⟨v, vm₁, ⟨U', l2, c2, s2⟩, hW₁, X', ⟨g', mk, t, L, e1, e2, hq, h1, hL, h2, h3⟩, st⟩ := vx_callVW X hx (C := C) (hh := hh) (bytes := bytes) (maxL := maxL) (ret := ret) ho hl hin hse hcode hy hK (by rw [hT]; exact hcB) hoB hclB hg (hsize.trans hml.symm) (argsL := As) (rest := rest) (fun sig h => hn.trans (hlen sig h)) hstack hW (by rw [hb]; exact hdg)
    (fun vm₁ hW₁ => ⟨hf.1, hf.2, hPc (T.setVm vm₁) hT hW₁⟩)
  dsimp only [Pt.U, Pt.locs, Pt.cells, Pt.slots] at X' e1 e2 h1 h2 h3 st
  subst h1; subst h2; subst h3
  exact ⟨v, (T.setVm vm₁).calling g' mk (Value.ref b :: As).toArray, t, U', L, hT, X', hL, e1, e2, hq, st⟩
section
variable {y : MethodName} {bytes cc : ByteArray} {maxL nL mc ms n index : Nat} {ret : Option FieldType} {ws : List Cond} {rm : Room} {Pc : Array Value → State → Prop} {Qc : Array Value → State → Outcome → State → Prop} {XC : String → State → State → Prop} {free : Addr → Prop} {Ts : List Cond} {own C : String} {b : Addr} {As rest : List Value} {g : JFrame}
theorem vx_runVX {hh : List (Nat × Nat × Nat × Nat)} (S : CallFix p m c cc nL s args Ts own) (hM : vx_Met l y ws rm Pc Qc XC mc ms free) (cw : vx_CVW R s args own C index y bytes maxL ret hh ws rm mc ms n) (hp : PreV s H C b Pc As)
    (hg : g.method = m) (hn : As.length = n) (hsize : g.locals.size = nL) (hstack : g.stack = As.reverse ++ .ref b :: rest) (hW : 2 * g.monitorRoom + (rest.map fun v => v.category).sum ≤ 8) (hdg : decode cc g.pc = .ok (.invokevirtual index, 3)) (hf : cells + mc ≤ R.cells ∧ slots + ms ≤ R.slots) :
    vx_Run p l e R s m args below meth c H locs cells slots mc ms g rest (Qc (Value.ref b :: As).toArray) XC free := by
  obtain ⟨⟨hrc, hrs, hfr, hlo, hws, hcw⟩, hcode, hini, hy, hlen, hl, hin, hse⟩ := cw
  have hK : vx_Back l R p e below s args y 3 8 (PreOf R mc ms Pc) (PostOf Qc mc ms free) (vx_Post XC mc ms free) := vx_backW (hh := hh) (bytes := bytes) (maxL := maxL) (ret := ret) hM hp.1 hrc hrs hfr hlo hws hcw (fun a' U hW => word_at hW (Or.inl (by first | rfl | simp [Cond.onTables, Cond.keeps, Cond.steady])) hini)
  obtain ⟨hx, hb, hml, ho, -⟩ := S
  obtain ⟨-, ⟨cellB, hcB, hoB, hclB⟩, hPc⟩ := hp
  intro T hT X
  rcases vx_callVX X hx (C := C) (hh := hh) (bytes := bytes) (maxL := maxL) (ret := ret) ho hl hin hse hcode hy hK (by rw [hT]; exact hcB) hoB hclB hg (hsize.trans hml.symm) (argsL := As) (rest := rest) (fun sig h => hn.trans (hlen sig h)) hstack hW (by rw [hb]; exact hdg)
    (fun vm₁ hW₁ => ⟨hf.1, hf.2, hPc (T.setVm vm₁) hT hW₁⟩) with ⟨v, vm₁, ⟨U', l2, c2, s2⟩, hW₁, X', ⟨g', mk, t, L, e1, e2, hq, h1, hL, h2, h3⟩, st⟩ | ⟨q, vm₁, ⟨U', l2, c2, s2⟩, hW₁, X', ⟨g', mk, t, L, E, ce, e1, e2, hq, hce, hcv, hcl, h1, hL, h2, h3⟩, st⟩
  · dsimp only [Pt.U, Pt.locs, Pt.cells, Pt.slots] at X' e1 e2 h1 h2 h3 st
    subst h1; subst h2; subst h3
    exact Or.inl ⟨v, (T.setVm vm₁).calling g' mk (Value.ref b :: As).toArray, t, U', L, hT, X', hL, e1, e2, hq, st⟩
  · dsimp only [Pt.U, Pt.locs, Pt.cells, Pt.slots] at X' e1 e2 h1 h2 h3 st hcl
    subst h1; subst h2; subst h3
    exact Or.inr ⟨q, (T.setVm vm₁).calling g' mk (Value.ref b :: As).toArray, t, U', L, E, ce, hT, X', hL, e1, e2, hq, hce, hcv, vx_cls hW₁ hcl, st⟩
theorem vx_runSX {hh : List (Nat × Nat × Nat × Nat)} (S : CallFix p m c cc nL s args Ts own) (hM : vx_Met l y ws rm Pc Qc XC mc ms free) (cw : vx_CSW R s args own index y bytes maxL ret hh ws rm mc ms n) (hp : PreS s H Pc As)
    (hg : g.method = m) (hn : As.length = n) (hsize : g.locals.size = nL) (hstack : g.stack = As.reverse ++ rest) (hW : 2 * g.monitorRoom + (rest.map fun v => v.category).sum ≤ 8) (hdg : decode cc g.pc = .ok (.invokestatic index, 3)) (hf : cells + mc ≤ R.cells ∧ slots + ms ≤ R.slots) :
    vx_Run p l e R s m args below meth c H locs cells slots mc ms g rest (Qc As.toArray) XC free := by
  obtain ⟨⟨hrc, hrs, hfr, hlo, hws, hcw⟩, hcode, hini, hy, hlen, hl, hstt⟩ := cw
  have hK : vx_Back l R p e below s args y 3 8 (PreOf R mc ms Pc) (PostOf Qc mc ms free) (vx_Post XC mc ms free) := vx_backW (hh := hh) (bytes := bytes) (maxL := maxL) (ret := ret) hM hp.1 hrc hrs hfr hlo hws hcw (fun a' U hW => word_at hW (Or.inl (by first | rfl | simp [Cond.onTables, Cond.keeps, Cond.steady])) hini)
  obtain ⟨hx, hb, hml, ho, -⟩ := S
  intro T hT X
  rcases vx_callSX X hx (hh := hh) (bytes := bytes) (maxL := maxL) (ret := ret) ho hl hstt hini hcode hy hK hg (hsize.trans hml.symm) (argsL := As) (rest := rest) (fun sig h => hn.trans (hlen sig h)) hstack hW (by rw [hb]; exact hdg)
    (fun vm₁ hW₁ => ⟨hf.1, hf.2, hp.2 (T.setVm vm₁) hT hW₁⟩) with ⟨v, vm₁, ⟨U', l2, c2, s2⟩, hW₁, X', ⟨g', mk, t, L, e1, e2, hq, h1, hL, h2, h3⟩, st⟩ | ⟨q, vm₁, ⟨U', l2, c2, s2⟩, hW₁, X', ⟨g', mk, t, L, E, ce, e1, e2, hq, hce, hcv, hcl, h1, hL, h2, h3⟩, st⟩
  · dsimp only [Pt.U, Pt.locs, Pt.cells, Pt.slots] at X' e1 e2 h1 h2 h3 st
    subst h1; subst h2; subst h3
    exact Or.inl ⟨v, (T.setVm vm₁).calling g' mk As.toArray, t, U', L, hT, X', hL, e1, e2, hq, st⟩
  · dsimp only [Pt.U, Pt.locs, Pt.cells, Pt.slots] at X' e1 e2 h1 h2 h3 st hcl
    subst h1; subst h2; subst h3
    exact Or.inr ⟨q, (T.setVm vm₁).calling g' mk As.toArray, t, U', L, E, ce, hT, X', hL, e1, e2, hq, hce, hcv, vx_cls hW₁ hcl, st⟩
end
end VXH
theorem vx_ofWH {l : Launch} {y : MethodName} {ws ws' : List Cond} {rm : Room} {Pc : Array Value → State → Prop} {Qc : Array Value → State → Outcome → State → Prop} {XC : String → State → State → Prop} {mc ms : Nat} {free : Addr → Prop} {cc : ByteArray} {maxL : Nat} {ret : Option FieldType} {hh : List (Nat × Nat × Nat × Nat)}
    (hy : plainName y.cls = true) (hw : ws = Cond.codeWith y cc maxL ret hh :: ws')
    (body : ∀ p e s m args below meth c s₁, BodyLoose p l y (headSpec ws rm) cc maxL ret e s m args below meth c s₁ → c.maxLocals = maxL → Pc args s →
      W p l e (headSpec ws rm).room s m args below meth c s.heap [] 0 0 (vx_MQ below Qc XC args s mc ms free) (entryFrame m args maxL)) : vx_Met l y ws rm Pc Qc XC mc ms free := by
  refine MetFree.of_bodyS (code := cc) (maxLocals := maxL) (ret := ret) hy ?_ ?_
  · intro args s m h hn
    obtain ⟨m9, meth, c, hn9, h1, h2, h3, h4, -, h5, h6, -⟩ := Cond.codeWith_spec (atoms_spec (ws := ws) h _ (by rw [hw]; exact List.mem_cons_self))
    cases hn.symm.trans hn9
    exact ⟨meth, c, h1, h2, h3, h4, h5, h6⟩
  · intro p e s m args below meth c s₁ B hml hP _
    have hh0 : s₁.heap = s.heap := by rw [B.state]; rfl
    obtain ⟨t, a1, o, b1, b2, b3⟩ := body p e s m args below meth c s₁ B hml hP s₁ hh0 (Stand.of_body B)
    exact ⟨t, o, a1, b1, b2, b3⟩
/-! ===== END ===== -/
end
section
def RX0 : String := "RootCompass$Cut"
def TX0 : u_T := fun k => match k with
  | 0 => ("RootCompass$Cut", "a", "I", false)
  | 1 => ("RootCompass$Cut", "b", "I", false)
  | 2 => ("RootCompass$Cut", "c", "I", false)
  | 3 => ("RootCompass$Cut", "x", "I", false)
  | 4 => ("RootCompass$Cut", "y", "I", false)
  | 5 => ("RootCompass$Cut", "e", "I", false)
  | _ => ("RootCompass$Cut", "m", "I", false)
def tyX0 : Nat → FieldType := fun k => match k with
  | 0 => .int
  | 1 => .int
  | 2 => .int
  | 3 => .int
  | 4 => .int
  | 5 => .int
  | _ => .int
abbrev wsX00 : List Cond := u_ws RX0 TX0 7
theorem nmX0 : ∀ a, a < 7 → ∀ b, b < 7 → a ≠ b → (TX0 a).2.1 ≠ (TX0 b).2.1 := by decide +kernel
theorem tyX0_ok : ∀ k, k < 7 → parseFieldDescriptor (TX0 k).2.2.1 = some (tyX0 k) := by decide +kernel
def RX1 : String := "RootCompass$Numbers"
def TX1 : u_T := fun k => match k with
  | 0 => ("RootCompass$Numbers", "over", "[I", true)
  | 1 => ("RootCompass$Numbers", "under", "[I", true)
  | 2 => ("RootCompass$Numbers", "work", "I", true)
  | 3 => ("RootCompass$Numbers", "next", "I", false)
  | 4 => ("RootCompass$Numbers", "depth", "I", false)
  | _ => ("RootCompass$Numbers", "failed", "Z", false)
def tyX1 : Nat → FieldType := fun k => match k with
  | 0 => .array .int
  | 1 => .array .int
  | 2 => .int
  | 3 => .int
  | 4 => .int
  | _ => .boolean
abbrev wsX10 : List Cond := u_ws RX1 TX1 6
theorem nmX1 : ∀ a, a < 6 → ∀ b, b < 6 → a ≠ b → (TX1 a).2.1 ≠ (TX1 b).2.1 := by decide +kernel
theorem tyX1_ok : ∀ k, k < 6 → parseFieldDescriptor (TX1 k).2.2.1 = some (tyX1 k) := by decide +kernel
def RX2 : String := "RootCompass"
def TX2 : u_T := fun k => match k with
  | 0 => ("RootCompass", "numbers", "LRootCompass$Numbers;", true)
  | 1 => ("RootCompass", "cut", "LRootCompass$Cut;", true)
  | 2 => ("RootCompass", "step", "[I", true)
  | 3 => ("RootCompass", "first", "[I", true)
  | 4 => ("RootCompass", "second", "[I", true)
  | 5 => ("RootCompass", "third", "[I", true)
  | 6 => ("RootCompass", "depthBefore", "[I", true)
  | _ => ("RootCompass", "count", "I", false)
def tyX2 : Nat → FieldType := fun k => match k with
  | 0 => .object "RootCompass$Numbers"
  | 1 => .object "RootCompass$Cut"
  | 2 => .array .int
  | 3 => .array .int
  | 4 => .array .int
  | 5 => .array .int
  | 6 => .array .int
  | _ => .int
abbrev wsX20 : List Cond := u_ws RX2 TX2 8
theorem nmX2 : ∀ a, a < 8 → ∀ b, b < 8 → a ≠ b → (TX2 a).2.1 ≠ (TX2 b).2.1 := by decide +kernel
theorem tyX2_ok : ∀ k, k < 8 → parseFieldDescriptor (TX2 k).2.2.1 = some (tyX2 k) := by decide +kernel
end
section
/-! THE SMALL MACHINE: it runs the same instructions over a world whose cells have numbers (places) in the stead of addresses; mm_sound (part 03) says once and for all that what it does the machine does. -/
abbrev mm_M : Type := List va_E
abbrev mm_L : Type := List (Nat × Value)
/-- pc, locals, operand stack, world, cells made by throws so far -/
abbrev mm_St : Type := Nat × mm_L × List Value × mm_M × Nat
/-- an end: an answer, or the name of what was thrown -/
abbrev mm_R : Type := Option Value ⊕ String
/-- a step: goes on; goes on if something holds; several ways, each with its condition; the end; a call (behind it, and where it throws: not allowed, not caught, caught) -/
abbrev mm_N : Type := mm_St ⊕ (Prop × mm_St) ⊕ List (Prop × mm_St) ⊕ (Prop × mm_R × mm_M × Nat) ⊕ (Nat × List Value × mm_M × (Option Value → mm_M → mm_St) × (String → mm_M → Option (Option mm_St)) × Nat)
/-- a handler: from, to, its pc, pool entry of the name, the name, pc behind its astore, the astore's variable -/
abbrev mm_H : Type := Nat × Nat × Nat × Nat × String × Nat × Nat
/-- a method: code (pc, instruction, length); fields (pool entry, class, slot, 0 an int, 1 a boolean, 2 only read); constants (pool entry, value); calls (pool entry, method, values taken, class of the receiver or 99); throws (pc, exception); handlers; int arrays that are only read (place, length, contents) -/
abbrev mm_P : Type := List (Nat × Instr × Nat) × List (Nat × Nat × Nat × Nat) × List (Nat × Value) × List (Nat × Nat × Nat × Nat) × List (Nat × String) × List mm_H × List (Nat × Nat × (Nat → Int32))
abbrev mm_hs (P : mm_P) : List mm_H := P.2.2.2.2.2.1
abbrev mm_fz (P : mm_P) : List (Nat × Nat × (Nat → Int32)) := P.2.2.2.2.2.2
def mm_lk {α : Type} : List (Nat × α) → Nat → Option α
  | [], _ => none
  | (a, b) :: t, k => cond (Nat.beq a k) (some b) (mm_lk t k)
def mm_s1 (L : mm_L) (i : Nat) (v : Value) : mm_L := (i, v) :: L.filter (fun q => !(q.1 == i) && !(q.1 + 1 == i && q.2.category == 2))
def mm_s2 (L : mm_L) (i : Nat) (v : Value) : mm_L := (i, v) :: L.filter (fun q => !(q.1 == i) && (!(q.1 == i + 1) && !(q.1 + 1 == i && q.2.category == 2)))
def mm_tg (pc : Nat) (off : Int) : Option Nat := match (pc : Int) + off with
  | .ofNat t => some t
  | .negSucc _ => none
def mm_g (s : mm_St) : Option mm_N := some (.inl s)
def mm_n (c : Prop) (s : mm_St) : Option mm_N := some (.inr (.inl (c, s)))
def mm_b (c : Prop) (s t : mm_St) : Option mm_N := some (.inr (.inr (.inl [(c, s), (¬ c, t)])))
def mm_e (c : Prop) (r : mm_R) (M : mm_M) (u : Nat) : Option mm_N := some (.inr (.inr (.inr (.inl (c, r, M, u)))))
/-- the ways of a tableswitch -/
def mm_tw (x : Int32) (pc : Nat) (L : mm_L) (r : List Value) (M : mm_M) (u : Nat) : Int → List Int → Option (List (Prop × mm_St))
  | _, [] => some []
  | k, o :: os => (mm_tg pc o).bind fun t => (mm_tw x pc L r M u (k + 1) os).map fun w => (x.toInt = k, (t, L, r, M, u)) :: w
def mm_i1 (S : List Value) (f : Int32 → List Value → Option mm_N) : Option mm_N := match S with
  | .int x :: r => f x r
  | _ => none
def mm_i2 (S : List Value) (f : Int32 → Int32 → List Value → Option mm_N) : Option mm_N := match S with
  | .int y :: .int x :: r => f y x r
  | _ => none
def mm_l1 (S : List Value) (f : Int64 → List Value → Option mm_N) : Option mm_N := match S with
  | .long x :: r => f x r
  | _ => none
def mm_l2 (S : List Value) (f : Int64 → Int64 → List Value → Option mm_N) : Option mm_N := match S with
  | .long y :: .long x :: r => f y x r
  | _ => none
def mm_li (L : mm_L) (i : Nat) (f : Int32 → Option mm_N) : Option mm_N := match mm_lk L i with
  | some (.int x) => f x
  | _ => none
def mm_ll (L : mm_L) (i : Nat) (f : Int64 → Option mm_N) : Option mm_N := match mm_lk L i with
  | some (.long x) => f x
  | _ => none
def mm_la (L : mm_L) (i : Nat) (f : Nat → Option mm_N) : Option mm_N := match mm_lk L i with
  | some (.ref x) => f x
  | _ => none
/-- an array of ints, of longs, at a place; an object of a class -/
def mm_ai (M : mm_M) (a : Nat) (f : Nat → (Nat → Int32) → Option mm_N) : Option mm_N := match M[a]? with
  | some (.inl (0, n, .inl z)) => f n z
  | _ => none
/-- an array of ints to be read -/
def mm_af (P : mm_P) (M : mm_M) (a : Nat) (f : Nat → (Nat → Int32) → Option mm_N) : Option mm_N := match M[a]? with
  | some (.inl (0, n, .inl z)) => f n z
  | none => (match mm_lk (mm_fz P) a with
    | some q => f q.1 q.2
    | none => none)
  | _ => none
def mm_al (M : mm_M) (a : Nat) (f : Nat → (Nat → Int64) → Option mm_N) : Option mm_N := match M[a]? with
  | some (.inl (1, n, .inr (.inl z))) => f n z
  | _ => none
def mm_ob (M : mm_M) (a ci : Nat) (f : List Value → Option mm_N) : Option mm_N := match M[a]? with
  | some (.inr (c, fs)) => cond (Nat.beq c ci) (f fs) none
  | _ => none
def mm_bc (k : Jvm.ClassFile.Cond) (x y : Int32) (s t : mm_St) : Option mm_N := match k with
  | .eq => mm_b (x = y) s t
  | .ne => mm_b (x = y) t s
  | .lt => mm_b (x < y) s t
  | .ge => mm_b (y ≤ x) s t
  | .gt => mm_b (y < x) s t
  | .le => mm_b (x ≤ y) s t
/-- what a boolean cell or answer may hold -/
def mm_z (x : Int32) : Prop := x = 0 ∨ x = 1
def mm_put (P : mm_P) (k pc : Nat) (L : mm_L) (S : List Value) (M : mm_M) (u : Nat) : Option mm_N := match S with
  | .int x :: .ref a :: r => match mm_lk P.2.1 k with
    | some (ci, i, z) => mm_ob M a ci fun fs => cond (Nat.blt i fs.length)
        (match z with
          | 0 => mm_g (pc + 3, L, r, M.set a (.inr (ci, fs.set i (.int x))), u)
          | 1 => mm_n (mm_z x) (pc + 3, L, r, M.set a (.inr (ci, fs.set i (.int x))), u)
          | _ => none) none
    | none => none
  | _ => none
def mm_get (P : mm_P) (k pc : Nat) (L : mm_L) (S : List Value) (M : mm_M) (u : Nat) : Option mm_N := match S with
  | .ref a :: r => match mm_lk P.2.1 k with
    | some (ci, i, _) => mm_ob M a ci fun fs => match fs[i]? with
      | some v => mm_g (pc + 3, L, v :: r, M, u)
      | none => none
    | none => none
  | _ => none
def mm_cat (S : List Value) : Nat := (S.map fun v => v.category).sum
/-- System.arraycopy within or between int arrays -/
def mm_cp (pc : Nat) (L : mm_L) (S : List Value) (M : mm_M) (u : Nat) : Option mm_N := match S with
  | .int n :: .int dp :: .ref a :: .int sp :: .ref a0 :: r => mm_ai M a0 fun n0 f => mm_ai M a fun n1 g =>
      cond (Nat.ble (mm_cat r) 8) (mm_n (¬ sp < 0 ∧ ¬ dp < 0 ∧ ¬ n < 0 ∧ sp.toNatClampNeg + n.toNatClampNeg ≤ n0 ∧ dp.toNatClampNeg + n.toNatClampNeg ≤ n1)
        (pc + 3, L, r, M.set a (.inl (0, n1, .inl (va_cpy f g sp.toNatClampNeg dp.toNatClampNeg n.toNatClampNeg))), u)) none
  | _ => none
/-- the handler that takes E at pc -/
def mm_hd : List mm_H → Nat → String → Option (Nat × Nat)
  | [], _, _ => none
  | h :: t, pc, E => cond (Nat.ble h.1 pc && Nat.blt pc h.2.1 && decide (h.2.2.2.2.1 = E)) (some h.2.2.2.2.2) (mm_hd t pc E)
/-- what is left of the locals behind an astore -/
def mm_dr (L : mm_L) (i : Nat) : mm_L := L.filter (fun q => !(q.1 == i) && !(q.1 + 1 == i && q.2.category == 2))
def mm_ce (P : mm_P) (pc : Nat) (L : mm_L) (u : Nat) (E : String) (M : mm_M) : Option (Option mm_St) := match mm_hs P with
  | [] => some none
  | h :: t => (mm_hd (h :: t) pc E).map fun q => some (q.1, mm_dr L q.2, [], M, u)
/-- a call: 98 is System.arraycopy -/
def mm_cl (P : mm_P) (bt : Nat → Nat) (st : Bool) (k pc : Nat) (L : mm_L) (S : List Value) (M : mm_M) (u : Nat) : Option mm_N := match mm_lk P.2.2.2.1 k with
  | none => none
  | some (j, n, ci) => cond (Nat.beq ci 98) (cond st (mm_cp pc L S M u) none)
      (cond (Nat.ble n S.length && Nat.ble (mm_cat (S.drop n)) 8 && (cond st (Nat.beq ci 99) (!(Nat.beq ci 99) && match (S.take n).reverse with
        | .ref a :: _ => match M[a]? with
          | some (.inr (c, _)) => Nat.beq c ci
          | _ => false
        | _ => false)))
        (some (.inr (.inr (.inr (.inr (j, (S.take n).reverse, M, (fun v M' => (pc + 3, L, v.toList ++ S.drop n, M', u + bt j)), mm_ce P pc L (u + bt j), u + bt j)))))) none)
def mm_do (P : mm_P) (bt : Nat → Nat) (ret : Option FieldType) (nL pc : Nat) (L : mm_L) (S : List Value) (M : mm_M) (u : Nat) (i : Instr) : Option mm_N := match i with
  | .iconst n => mm_g (pc + 1, L, .int (Int32.ofInt n) :: S, M, u)
  | .bipush n => mm_g (pc + 2, L, .int (Int8.ofInt n).toInt32 :: S, M, u)
  | .sipush n => mm_g (pc + 3, L, .int (Int16.ofInt n).toInt32 :: S, M, u)
  | .lconst n => mm_g (pc + 1, L, .long (Int64.ofNat (n : Nat)) :: S, M, u)
  | .ldc k => match mm_lk P.2.2.1 k with
    | some (.int x) => mm_g (pc + 2, L, .int x :: S, M, u)
    | _ => none
  | .ldc2_w k => match mm_lk P.2.2.1 k with
    | some (.long x) => mm_g (pc + 3, L, .long x :: S, M, u)
    | _ => none
  | .iload_n k => mm_li L k.val fun x => mm_g (pc + 1, L, .int x :: S, M, u)
  | .iload k => mm_li L k fun x => mm_g (pc + 2, L, .int x :: S, M, u)
  | .lload_n k => mm_ll L k.val fun x => mm_g (pc + 1, L, .long x :: S, M, u)
  | .lload k => mm_ll L k fun x => mm_g (pc + 2, L, .long x :: S, M, u)
  | .aload_n k => mm_la L k.val fun x => mm_g (pc + 1, L, .ref x :: S, M, u)
  | .aload k => mm_la L k fun x => mm_g (pc + 2, L, .ref x :: S, M, u)
  | .istore_n k => mm_i1 S fun x r => cond (Nat.blt k.val nL) (mm_g (pc + 1, mm_s1 L k.val (.int x), r, M, u)) none
  | .istore k => mm_i1 S fun x r => cond (Nat.blt k nL) (mm_g (pc + 2, mm_s1 L k (.int x), r, M, u)) none
  | .lstore_n k => mm_l1 S fun x r => cond (Nat.blt (k.val + 1) nL) (mm_g (pc + 1, mm_s2 L k.val (.long x), r, M, u)) none
  | .lstore k => mm_l1 S fun x r => cond (Nat.blt (k + 1) nL) (mm_g (pc + 2, mm_s2 L k (.long x), r, M, u)) none
  | .iinc k n => mm_li L k fun x => cond (Nat.blt k nL) (mm_g (pc + 3, mm_s1 L k (.int (x + Int32.ofInt n)), S, M, u)) none
  | .iadd => mm_i2 S fun y x r => mm_g (pc + 1, L, .int (x + y) :: r, M, u)
  | .isub => mm_i2 S fun y x r => mm_g (pc + 1, L, .int (x - y) :: r, M, u)
  | .imul => mm_i2 S fun y x r => mm_g (pc + 1, L, .int (x * y) :: r, M, u)
  | .iand => mm_i2 S fun y x r => mm_g (pc + 1, L, .int (x &&& y) :: r, M, u)
  | .ishl => mm_i2 S fun y x r => mm_g (pc + 1, L, .int (x <<< (y &&& 31)) :: r, M, u)
  | .ishr => mm_i2 S fun y x r => mm_g (pc + 1, L, .int (x >>> (y &&& 31)) :: r, M, u)
  | .ineg => mm_i1 S fun x r => mm_g (pc + 1, L, .int (-x) :: r, M, u)
  | .ladd => mm_l2 S fun y x r => mm_g (pc + 1, L, .long (x + y) :: r, M, u)
  | .lsub => mm_l2 S fun y x r => mm_g (pc + 1, L, .long (x - y) :: r, M, u)
  | .lmul => mm_l2 S fun y x r => mm_g (pc + 1, L, .long (x * y) :: r, M, u)
  | .lneg => mm_l1 S fun x r => mm_g (pc + 1, L, .long (-x) :: r, M, u)
  | .ldiv => mm_l2 S fun y x r => mm_n (¬ y = 0) (pc + 1, L, .long (x / y) :: r, M, u)
  | .lrem => mm_l2 S fun y x r => mm_n (¬ y = 0) (pc + 1, L, .long (x - x / y * y) :: r, M, u)
  | .lcmp => mm_l2 S fun y x r => mm_g (pc + 1, L, .int (lg_cmp x y) :: r, M, u)
  | .i2l => mm_i1 S fun x r => mm_g (pc + 1, L, .long x.toInt64 :: r, M, u)
  | .l2i => mm_l1 S fun x r => mm_g (pc + 1, L, .int x.toInt32 :: r, M, u)
  | .dup => match S with
    | .int x :: r => mm_g (pc + 1, L, .int x :: .int x :: r, M, u)
    | .ref x :: r => mm_g (pc + 1, L, .ref x :: .ref x :: r, M, u)
    | _ => none
  | .pop => mm_i1 S fun _ r => mm_g (pc + 1, L, r, M, u)
  | .ifCond k o => mm_i1 S fun x r => (mm_tg pc o).bind fun t => mm_bc k x 0 (t, L, r, M, u) (pc + 3, L, r, M, u)
  | .if_icmp k o => mm_i2 S fun y x r => (mm_tg pc o).bind fun t => mm_bc k x y (t, L, r, M, u) (pc + 3, L, r, M, u)
  | .goto o => (mm_tg pc o).bind fun t => mm_g (t, L, S, M, u)
  | .tableswitch d lo hi os => mm_i1 S fun x r => cond (decide (hi = lo + (os.size : Int) - 1)) ((mm_tg pc d).bind fun t => (mm_tw x pc L r M u lo os.toList).bind fun w =>
      some (.inr (.inr (.inl (w ++ [((x.toInt < lo ∨ hi < x.toInt), (t, L, r, M, u))]))))) none
  | .getfield k => mm_get P k pc L S M u
  | .putfield k => mm_put P k pc L S M u
  | .iaload => match S with
    | .int x :: .ref a :: r => mm_af P M a fun n f => mm_n (vp_in x n) (pc + 1, L, .int (f x.toNatClampNeg) :: r, M, u)
    | _ => none
  | .laload => match S with
    | .int x :: .ref a :: r => mm_al M a fun n f => mm_n (vp_in x n) (pc + 1, L, .long (f x.toNatClampNeg) :: r, M, u)
    | _ => none
  | .iastore => match S with
    | .int v :: .int x :: .ref a :: r => mm_ai M a fun n f => mm_n (vp_in x n) (pc + 1, L, r, M.set a (.inl (0, n, .inl (upd f x.toNatClampNeg v))), u)
    | _ => none
  | .lastore => match S with
    | .long v :: .int x :: .ref a :: r => mm_al M a fun n f => mm_n (vp_in x n) (pc + 1, L, r, M.set a (.inl (1, n, .inr (.inl (vp_updL f x.toNatClampNeg v)))), u)
    | _ => none
  | .arraylength => match S with
    | .ref a :: r => mm_af P M a fun n _ => mm_g (pc + 1, L, .int (Int32.ofNat n) :: r, M, u)
    | _ => none
  | .invokevirtual k => mm_cl P bt false k pc L S M u
  | .invokestatic k => mm_cl P bt true k pc L S M u
  | .ireturn => match S with
    | [.int x] => match ret with
      | some .int => mm_e True (.inl (some (.int x))) M u
      | some .boolean => mm_e (mm_z x) (.inl (some (.int x))) M u
      | _ => none
    | _ => none
  | .lreturn => match S, ret with
    | [.long x], some .long => mm_e True (.inl (some (.long x))) M u
    | _, _ => none
  | .return_ => match S, ret with
    | [], none => mm_e True (.inl none) M u
    | _, _ => none
  | .new _ => match S, mm_lk P.2.2.2.2.1 pc with
    | [], some E => mm_e True (.inr E) M (u + 1)
    | _, _ => none
  | _ => none
def mm_next (P : mm_P) (bt : Nat → Nat) (ret : Option FieldType) (nL : Nat) (q : mm_St) : Option mm_N := match mm_lk P.1 q.1 with
  | none => none
  | some i => mm_do P bt ret nL q.1 q.2.1 q.2.2.1 q.2.2.2.1 q.2.2.2.2 i.1
/-- every way whose condition holds -/
def mm_all (X : mm_St → Prop) : List (Prop × mm_St) → Prop
  | [] => True
  | q :: t => (q.1 → X q.2) ∧ mm_all X t
abbrev mm_K : Type := Nat → List Value → mm_M → (mm_R → mm_M → Prop) → Prop
/-- where a call threw -/
def mm_ex (Q : mm_R → mm_M → Prop) (X : mm_St → Prop) (E : String) (M : mm_M) : Option (Option mm_St) → Prop
  | none => False
  | some none => Q (.inr E) M
  | some (some s) => X s
/-- behind a call -/
def mm_rs (Q : mm_R → mm_M → Prop) (X : mm_St → Prop) (k : Option Value → mm_M → mm_St) (ce : String → mm_M → Option (Option mm_St)) : mm_R → mm_M → Prop
  | .inl v, M => X (k v M)
  | .inr E, M => mm_ex Q X E M (ce E M)
def mm_go (K : mm_K) (b : Nat) (Q : mm_R → mm_M → Prop) (X : mm_St → Prop) : Option mm_N → Prop
  | none => False
  | some (.inl s) => X s
  | some (.inr (.inl q)) => q.1 ∧ X q.2
  | some (.inr (.inr (.inl l))) => mm_all X l
  | some (.inr (.inr (.inr (.inl q)))) => q.1 ∧ q.2.2.2 ≤ b ∧ Q q.2.1 q.2.2.1
  | some (.inr (.inr (.inr (.inr q)))) => q.2.2.2.2.2 ≤ b ∧ K q.1 q.2.1 q.2.2.1 (mm_rs Q X q.2.2.2.1 q.2.2.2.2.1)
/-- from st the small machine comes to an end, and it is one of Q -/
def mm_W (K : mm_K) (P : mm_P) (bt : Nat → Nat) (b : Nat) (ret : Option FieldType) (nL : Nat) (Q : mm_R → mm_M → Prop) (st : mm_St) : Prop :=
  ∀ X : mm_St → Prop, (∀ s, mm_go K b Q X (mm_next P bt ret nL s) → X s) → X st
def mm_mono (K : mm_K) : Prop := ∀ (j : Nat) (a : List Value) (M : mm_M) (Q Q' : mm_R → mm_M → Prop), (∀ r M', Q r M' → Q' r M') → K j a M Q → K j a M Q'
theorem mm_all_mono {X Y : mm_St → Prop} (h : ∀ s, X s → Y s) : ∀ l, mm_all X l → mm_all Y l
  | [], _ => trivial
  | _ :: t, ⟨a, b⟩ => ⟨fun c => h _ (a c), mm_all_mono h t b⟩
theorem mm_rs_mono {Q Q' : mm_R → mm_M → Prop} {X Y : mm_St → Prop} (hQ : ∀ r M', Q r M' → Q' r M') (h : ∀ s, X s → Y s) (k : Option Value → mm_M → mm_St) (ce : String → mm_M → Option (Option mm_St)) : ∀ r M, mm_rs Q X k ce r M → mm_rs Q' Y k ce r M
  | .inl _, _, a => h _ a
  | .inr E, M, a => by
    replace a : mm_ex Q X E M (ce E M) := a
    show mm_ex Q' Y E M (ce E M)
    cases hc : ce E M with
    | none => rw [hc] at a; exact a
    | some o =>
      rw [hc] at a
      cases o with
      | none => exact hQ _ _ a
      | some s => exact h _ a
theorem mm_go_mono {K : mm_K} (hK : mm_mono K) {b : Nat} {Q Q' : mm_R → mm_M → Prop} {X Y : mm_St → Prop} (hQ : ∀ r M', Q r M' → Q' r M') (h : ∀ s, X s → Y s) : ∀ o, mm_go K b Q X o → mm_go K b Q' Y o
  | none, a => a
  | some (.inl _), a => h _ a
  | some (.inr (.inl _)), a => ⟨a.1, h _ a.2⟩
  | some (.inr (.inr (.inl l))), a => mm_all_mono h l a
  | some (.inr (.inr (.inr (.inl _)))), a => ⟨a.1, a.2.1, hQ _ _ a.2.2⟩
  | some (.inr (.inr (.inr (.inr _)))), a => ⟨a.1, hK _ _ _ _ _ (mm_rs_mono hQ h _ _) a.2⟩
section MMW
variable {K : mm_K} {P : mm_P} {bt : Nat → Nat} {b : Nat} {ret : Option FieldType} {nL : Nat} {Q : mm_R → mm_M → Prop}
theorem mm_fold (hK : mm_mono K) {st : mm_St} (h : mm_go K b Q (mm_W K P bt b ret nL Q) (mm_next P bt ret nL st)) : mm_W K P bt b ret nL Q st :=
  fun X hX => hX st (mm_go_mono hK (fun _ _ q => q) (fun _ hs => hs X hX) _ h)
theorem mm_W_mono (hK : mm_mono K) {Q' : mm_R → mm_M → Prop} (hQ : ∀ r M', Q r M' → Q' r M') {st : mm_St} (h : mm_W K P bt b ret nL Q st) : mm_W K P bt b ret nL Q' st :=
  h _ (fun _ q => mm_fold hK (mm_go_mono hK hQ (fun _ z => z) _ q))
/-- the straight way on, at most n steps -/
def mm_sk (P : mm_P) (bt : Nat → Nat) (ret : Option FieldType) (nL : Nat) : Nat → mm_St → mm_St
  | 0, s => s
  | n + 1, s => match mm_next P bt ret nL s with
    | some (.inl t) => mm_sk P bt ret nL n t
    | _ => s
theorem mm_skip (hK : mm_mono K) : ∀ (n : Nat) {st st' : mm_St}, mm_sk P bt ret nL n st = st' → mm_W K P bt b ret nL Q st' → mm_W K P bt b ret nL Q st
  | 0, _, _, e, h => by cases e; exact h
  | n + 1, st, st', e, h => by
    cases hn : mm_next P bt ret nL st with
    | none => rw [mm_sk, hn] at e; cases e; exact h
    | some q =>
      cases q with
      | inl t =>
        rw [mm_sk, hn] at e
        exact mm_fold hK (by rw [hn]; exact mm_skip hK n e h)
      | inr t => rw [mm_sk, hn] at e; cases e; exact h
end MMW
/-- a method's row in the table: name, code, locals, answer, budget, the small machine's program -/
abbrev mm_T : Type := MethodName × ByteArray × Nat × Option FieldType × Nat × mm_P
def mm_bt (T : List mm_T) (j : Nat) : Nat := match T[j]? with
  | some t => t.2.2.2.2.1
  | none => 0
/-- method j, with at most d calls open above one another -/
def mm_call (T : List mm_T) : Nat → mm_K
  | 0, _, _, _, _ => False
  | d + 1, j, a, M, Q => match T[j]? with
    | none => False
    | some t => (lg_sl a).length ≤ t.2.2.1 ∧ mm_W (mm_call T d) t.2.2.2.2.2 (mm_bt T) t.2.2.2.2.1 t.2.2.2.1 t.2.2.1 Q (0, lv_args 0 a, [], M, 0)
theorem mm_call_mono (T : List mm_T) : ∀ d, mm_mono (mm_call T d)
  | 0 => fun _ _ _ _ _ _ h => h
  | d + 1 => fun j a M Q Q' hQ h => by
    unfold mm_call at h ⊢
    split at h
    · exact h
    · next t ht => exact ⟨h.1, mm_W_mono (mm_call_mono T d) hQ h.2⟩
theorem mm_call_up (T : List mm_T) : ∀ d j a M Q, mm_call T d j a M Q → mm_call T (d + 1) j a M Q
  | 0, _, _, _, _, h => h.elim
  | d + 1, j, a, M, Q, h => by
    unfold mm_call at h ⊢
    split at h
    · exact h
    · next t ht =>
      refine ⟨h.1, h.2 _ (fun s q => ?_)⟩
      refine mm_fold (mm_call_mono T (d + 1)) ?_
      revert q
      cases mm_next t.2.2.2.2.2 (mm_bt T) t.2.2.2.1 t.2.2.1 s with
      | none => exact id
      | some o =>
        rcases o with o | o | o | o | o
        · exact id
        · exact id
        · exact id
        · exact id
        · exact fun q => ⟨q.1, mm_call_up T d _ _ _ _ q.2⟩
theorem mm_call_le (T : List mm_T) {d d' : Nat} (h : d ≤ d') {j : Nat} {a : List Value} {M : mm_M} {Q : mm_R → mm_M → Prop} (q : mm_call T d j a M Q) : mm_call T d' j a M Q := by
  induction h with
  | refl => exact q
  | step _ ih => exact mm_call_up T _ _ _ _ _ ih
/-- the world with addresses: ad gives each place's, aC the classes of int[] and long[] -/
def mm_v (ad : Nat → Nat) : Value → Value
  | .ref k => .ref (ad k)
  | v => v
def mm_en (ad aC : Nat → Nat) : va_E → va_E
  | .inl a => .inl (aC a.1, a.2)
  | .inr o => .inr (o.1, o.2.map (mm_v ad))
def mm_w (ad aC : Nat → Nat) : Nat → mm_M → va_W
  | _, [] => []
  | k, x :: M => (ad k, mm_en ad aC x) :: mm_w ad aC (k + 1) M
def mm_ty (aC : Nat → Nat) : List (ClassId × FieldType) := [(aC 0, .int), (aC 1, .long)]
end
section
/-! what the small machine does, the machine does -/
theorem mm_v_cat (ad : Nat → Nat) (v : Value) : (mm_v ad v).category = v.category := by cases v <;> rfl
theorem mm_lk_mem {α : Type} : ∀ {l : List (Nat × α)} {k : Nat} {v : α}, mm_lk l k = some v → (k, v) ∈ l
  | [], _, _, h => by cases h
  | (a, b) :: t, k, v, h => by
    unfold mm_lk at h
    cases hb : Nat.beq a k with
    | true =>
      rw [hb] at h
      have e1 : b = v := by simpa using h
      have e2 : a = k := Nat.eq_of_beq_eq_true hb
      subst e1; subst e2
      exact List.mem_cons_self
    | false =>
      rw [hb] at h
      exact List.mem_cons_of_mem _ (mm_lk_mem h)
abbrev mm_lm (ad : Nat → Nat) (L : mm_L) : mm_L := L.map fun q => (q.1, mm_v ad q.2)
theorem mm_filter (ad : Nat → Nat) (f : Nat → Nat → Bool) (L : mm_L) : (mm_lm ad L).filter (fun q => f q.1 q.2.category) = mm_lm ad (L.filter fun q => f q.1 q.2.category) := by
  unfold mm_lm
  rw [List.filter_map]
  congr 1
  apply List.filter_congr
  intro q _
  simp only [Function.comp, mm_v_cat]
theorem mm_s1_map (ad : Nat → Nat) (L : mm_L) (i : Nat) (v : Value) : (i, mm_v ad v) :: (mm_lm ad L).filter (fun q => !(q.1 == i) && !(q.1 + 1 == i && q.2.category == 2)) = mm_lm ad (mm_s1 L i v) := by
  have h := mm_filter ad (fun a b => !(a == i) && !(a + 1 == i && b == 2)) L
  exact congrArg _ h
theorem mm_s2_map (ad : Nat → Nat) (L : mm_L) (i : Nat) (v : Value) : (i, mm_v ad v) :: (mm_lm ad L).filter (fun q => !(q.1 == i) && (!(q.1 == i + 1) && !(q.1 + 1 == i && q.2.category == 2))) = mm_lm ad (mm_s2 L i v) := by
  have h := mm_filter ad (fun a b => !(a == i) && (!(a == i + 1) && !(a + 1 == i && b == 2))) L
  exact congrArg _ h
theorem mm_lm_at {ad : Nat → Nat} {ls : Array Slot} {nL : Nat} {L : mm_L} (h : lv_has ls nL (mm_lm ad L)) {i : Nat} {v : Value} (hk : mm_lk L i = some v) : ls[i]? = some (.val (mm_v ad v)) :=
  h.2.2 (i, mm_v ad v) (List.mem_map.mpr ⟨(i, v), mm_lk_mem hk, rfl⟩)
theorem mm_tg_eq {pc t : Nat} {off : Int} (h : mm_tg pc off = some t) : (pc : Int) + off = (t : Int) := by
  unfold mm_tg at h
  split at h
  · next x e => cases h; exact e
  · cases h
theorem mm_w_get (ad aC : Nat → Nat) : ∀ (M : mm_M) (k i : Nat), (mm_w ad aC k M)[i]? = (M[i]?).map (fun x => (ad (k + i), mm_en ad aC x))
  | [], _, _ => by simp [mm_w]
  | x :: M, k, 0 => by simp [mm_w]
  | x :: M, k, i + 1 => by
    have h := mm_w_get ad aC M (k + 1) i
    simp only [mm_w, List.getElem?_cons_succ]
    rw [h]
    rw [show k + 1 + i = k + (i + 1) by omega]
theorem mm_w_set (ad aC : Nat → Nat) : ∀ (M : mm_M) (k i : Nat) (x : va_E), mm_w ad aC k (M.set i x) = (mm_w ad aC k M).set i (ad (k + i), mm_en ad aC x)
  | [], _, _, _ => by simp [mm_w]
  | y :: M, k, 0, x => by simp [mm_w]
  | y :: M, k, i + 1, x => by
    have h := mm_w_set ad aC M (k + 1) i x
    simp only [mm_w, List.set_cons_succ]
    rw [h, show k + 1 + i = k + (i + 1) by omega]
theorem mm_w_at {ad aC : Nat → Nat} {M : mm_M} {i : Nat} {x : va_E} (h : M[i]? = some x) : (mm_w ad aC 0 M)[i]? = some (ad i, mm_en ad aC x) := by
  rw [mm_w_get, h, Nat.zero_add]; rfl
theorem mm_w_set0 (ad aC : Nat → Nat) (M : mm_M) (i : Nat) (x : va_E) : mm_w ad aC 0 (M.set i x) = (mm_w ad aC 0 M).set i (ad i, mm_en ad aC x) := by
  rw [mm_w_set, Nat.zero_add]
theorem mm_lv_args (ad : Nat → Nat) : ∀ (a : List Value) (i : Nat), lv_args i (a.map (mm_v ad)) = mm_lm ad (lv_args i a)
  | [], _ => rfl
  | v :: t, i => by
    simp only [List.map_cons, lv_args, mm_v_cat]
    rw [mm_lv_args ad t]
/-- the lengths of the instructions that the small machine knows; 0: any -/
def mm_len : Instr → Nat
  | .iconst _ | .lconst _ | .iload_n _ | .lload_n _ | .aload_n _ | .istore_n _ | .lstore_n _ | .iadd | .isub | .imul | .iand | .ishl | .ishr | .ineg | .ladd | .lsub | .lmul | .lneg | .ldiv | .lrem | .lcmp | .i2l | .l2i | .dup | .pop | .iaload | .laload | .iastore | .lastore | .arraylength | .ireturn | .lreturn | .return_ => 1
  | .bipush _ | .ldc _ | .iload _ | .lload _ | .aload _ | .istore _ | .lstore _ => 2
  | .sipush _ | .ldc2_w _ | .iinc _ _ | .ifCond _ _ | .if_icmp _ _ | .goto _ | .getfield _ | .putfield _ | .invokevirtual _ | .invokestatic _ => 3
  | _ => 0
/-- what isn't of the words: texts (owner, pool entry, text), links to a nest mate's fields, exceptions that are of their own kind -/
abbrev mm_Sx : Type := List (String × Nat × String) × List (String × Nat × String × String × String × String) × List String
def mm_nw (q : String × Nat × String × String × String × String) : Cond := .fieldLinkNest q.1 q.2.1 q.2.2.1 q.2.2.2.1 q.2.2.2.2.1 q.2.2.2.2.2
/-- what the tables must say of a method's fields, constants, calls -/
def mm_okF (Z : mm_Sx) (G : List Cond) (cl : List vw_C) (own : String) (q : Nat × Nat × Nat × Nat) : Prop :=
  ∃ (C : String) (T : u_T) (N : Nat) (ty0 : Nat → FieldType), cl[q.2.1]? = some (C, T, N) ∧ q.2.2.1 < N ∧ (∀ w ∈ u_ws C T N, w ∈ G) ∧ (∀ k, k < N → parseFieldDescriptor (T k).2.2.1 = some (ty0 k)) ∧ (∀ a, a < N → ∀ b, b < N → a ≠ b → (T a).2.1 ≠ (T b).2.1) ∧
    (Cond.fieldLink own q.1 (T q.2.2.1).1 (T q.2.2.1).2.1 (T q.2.2.1).2.2.1 ∈ G ∨ ∃ host, (own, q.1, (T q.2.2.1).1, (T q.2.2.1).2.1, (T q.2.2.1).2.2.1, host) ∈ Z.2.1) ∧
    (q.2.2.2 = 0 → (T q.2.2.1).2.2.2 = false ∧ ty0 q.2.2.1 = .int) ∧ (q.2.2.2 = 1 → (T q.2.2.1).2.2.2 = false ∧ ty0 q.2.2.1 = .boolean)
def mm_okK (G : List Cond) (own : String) (q : Nat × Value) : Prop := match q.2 with
  | .int x => Cond.constant own q.1 x ∈ G
  | .long x => Cond.constantLong own q.1 x ∈ G
  | _ => False
/-- the table of exceptions -/
def mm_hh (hs : List mm_H) : List (Nat × Nat × Nat × Nat) := hs.map fun h => (h.1, h.2.1, h.2.2.1, h.2.2.2.1)
def mm_cd (t : mm_T) : Cond := match mm_hs t.2.2.2.2.2 with
  | [] => .code t.1 t.2.1 t.2.2.1 t.2.2.2.1
  | h :: r => .codeWith t.1 t.2.1 t.2.2.1 t.2.2.2.1 (mm_hh (h :: r))
def mm_okH (Z : mm_Sx) (G : List Cond) (own : String) (cc : ByteArray) (nL : Nat) (h : mm_H) : Prop :=
  Cond.classLink own h.2.2.2.1 h.2.2.2.2.1 ∈ G ∧ h.2.2.2.2.1 ∈ Z.2.2 ∧ h.2.2.2.1 ≠ 0 ∧ h.2.2.2.2.2.2 < nL ∧
    ((∃ k : Fin 4, (k : Nat) = h.2.2.2.2.2.2 ∧ decode cc h.2.2.1 = .ok (.astore_n k, 1) ∧ h.2.2.2.2.2.1 = h.2.2.1 + 1) ∨ (decode cc h.2.2.1 = .ok (.astore h.2.2.2.2.2.2, 2) ∧ h.2.2.2.2.2.1 = h.2.2.1 + 2))
def mm_okC (G : List Cond) (cl : List vw_C) (T : List mm_T) (own : String) (q : Nat × Nat × Nat × Nat) : Prop :=
  (q.2.2.2 = 98 → Cond.methodLink own q.1 arraycopyName ∈ G ∧ Cond.native arraycopyName ∈ G ∧ Cond.static arraycopyName ∈ G ∧ Cond.initialized "java/lang/System" ∈ G) ∧
  (q.2.2.2 ≠ 98 → ∃ t : mm_T, T[q.2.1]? = some t ∧ mm_cd t ∈ G ∧ Cond.methodLink own q.1 t.1 ∈ G ∧ Cond.initialized t.1.cls ∈ G ∧ t.2.2.1 ≤ 40 ∧ (t.1.cls ≠ "java/lang/invoke/MethodHandle" ∧ t.1.cls ≠ "java/lang/invoke/VarHandle") ∧
    (q.2.2.2 = 99 → Cond.static t.1 ∈ G ∧ (parseMethodDescriptor t.1.desc).map (fun d => d.parameters.length) = some q.2.2.1) ∧
    (q.2.2.2 ≠ 99 → mm_hs t.2.2.2.2.2 = [] ∧ Cond.instanceMethod t.1 ∈ G ∧ Cond.selects t.1.cls t.1 t.1 ∈ G ∧ (∃ z, cl[q.2.2.2]? = some z ∧ z.1 = t.1.cls) ∧ ∃ n, q.2.2.1 = n + 1 ∧ (parseMethodDescriptor t.1.desc).map (fun d => d.parameters.length) = some n))
def mm_ok (Z : mm_Sx) (G : List Cond) (cl : List vw_C) (T : List mm_T) (own : String) (cc : ByteArray) (nL : Nat) (P : mm_P) : Prop :=
  (∀ q ∈ P.1, decode cc q.1 = .ok (q.2.1, q.2.2) ∧ (mm_len q.2.1 = 0 ∨ q.2.2 = mm_len q.2.1)) ∧ (∀ q ∈ P.2.1, mm_okF Z G cl own q) ∧ (∀ q ∈ P.2.2.1, mm_okK G own q) ∧ (∀ q ∈ P.2.2.2.1, mm_okC G cl T own q) ∧ (∀ h ∈ mm_hs P, mm_okH Z G own cc nL h) ∧ (mm_hs P = [] ∨ P.2.2.2.2.1 = [])
/-- a room that is large enough -/
def mm_rm (R : Room) (d b : Nat) : Prop := 8 + (d + 1) ≤ R.frames ∧ 300 + 64 * (d + 1) ≤ R.locals ∧ b ≤ R.cells ∧ 6 * b ≤ R.slots
def mm_room (d b : Nat) : Room := { frames := 8 + d, cells := b, slots := 6 * b, locals := 300 + 64 * d }
/-- what throws need of the start -/
def mm_Th (Z : mm_Sx) (A : Nat → Prop) (U : State) (H : Heap) : Prop :=
  vx_Zq Bundle.tN "UNASSIGNED_STACK" Bundle.steD A U H ∧ vx_Zq Bundle.tN "SUPPRESSED_SENTINEL" Bundle.listD A U H ∧ (∀ q ∈ Z.1, ∃ sa, vk_R q.1 q.2.1 q.2.2 sa U) ∧ (∀ q ∈ Z.2.1, va_Nw (mm_nw q) U) ∧ (∀ E ∈ Z.2.2, va_Nw (.castable E E) U) ∧ ∀ E ∈ Z.2.2, ∀ F ∈ Z.2.2, E ≠ F → va_Nc E F U
def mm_Pw (Z : mm_Sx) (D : va_G) (cl : List vw_C) (ad aC : Nat → Nat) (sz : Nat) (M : mm_M) (U : State) : Prop :=
  U.heap.size = sz ∧ va_P D cl (mm_w ad aC 0 M) U.heap ∧ va_K D cl (mm_ty aC) U ∧ va_D (fun _ => True) (mm_w ad aC 0 M) ∧ mm_Th Z (va_A (mm_w ad aC 0 M) sz) U U.heap
def mm_B (D : va_G) (cl : List vw_C) (ad aC : Nat → Nat) (A : Nat → Prop) (M : mm_M) (t : State) : Prop := va_P D cl (mm_w ad aC 0 M) t.heap ∧ va_K D cl (mm_ty aC) t ∧ va_D A (mm_w ad aC 0 M)
def mm_Qc (D : va_G) (cl : List vw_C) (ad aC : Nat → Nat) (A : Nat → Prop) (Q : mm_R → mm_M → Prop) : Array Value → State → Outcome → State → Prop := fun _ st oc t =>
  ∃ (v : Option Value) (M : mm_M), oc = .returned (v.map (mm_v ad)) ∧ Q (.inl v) M ∧ mm_B D cl ad aC A M t ∧ va_F A st t
def mm_XC (D : va_G) (cl : List vw_C) (ad aC : Nat → Nat) (A : Nat → Prop) (Q : mm_R → mm_M → Prop) : String → State → State → Prop := fun E st t =>
  ∃ M : mm_M, Q (.inr E) M ∧ mm_B D cl ad aC A M t ∧ va_F A st t
end
section
section MMC
variable {p : Program} {l : Launch} {e : Env} {R : Room} {s : State} {m : MethodId} {args : Array Value} {below : List Frame} {meth : Method} {c : Code} {H : Heap} {locs : List Loc} {cells slots : Nat} {QQ : State → Prop}
variable {D : va_G} {cl : List vw_C} {ad aC : Nat → Nat} {A0 A1 : Nat → Prop} {H0 : Heap} {mc ms : Nat} {free : Addr → Prop} {a : Array Value} {pc : Nat} {ls : Array Slot} {st0 rest : List Value} {Q : mm_R → mm_M → Prop}
/-- behind a call -/
theorem mm_callrow (hr : vx_Run p l e R s m args below meth c H locs cells slots mc ms (F0 m pc ls st0) rest (mm_Qc D cl ad aC A1 Q a) (mm_XC D cl ad aC A1 Q) free) (hS : va_S A0 H0 H locs) (hA : ∀ q, q < H.size → A1 q → A0 q) (hf : ∀ q, free q → A0 q)
    (kx : ∀ (E : String) (ce : Cell) (q9 : Addr) (M : mm_M) (t : State) (H1 : Heap) (locs1 : List Loc), t.heap = H1 → s.vm.Alike t.vm → Q (.inr E) M → mm_B D cl ad aC A1 M t → H.size ≤ H1.size → (∀ q : Nat, q < H.size → ¬ A1 q → H1[q]? = H[q]?) → va_S A0 H0 H1 locs1 → H1[q9]? = some ce → ce.vm = .none → s.vm.findClass E = some ce.cls → vx_W p l e R s m args below meth c H1 locs1 (cells + mc) (slots + ms) QQ (F0 m pc ls rest) q9)
    (kk : ∀ (v : Option Value) (M : mm_M) (t : State) (H1 : Heap) (locs1 : List Loc), t.heap = H1 → s.vm.Alike t.vm → Q (.inl v) M → mm_B D cl ad aC A1 M t → H.size ≤ H1.size → (∀ q : Nat, q < H.size → ¬ A1 q → H1[q]? = H[q]?) → va_S A0 H0 H1 locs1 → W p l e R s m args below meth c H1 locs1 (cells + mc) (slots + ms) QQ (F0 m (pc + 3) ls ((v.map (mm_v ad)).toList ++ rest))) :
    W p l e R s m args below meth c H locs cells slots QQ (F0 m pc ls st0) := by
  intro T hT X
  rcases hr T hT X with ⟨v, st₀, t, T', L, h0, X', hL, e1, e2, ⟨v', M, hv, hq, hB, hF⟩, st⟩ | ⟨q, st₀, t, T', L, E, ce, h0, X', hL, e1, e2, ⟨M, hq, hB, hF⟩, hce, hcv, hcl, st⟩
  · cases hv
    obtain ⟨k1, k2, k3⟩ := vx_keep h0 e1 hS hA hf hL hF
    obtain ⟨t2, a1, b1⟩ := kk v' M t T'.heap (locs ++ L) e1.symm (by rw [← e2]; exact X'.warmed.alike) hq hB k1 k2 k3 T' rfl X'
    exact ⟨t2, st t2 a1, b1⟩
  · obtain ⟨k1, k2, k3⟩ := vx_keep h0 e1 hS hA hf hL hF
    obtain ⟨t2, a1, b1⟩ := kx E ce q M t T'.heap (locs ++ L) e1.symm (by rw [← e2]; exact X'.warmed.alike) hq hB k1 k2 k3 (by rw [e1]; exact hce) hcv hcl T' rfl X'
    exact ⟨t2, st.trans a1, b1⟩
end MMC
/-- the machine stands where the small one does, and comes to QQ -/
def mm_X (p : Program) (l : Launch) (e : Env) (R : Room) (s : State) (m : MethodId) (args : Array Value) (below : List Frame) (meth : Method) (c : Code) (D : va_G) (cl : List vw_C) (ad aC : Nat → Nat) (A : Nat → Prop) (nL : Nat) (QQ : State → Prop) (st : mm_St) : Prop :=
  ∀ (ls : Array Slot) (H : Heap) (locs : List Loc), lv_has ls nL (mm_lm ad st.2.1) → va_P D cl (mm_w ad aC 0 st.2.2.2.1) H → va_D A (mm_w ad aC 0 st.2.2.2.1) → va_S A s.heap H locs → W p l e R s m args below meth c H locs st.2.2.2.2 (6 * st.2.2.2.2) QQ (F0 m st.1 ls (st.2.2.1.map (mm_v ad)))
def mm_Cx (Z : mm_Sx) (p : Program) (s : State) (m : MethodId) (args : Array Value) (meth : Method) (c : Code) (D : va_G) (cl : List vw_C) (ad aC : Nat → Nat) (A : Nat → Prop) (G : List Cond) (own : String) (cc : ByteArray) (nL : Nat) (ret : Option FieldType) (hs : List mm_H) (fz : List (Nat × Nat × (Nat → Int32))) : Prop :=
  p.tables.exec = Jvm.exec ∧ c.code = cc ∧ c.maxLocals = nL ∧ s.vm.findClass own = some m.cls ∧ (∀ w ∈ G, w.before args s = true) ∧ meth.sig.returnType = ret ∧ meth.locks = false ∧ c.exceptionTable.toList = tableOf (mm_hh hs) ∧ va_K D cl (mm_ty aC) s ∧ (∀ q, s.heap.size ≤ q → A q) ∧ (∀ q ∈ Z.2.1, va_Nw (mm_nw q) s) ∧ ∀ q ∈ fz, va_X (ad q.1) q.2.1 q.2.2 s s.heap ∧ ad q.1 < s.heap.size ∧ ¬ A (ad q.1)
theorem mm_l {a b n : Nat} (h : a = 0 ∨ b = a) (e : a = n + 1) : b = n + 1 := by omega
section MMI
variable {K : mm_K} {b : Nat} {Q : mm_R → mm_M → Prop} {X : mm_St → Prop}
theorem mm_i1_inv {S : List Value} {f : Int32 → List Value → Option mm_N} (h : mm_go K b Q X (mm_i1 S f)) : ∃ x r, S = .int x :: r ∧ mm_go K b Q X (f x r) := by
  unfold mm_i1 at h
  split at h
  · exact ⟨_, _, rfl, h⟩
  · exact h.elim
theorem mm_i2_inv {S : List Value} {f : Int32 → Int32 → List Value → Option mm_N} (h : mm_go K b Q X (mm_i2 S f)) : ∃ y x r, S = .int y :: .int x :: r ∧ mm_go K b Q X (f y x r) := by
  unfold mm_i2 at h
  split at h
  · exact ⟨_, _, _, rfl, h⟩
  · exact h.elim
theorem mm_l1_inv {S : List Value} {f : Int64 → List Value → Option mm_N} (h : mm_go K b Q X (mm_l1 S f)) : ∃ x r, S = .long x :: r ∧ mm_go K b Q X (f x r) := by
  unfold mm_l1 at h
  split at h
  · exact ⟨_, _, rfl, h⟩
  · exact h.elim
theorem mm_l2_inv {S : List Value} {f : Int64 → Int64 → List Value → Option mm_N} (h : mm_go K b Q X (mm_l2 S f)) : ∃ y x r, S = .long y :: .long x :: r ∧ mm_go K b Q X (f y x r) := by
  unfold mm_l2 at h
  split at h
  · exact ⟨_, _, _, rfl, h⟩
  · exact h.elim
theorem mm_li_inv {L : mm_L} {i : Nat} {f : Int32 → Option mm_N} (h : mm_go K b Q X (mm_li L i f)) : ∃ x, mm_lk L i = some (.int x) ∧ mm_go K b Q X (f x) := by
  unfold mm_li at h
  split at h
  · next hq => exact ⟨_, hq, h⟩
  · exact h.elim
theorem mm_ll_inv {L : mm_L} {i : Nat} {f : Int64 → Option mm_N} (h : mm_go K b Q X (mm_ll L i f)) : ∃ x, mm_lk L i = some (.long x) ∧ mm_go K b Q X (f x) := by
  unfold mm_ll at h
  split at h
  · next hq => exact ⟨_, hq, h⟩
  · exact h.elim
theorem mm_la_inv {L : mm_L} {i : Nat} {f : Nat → Option mm_N} (h : mm_go K b Q X (mm_la L i f)) : ∃ x, mm_lk L i = some (.ref x) ∧ mm_go K b Q X (f x) := by
  unfold mm_la at h
  split at h
  · next hq => exact ⟨_, hq, h⟩
  · exact h.elim
theorem mm_ai_inv {M : mm_M} {a : Nat} {f : Nat → (Nat → Int32) → Option mm_N} (h : mm_go K b Q X (mm_ai M a f)) : ∃ n z, M[a]? = some (.inl (0, n, .inl z)) ∧ mm_go K b Q X (f n z) := by
  unfold mm_ai at h
  split at h
  · next hq => exact ⟨_, _, hq, h⟩
  · exact h.elim
theorem mm_af_inv {P : mm_P} {M : mm_M} {a : Nat} {f : Nat → (Nat → Int32) → Option mm_N} (h : mm_go K b Q X (mm_af P M a f)) : (∃ n z, M[a]? = some (.inl (0, n, .inl z)) ∧ mm_go K b Q X (f n z)) ∨ ∃ n z, mm_lk (mm_fz P) a = some (n, z) ∧ mm_go K b Q X (f n z) := by
  unfold mm_af at h
  split at h
  · next hq => exact Or.inl ⟨_, _, hq, h⟩
  · split at h
    · next q hq => exact Or.inr ⟨q.1, q.2, hq, h⟩
    · exact h.elim
  · exact h.elim
theorem mm_al_inv {M : mm_M} {a : Nat} {f : Nat → (Nat → Int64) → Option mm_N} (h : mm_go K b Q X (mm_al M a f)) : ∃ n z, M[a]? = some (.inl (1, n, .inr (.inl z))) ∧ mm_go K b Q X (f n z) := by
  unfold mm_al at h
  split at h
  · next hq => exact ⟨_, _, hq, h⟩
  · exact h.elim
theorem mm_cond_inv {t : Bool} {o : Option mm_N} (h : mm_go K b Q X (cond t o none)) : t = true ∧ mm_go K b Q X o := by
  cases t with
  | true => exact ⟨rfl, h⟩
  | false => exact h.elim
theorem mm_ob_inv {M : mm_M} {a ci : Nat} {f : List Value → Option mm_N} (h : mm_go K b Q X (mm_ob M a ci f)) : ∃ fs, M[a]? = some (.inr (ci, fs)) ∧ mm_go K b Q X (f fs) := by
  unfold mm_ob at h
  split at h
  · next c fs hq =>
    obtain ⟨hc, h9⟩ := mm_cond_inv h
    have e := Nat.eq_of_beq_eq_true hc
    exact ⟨fs, by rw [← e]; exact hq, h9⟩
  · exact h.elim
theorem mm_bind_inv {o : Option Nat} {f : Nat → Option mm_N} (h : mm_go K b Q X (o.bind f)) : ∃ t, o = some t ∧ mm_go K b Q X (f t) := by
  cases o with
  | none => exact h.elim
  | some t => exact ⟨t, rfl, h⟩
theorem mm_bc_eq {x y : Int32} {s t : mm_St} (h : mm_go K b Q X (mm_bc .eq x y s t)) : (x = y → X s) ∧ (¬ x = y → X t) := ⟨h.1, h.2.1⟩
theorem mm_bc_ne {x y : Int32} {s t : mm_St} (h : mm_go K b Q X (mm_bc .ne x y s t)) : (¬ x = y → X s) ∧ (x = y → X t) := ⟨h.2.1, h.1⟩
theorem mm_bc_lt {x y : Int32} {s t : mm_St} (h : mm_go K b Q X (mm_bc .lt x y s t)) : (x < y → X s) ∧ (¬ x < y → X t) := ⟨h.1, h.2.1⟩
theorem mm_bc_ge {x y : Int32} {s t : mm_St} (h : mm_go K b Q X (mm_bc .ge x y s t)) : (y ≤ x → X s) ∧ (¬ y ≤ x → X t) := ⟨h.1, h.2.1⟩
theorem mm_bc_gt {x y : Int32} {s t : mm_St} (h : mm_go K b Q X (mm_bc .gt x y s t)) : (y < x → X s) ∧ (¬ y < x → X t) := ⟨h.1, h.2.1⟩
theorem mm_bc_le {x y : Int32} {s t : mm_St} (h : mm_go K b Q X (mm_bc .le x y s t)) : (x ≤ y → X s) ∧ (¬ x ≤ y → X t) := ⟨h.1, h.2.1⟩
end MMI
theorem mm_w_obj (ad aC : Nat → Nat) (M : mm_M) (a ci i : Nat) (fs : List Value) (v : Value) : mm_w ad aC 0 (M.set a (.inr (ci, fs.set i v))) = (mm_w ad aC 0 M).set a (ad a, .inr (ci, (fs.map (mm_v ad)).set i (mm_v ad v))) := by
  rw [mm_w_set0]
  simp only [mm_en, List.map_set]
theorem mm_w_arr (ad aC : Nat → Nat) (M : mm_M) (a k : Nat) (x : vp_A) : mm_w ad aC 0 (M.set a (.inl (k, x))) = (mm_w ad aC 0 M).set a (ad a, .inl (aC k, x)) := by
  rw [mm_w_set0]; rfl
theorem mm_cat_map (ad : Nat → Nat) : ∀ S : List Value, ((S.map (mm_v ad)).map fun v => v.category).sum = mm_cat S
  | [] => rfl
  | v :: S => by
    have h := mm_cat_map ad S
    simp only [mm_cat, List.map_cons, List.sum_cons, mm_v_cat] at h ⊢
    rw [h]
theorem mm_narZ {x : Int32} (h : mm_z x) : narrow .boolean (.int x) = .int x ∧ fits .boolean (.int x) = true := by
  rcases h with rfl | rfl
  · exact ⟨by decide +kernel, by decide +kernel⟩
  · exact ⟨by decide +kernel, by decide +kernel⟩
section MMJ
variable {K : mm_K} {b : Nat} {Q : mm_R → mm_M → Prop} {X : mm_St → Prop}
theorem mm_bindL_inv {o : Option (List (Prop × mm_St))} {f : List (Prop × mm_St) → Option mm_N} (h : mm_go K b Q X (o.bind f)) : ∃ t, o = some t ∧ mm_go K b Q X (f t) := by
  cases o with
  | none => exact h.elim
  | some t => exact ⟨t, rfl, h⟩
theorem mm_all_app : ∀ {w v : List (Prop × mm_St)}, mm_all X (w ++ v) → mm_all X w ∧ mm_all X v
  | [], _, h => ⟨trivial, h⟩
  | _ :: w, v, h => ⟨⟨h.1, (mm_all_app (w := w) h.2).1⟩, (mm_all_app (w := w) h.2).2⟩
theorem mm_all_last {w : List (Prop × mm_St)} {c : Prop} {s : mm_St} (h : mm_go K b Q X (some (.inr (.inr (.inl (w ++ [(c, s)])))))) (hc : c) : X s := (mm_all_app (w := w) h).2.1 hc
theorem mm_all_left {w : List (Prop × mm_St)} {c : Prop} {s : mm_St} (h : mm_go K b Q X (some (.inr (.inr (.inl (w ++ [(c, s)])))))) : mm_all X w := (mm_all_app (w := w) h).1
theorem mm_tw_at {x : Int32} {pc : Nat} {L : mm_L} {r : List Value} {M : mm_M} {u : Nat} : ∀ {os : List Int} {k : Int} {w : List (Prop × mm_St)} {n : Nat} {o : Int}, mm_tw x pc L r M u k os = some w → os[n]? = some o → x.toInt = k + (n : Int) → mm_all X w → ∃ t, mm_tg pc o = some t ∧ X (t, L, r, M, u)
  | [], _, _, n, _, _, ho, _, _ => by simp at ho
  | o1 :: os, k, w, n, o, hw, ho, hx, hX => by
    unfold mm_tw at hw
    cases ht : mm_tg pc o1 with
    | none => rw [ht] at hw; cases hw
    | some t =>
      rw [ht] at hw
      cases hw2 : mm_tw x pc L r M u (k + 1) os with
      | none => rw [hw2] at hw; cases hw
      | some w2 =>
        rw [hw2] at hw
        cases hw
        cases n with
        | zero =>
          simp at ho
          subst ho
          exact ⟨t, ht, hX.1 (by simpa using hx)⟩
        | succ n =>
          rw [List.getElem?_cons_succ] at ho
          exact mm_tw_at (k := k + 1) hw2 ho (by rw [hx]; push_cast; omega) hX.2
end MMJ
end
section
set_option maxHeartbeats 4000000 in
set_option maxRecDepth 100000 in
/-- one step of the small machine is a stretch of the machine's -/
theorem mm_close {p : Program} {l : Launch} {e : Env} {s : State} {m : MethodId} {args : Array Value} {below : List Frame} {meth : Method} {c : Code} {D : va_G} {cl : List vw_C} {ad aC : Nat → Nat} {A : Nat → Prop} {Z : mm_Sx} {G : List Cond} {T : List mm_T} {own : String} {cc : ByteArray} {nL b d : Nat} {ret : Option FieldType} {P : mm_P} {K : mm_K} {Q : mm_R → mm_M → Prop} {QQ : State → Prop} {R : Room}
    (hR : mm_rm R d b) (C : mm_Cx Z p s m args meth c D cl ad aC A G own cc nL ret (mm_hs P) (mm_fz P)) (ok : mm_ok Z G cl T own cc nL P)
    (hthr : ∀ pc E, mm_lk P.2.2.2.2.1 pc = some E → ∀ L M u, u + 1 ≤ b → Q (.inr E) M → mm_X p l e (R) s m args below meth c D cl ad aC A nL QQ (pc, L, [], M, u))
    (hrt : ∀ (r : Option Value) (M : mm_M) (u : Nat), u ≤ b → Q (.inl r) M → ∀ (i : Instr) (pc : Nat), decode cc pc = .ok (i, 1) → (∀ x, r = some (.int x) → i = .ireturn ∧ (ret = some .int ∨ (ret = some .boolean ∧ mm_z x))) → (∀ x, r = some (.long x) → i = .lreturn ∧ ret = some .long) → (r = none → i = .return_ ∧ ret = none) → (∀ v, r = some v → (∃ x, v = .int x) ∨ ∃ x, v = .long x) → ∀ L, mm_X p l e (R) s m args below meth c D cl ad aC A nL QQ (pc, L, r.toList, M, u))
    (hcl : ∀ (k j n ci : Nat), mm_lk P.2.2.2.1 k = some (j, n, ci) → ci ≠ 98 → ∀ (st : Bool) (pc : Nat) (L : mm_L) (S : List Value) (M : mm_M) (u : Nat), decode cc pc = .ok (if st then .invokestatic k else .invokevirtual k, 3) → n ≤ S.length → mm_cat (S.drop n) ≤ 8 → (st = true → ci = 99) → (st = false → ci ≠ 99 ∧ ∃ a t fs, (S.take n).reverse = .ref a :: t ∧ M[a]? = some (.inr (ci, fs))) → u + mm_bt T j ≤ b →
      K j (S.take n).reverse M (mm_rs Q (mm_X p l e (R) s m args below meth c D cl ad aC A nL QQ) (fun v M' => (pc + 3, L, v.toList ++ S.drop n, M', u + mm_bt T j)) (mm_ce P pc L (u + mm_bt T j))) → mm_X p l e (R) s m args below meth c D cl ad aC A nL QQ (pc, L, S, M, u)) :
    ∀ st, mm_go K b Q (mm_X p l e (R) s m args below meth c D cl ad aC A nL QQ) (mm_next P (mm_bt T) ret nL st) → mm_X p l e (R) s m args below meth c D cl ad aC A nL QQ st := by
  intro st h
  obtain ⟨pc, L, S, M, u⟩ := st
  obtain ⟨hx, hb, hml, hown, hts, hr, hlk, htab, hK0, hA, hnest, hfz⟩ := C
  obtain ⟨okc, okf, okk, okm, okh, -⟩ := ok
  unfold mm_next at h
  dsimp only at h
  split at h
  · exact h.elim
  next i hc =>
  obtain ⟨i, len⟩ := i
  obtain ⟨hd, hlen⟩ := okc _ (mm_lk_mem hc)
  dsimp only at hd hlen h
  cases i with
  | iconst n =>
    obtain rfl := mm_l hlen (n := 0) rfl
    intro ls H locs hl hP hD hS
    exact lv_iconst hx hb hd rfl (h ls H locs hl hP hD hS)
  | lconst n =>
    obtain rfl := mm_l hlen (n := 0) rfl
    intro ls H locs hl hP hD hS
    exact lv_lconst hx hb hd rfl (h ls H locs hl hP hD hS)
  | bipush n =>
    obtain rfl := mm_l hlen (n := 1) rfl
    intro ls H locs hl hP hD hS
    exact lv_bipush hx hb hd rfl (h ls H locs hl hP hD hS)
  | sipush n =>
    obtain rfl := mm_l hlen (n := 2) rfl
    intro ls H locs hl hP hD hS
    exact lv_sipush hx hb hd rfl (h ls H locs hl hP hD hS)
  | ldc k =>
    obtain rfl := mm_l hlen (n := 1) rfl
    unfold mm_do at h
    dsimp only at h
    split at h
    · next x hk =>
      have hw := okk _ (mm_lk_mem hk)
      intro ls H locs hl hP hD hS
      exact lv_ldc hx hb hown (hts _ hw) hd (h ls H locs hl hP hD hS)
    · exact h.elim
  | ldc2_w k =>
    obtain rfl := mm_l hlen (n := 2) rfl
    unfold mm_do at h
    dsimp only at h
    split at h
    · next x hk =>
      have hw := okk _ (mm_lk_mem hk)
      intro ls H locs hl hP hD hS
      exact lv_ldc2 hx hb hown (hts _ hw) hd (h ls H locs hl hP hD hS)
    · exact h.elim
  | iload_n k =>
    obtain rfl := mm_l hlen (n := 0) rfl
    obtain ⟨x, hk, h⟩ := mm_li_inv h
    intro ls H locs hl hP hD hS
    exact lv_iload_n hx hb hd rfl (mm_lm_at hl hk) (h ls H locs hl hP hD hS)
  | iload k =>
    obtain rfl := mm_l hlen (n := 1) rfl
    obtain ⟨x, hk, h⟩ := mm_li_inv h
    intro ls H locs hl hP hD hS
    exact lv_iload hx hb hd (mm_lm_at hl hk) (h ls H locs hl hP hD hS)
  | lload_n k =>
    obtain rfl := mm_l hlen (n := 0) rfl
    obtain ⟨x, hk, h⟩ := mm_ll_inv h
    intro ls H locs hl hP hD hS
    exact lv_lload_n hx hb hd rfl (mm_lm_at hl hk) (h ls H locs hl hP hD hS)
  | lload k =>
    obtain rfl := mm_l hlen (n := 1) rfl
    obtain ⟨x, hk, h⟩ := mm_ll_inv h
    intro ls H locs hl hP hD hS
    exact lv_lload hx hb hd (mm_lm_at hl hk) (h ls H locs hl hP hD hS)
  | aload_n k =>
    obtain rfl := mm_l hlen (n := 0) rfl
    obtain ⟨x, hk, h⟩ := mm_la_inv h
    intro ls H locs hl hP hD hS
    exact lv_aload_n hx hb hd rfl (mm_lm_at hl hk) (h ls H locs hl hP hD hS)
  | aload k =>
    obtain rfl := mm_l hlen (n := 1) rfl
    obtain ⟨x, hk, h⟩ := mm_la_inv h
    intro ls H locs hl hP hD hS
    exact lv_aload hx hb hd (mm_lm_at hl hk) (h ls H locs hl hP hD hS)
  | istore_n k =>
    obtain rfl := mm_l hlen (n := 0) rfl
    obtain ⟨x, r, rfl, h⟩ := mm_i1_inv h
    obtain ⟨hn, h⟩ := mm_cond_inv h
    have hn := Nat.le_of_ble_eq_true hn
    intro ls H locs hl hP hD hS
    exact lv_istore_n hx hb hd rfl hl hn (mm_s1_map ad L _ (.int x)) (fun ls' hl' => h ls' H locs hl' hP hD hS)
  | istore k =>
    obtain rfl := mm_l hlen (n := 1) rfl
    obtain ⟨x, r, rfl, h⟩ := mm_i1_inv h
    obtain ⟨hn, h⟩ := mm_cond_inv h
    have hn := Nat.le_of_ble_eq_true hn
    intro ls H locs hl hP hD hS
    exact lv_istore hx hb hd hl hn (mm_s1_map ad L _ (.int x)) (fun ls' hl' => h ls' H locs hl' hP hD hS)
  | lstore_n k =>
    obtain rfl := mm_l hlen (n := 0) rfl
    obtain ⟨x, r, rfl, h⟩ := mm_l1_inv h
    obtain ⟨hn, h⟩ := mm_cond_inv h
    have hn := Nat.le_of_ble_eq_true hn
    intro ls H locs hl hP hD hS
    exact lv_lstore_n hx hb hd rfl hl hn (mm_s2_map ad L _ (.long x)) (fun ls' hl' => h ls' H locs hl' hP hD hS)
  | lstore k =>
    obtain rfl := mm_l hlen (n := 1) rfl
    obtain ⟨x, r, rfl, h⟩ := mm_l1_inv h
    obtain ⟨hn, h⟩ := mm_cond_inv h
    have hn := Nat.le_of_ble_eq_true hn
    intro ls H locs hl hP hD hS
    exact lv_lstore hx hb hd hl hn (mm_s2_map ad L _ (.long x)) (fun ls' hl' => h ls' H locs hl' hP hD hS)
  | iinc k n =>
    obtain rfl := mm_l hlen (n := 2) rfl
    obtain ⟨x, hk, h⟩ := mm_li_inv h
    obtain ⟨hn, h⟩ := mm_cond_inv h
    have hn := Nat.le_of_ble_eq_true hn
    intro ls H locs hl hP hD hS
    obtain ⟨z, hz⟩ := List.getElem?_of_mem (List.mem_map.mpr ⟨(k, .int x), mm_lk_mem hk, rfl⟩ : (k, mm_v ad (.int x)) ∈ mm_lm ad L)
    exact lv_iinc hx hb hd hl hz rfl hn (mm_s1_map ad L k (.int (x + Int32.ofInt n))) (fun ls' hl' => h ls' H locs hl' hP hD hS)
  | iadd =>
    obtain rfl := mm_l hlen (n := 0) rfl
    obtain ⟨y, x, r, rfl, h⟩ := mm_i2_inv h
    intro ls H locs hl hP hD hS
    exact lv_iadd hx hb hd (h ls H locs hl hP hD hS)
  | isub =>
    obtain rfl := mm_l hlen (n := 0) rfl
    obtain ⟨y, x, r, rfl, h⟩ := mm_i2_inv h
    intro ls H locs hl hP hD hS
    exact lv_isub hx hb hd (h ls H locs hl hP hD hS)
  | imul =>
    obtain rfl := mm_l hlen (n := 0) rfl
    obtain ⟨y, x, r, rfl, h⟩ := mm_i2_inv h
    intro ls H locs hl hP hD hS
    exact lv_imul hx hb hd (h ls H locs hl hP hD hS)
  | iand =>
    obtain rfl := mm_l hlen (n := 0) rfl
    obtain ⟨y, x, r, rfl, h⟩ := mm_i2_inv h
    intro ls H locs hl hP hD hS
    exact lv_iand hx hb hd (h ls H locs hl hP hD hS)
  | ishl =>
    obtain rfl := mm_l hlen (n := 0) rfl
    obtain ⟨y, x, r, rfl, h⟩ := mm_i2_inv h
    intro ls H locs hl hP hD hS
    exact lv_ishl hx hb hd (h ls H locs hl hP hD hS)
  | ishr =>
    obtain rfl := mm_l hlen (n := 0) rfl
    obtain ⟨y, x, r, rfl, h⟩ := mm_i2_inv h
    intro ls H locs hl hP hD hS
    exact lv_ishr hx hb hd (h ls H locs hl hP hD hS)
  | ladd =>
    obtain rfl := mm_l hlen (n := 0) rfl
    obtain ⟨y, x, r, rfl, h⟩ := mm_l2_inv h
    intro ls H locs hl hP hD hS
    exact lv_ladd hx hb hd (h ls H locs hl hP hD hS)
  | lsub =>
    obtain rfl := mm_l hlen (n := 0) rfl
    obtain ⟨y, x, r, rfl, h⟩ := mm_l2_inv h
    intro ls H locs hl hP hD hS
    exact lv_lsub hx hb hd (h ls H locs hl hP hD hS)
  | lmul =>
    obtain rfl := mm_l hlen (n := 0) rfl
    obtain ⟨y, x, r, rfl, h⟩ := mm_l2_inv h
    intro ls H locs hl hP hD hS
    exact lv_lmul hx hb hd (h ls H locs hl hP hD hS)
  | lcmp =>
    obtain rfl := mm_l hlen (n := 0) rfl
    obtain ⟨y, x, r, rfl, h⟩ := mm_l2_inv h
    intro ls H locs hl hP hD hS
    exact W.lcmp hx hb hd (h ls H locs hl hP hD hS)
  | ldiv =>
    obtain rfl := mm_l hlen (n := 0) rfl
    obtain ⟨y, x, r, rfl, h⟩ := mm_l2_inv h
    obtain ⟨hne, h⟩ := h
    intro ls H locs hl hP hD hS
    exact lv_ldiv hx hb hd hne (h ls H locs hl hP hD hS)
  | lrem =>
    obtain rfl := mm_l hlen (n := 0) rfl
    obtain ⟨y, x, r, rfl, h⟩ := mm_l2_inv h
    obtain ⟨hne, h⟩ := h
    intro ls H locs hl hP hD hS
    exact lv_lrem hx hb hd hne (h ls H locs hl hP hD hS)
  | ineg =>
    obtain rfl := mm_l hlen (n := 0) rfl
    obtain ⟨x, r, rfl, h⟩ := mm_i1_inv h
    intro ls H locs hl hP hD hS
    exact lv_ineg hx hb hd (h ls H locs hl hP hD hS)
  | lneg =>
    obtain rfl := mm_l hlen (n := 0) rfl
    obtain ⟨x, r, rfl, h⟩ := mm_l1_inv h
    intro ls H locs hl hP hD hS
    exact lv_lneg hx hb hd (h ls H locs hl hP hD hS)
  | i2l =>
    obtain rfl := mm_l hlen (n := 0) rfl
    obtain ⟨x, r, rfl, h⟩ := mm_i1_inv h
    intro ls H locs hl hP hD hS
    exact lv_i2l hx hb hd rfl (h ls H locs hl hP hD hS)
  | l2i =>
    obtain rfl := mm_l hlen (n := 0) rfl
    obtain ⟨x, r, rfl, h⟩ := mm_l1_inv h
    intro ls H locs hl hP hD hS
    exact lv_l2i hx hb hd rfl (h ls H locs hl hP hD hS)
  | dup =>
    obtain rfl := mm_l hlen (n := 0) rfl
    unfold mm_do at h
    dsimp only at h
    split at h
    · intro ls H locs hl hP hD hS
      exact lv_dup hx hb hd rfl (h ls H locs hl hP hD hS)
    · intro ls H locs hl hP hD hS
      exact lv_dup hx hb hd rfl (h ls H locs hl hP hD hS)
    · exact h.elim
  | pop =>
    obtain rfl := mm_l hlen (n := 0) rfl
    obtain ⟨x, r, rfl, h⟩ := mm_i1_inv h
    intro ls H locs hl hP hD hS
    exact lv_pop hx hb hd rfl (h ls H locs hl hP hD hS)
  | ifCond k o =>
    obtain rfl := mm_l hlen (n := 2) rfl
    obtain ⟨x, r, rfl, h⟩ := mm_i1_inv h
    obtain ⟨t, ht, h⟩ := mm_bind_inv h
    have ht := mm_tg_eq ht
    intro ls H locs hl hP hD hS
    cases k with
    | eq =>
      have h := mm_bc_eq h
      exact lv_if_eq hx hb hd ht (fun z => h.1 z ls H locs hl hP hD hS) (fun z => h.2 z ls H locs hl hP hD hS)
    | ne =>
      have h := mm_bc_ne h
      exact lv_if_ne hx hb hd ht (fun z => h.1 z ls H locs hl hP hD hS) (fun z => h.2 z ls H locs hl hP hD hS)
    | lt =>
      have h := mm_bc_lt h
      exact lv_if_lt hx hb hd ht (fun z => h.1 z ls H locs hl hP hD hS) (fun z => h.2 z ls H locs hl hP hD hS)
    | ge =>
      have h := mm_bc_ge h
      exact lv_if_ge hx hb hd ht (fun z => h.1 z ls H locs hl hP hD hS) (fun z => h.2 z ls H locs hl hP hD hS)
    | gt =>
      have h := mm_bc_gt h
      exact lv_if_gt hx hb hd ht (fun z => h.1 z ls H locs hl hP hD hS) (fun z => h.2 z ls H locs hl hP hD hS)
    | le =>
      have h := mm_bc_le h
      exact lv_if_le hx hb hd ht (fun z => h.1 z ls H locs hl hP hD hS) (fun z => h.2 z ls H locs hl hP hD hS)
  | if_icmp k o =>
    obtain rfl := mm_l hlen (n := 2) rfl
    obtain ⟨y, x, r, rfl, h⟩ := mm_i2_inv h
    obtain ⟨t, ht, h⟩ := mm_bind_inv h
    have ht := mm_tg_eq ht
    intro ls H locs hl hP hD hS
    cases k with
    | eq =>
      have h := mm_bc_eq h
      exact lv_icmp_eq hx hb hd ht (fun z => h.1 z ls H locs hl hP hD hS) (fun z => h.2 z ls H locs hl hP hD hS)
    | ne =>
      have h := mm_bc_ne h
      exact lv_icmp_ne hx hb hd ht (fun z => h.1 z ls H locs hl hP hD hS) (fun z => h.2 z ls H locs hl hP hD hS)
    | lt =>
      have h := mm_bc_lt h
      exact lv_icmp_lt hx hb hd ht (fun z => h.1 z ls H locs hl hP hD hS) (fun z => h.2 z ls H locs hl hP hD hS)
    | ge =>
      have h := mm_bc_ge h
      exact lv_icmp_ge hx hb hd ht (fun z => h.1 z ls H locs hl hP hD hS) (fun z => h.2 z ls H locs hl hP hD hS)
    | gt =>
      have h := mm_bc_gt h
      exact lv_icmp_gt hx hb hd ht (fun z => h.1 z ls H locs hl hP hD hS) (fun z => h.2 z ls H locs hl hP hD hS)
    | le =>
      have h := mm_bc_le h
      exact lv_icmp_le hx hb hd ht (fun z => h.1 z ls H locs hl hP hD hS) (fun z => h.2 z ls H locs hl hP hD hS)
  | goto o =>
    obtain rfl := mm_l hlen (n := 2) rfl
    obtain ⟨t, ht, h⟩ := mm_bind_inv h
    have ht := mm_tg_eq ht
    intro ls H locs hl hP hD hS
    exact lv_goto hx hb hd ht (h ls H locs hl hP hD hS)
  | tableswitch df lo hi os =>
    obtain ⟨x, r, rfl, h⟩ := mm_i1_inv h
    obtain ⟨hsz, h⟩ := mm_cond_inv h
    have hsz : hi = lo + (os.size : Int) - 1 := of_decide_eq_true hsz
    obtain ⟨t, ht, h⟩ := mm_bind_inv h
    have ht := mm_tg_eq ht
    obtain ⟨wl, hw, h⟩ := mm_bindL_inv h
    intro ls H locs hl hP hD hS
    by_cases h1 : x.toInt < lo ∨ hi < x.toInt
    · exact lv_tableOut hx hb hd h1 ht (mm_all_last h h1 ls H locs hl hP hD hS)
    · have h2 : ¬ x.toInt < lo := fun z => h1 (Or.inl z)
      have h3 : ¬ hi < x.toInt := fun z => h1 (Or.inr z)
      have hlt : (x.toInt - lo).toNat < os.toList.length := by rw [Array.length_toList]; omega
      obtain ⟨o, ho⟩ : ∃ o, os.toList[(x.toInt - lo).toNat]? = some o := ⟨_, List.getElem?_eq_getElem hlt⟩
      obtain ⟨t2, ht2, hX⟩ := mm_tw_at hw ho (by omega) (mm_all_left h)
      exact lv_tableIn hx hb hd h2 h3 (by rw [← Array.getElem?_toList]; exact ho) (mm_tg_eq ht2) (hX ls H locs hl hP hD hS)
  | getfield k =>
    obtain rfl := mm_l hlen (n := 2) rfl
    replace h : mm_go K b Q (mm_X p l e (R) s m args below meth c D cl ad aC A nL QQ) (mm_get P k pc L S M u) := h
    unfold mm_get at h
    split at h
    · next a r =>
      split at h
      · next ci i z hf =>
        obtain ⟨fs, hM, h⟩ := mm_ob_inv h
        split at h
        · next v hv =>
          obtain ⟨C, Tt, N, ty0, hcl2, hkN, hws, hty, hnm, hlink, -, -⟩ := okf _ (mm_lk_mem hf)
          have he := mm_w_at (ad := ad) (aC := aC) hM
          have hv2 : (fs.map (mm_v ad))[i]? = some (mm_v ad v) := by rw [List.getElem?_map, hv]; rfl
          intro ls H locs hl hP hD hS
          rcases hlink with hlink | ⟨host, hlink⟩
          · exact va_get hx hb hts hws hown hK0 hP a he hcl2 i hkN (hts _ hlink) (fun _ z => z) hv2 hd (h ls H locs hl hP hD hS)
          · exact va_getN hx hb hts hws hown hK0 hP a he hcl2 i hkN (va_Nw.use rfl (hnest _ hlink)) (fun _ z => z) hv2 hd (h ls H locs hl hP hD hS)
        · exact h.elim
      · exact h.elim
    · exact h.elim
  | putfield k =>
    obtain rfl := mm_l hlen (n := 2) rfl
    replace h : mm_go K b Q (mm_X p l e (R) s m args below meth c D cl ad aC A nL QQ) (mm_put P k pc L S M u) := h
    unfold mm_put at h
    split at h
    · next x a r =>
      split at h
      · next ci i z hf =>
        obtain ⟨fs, hM, h⟩ := mm_ob_inv h
        obtain ⟨hlt, h⟩ := mm_cond_inv h
        have hlt := Nat.le_of_ble_eq_true hlt
        obtain ⟨C, Tt, N, ty0, hcl2, hkN, hws, hty, hnm, hlink, hz0, hz1⟩ := okf _ (mm_lk_mem hf)
        have he := mm_w_at (ad := ad) (aC := aC) hM
        have hlt2 : i < (fs.map (mm_v ad)).length := by rw [List.length_map]; exact hlt
        have hg : ((Tt i).2.2.2 = false ∧ ∃ ty, parseFieldDescriptor (Tt i).2.2.1 = some ty ∧ narrow ty (.int x) = .int x ∧ fits ty (.int x) = true) ∧ mm_X p l e (R) s m args below meth c D cl ad aC A nL QQ (pc + 3, L, r, M.set a (.inr (ci, fs.set i (.int x))), u) := by
          split at h
          · obtain ⟨h1, h2⟩ := hz0 rfl
            exact ⟨⟨h1, _, (hty i hkN).trans (congrArg some h2), rfl, rfl⟩, h⟩
          · obtain ⟨h1, h2⟩ := hz1 rfl
            obtain ⟨hzx, h⟩ := h
            exact ⟨⟨h1, _, (hty i hkN).trans (congrArg some h2), (mm_narZ hzx).1, (mm_narZ hzx).2⟩, h⟩
          · exact h.elim
        obtain ⟨⟨hfin, ty, hpt, hnr, hft⟩, h⟩ := hg
        intro ls H locs hl hP hD hS
        rcases hlink with hlink | ⟨host, hlink⟩
        · exact va_put hx hb hts hws ty0 hty hnm hown hK0 hP hD hS a he hcl2 i hkN (hts _ hlink) (fun _ z => z) hfin hpt hnr hft hlt2 hd (fun H1 locs1 hP1 hD1 hS1 => h ls H1 locs1 hl (by dsimp only; rw [mm_w_obj]; exact hP1) (by dsimp only; rw [mm_w_obj]; exact hD1) hS1)
        · exact va_putN hx hb hts hws ty0 hty hnm hown hK0 hP hD hS a he hcl2 i hkN (va_Nw.use rfl (hnest _ hlink)) (fun _ z => z) hfin hpt hnr hft hlt2 hd (fun H1 locs1 hP1 hD1 hS1 => h ls H1 locs1 hl (by dsimp only; rw [mm_w_obj]; exact hP1) (by dsimp only; rw [mm_w_obj]; exact hD1) hS1)
      · exact h.elim
    · exact h.elim
  | iaload =>
    obtain rfl := mm_l hlen (n := 0) rfl
    unfold mm_do at h
    dsimp only at h
    split at h
    · next x a r =>
      rcases mm_af_inv h with ⟨n, f, hM, h⟩ | ⟨n, f, hM, h⟩
      · obtain ⟨hin, h⟩ := h
        intro ls H locs hl hP hD hS
        exact va_iald hx hb hK0 hP a 0 (mm_w_at hM) rfl hin hd (h ls H locs hl hP hD hS)
      · obtain ⟨hin, h⟩ := h
        obtain ⟨hX1, hX2, hX3⟩ := hfz _ (mm_lk_mem hM)
        intro ls H locs hl hP hD hS
        exact va_sld hx hb hX1 hX2 hX3 hS hin hd (h ls H locs hl hP hD hS)
    · exact h.elim
  | laload =>
    obtain rfl := mm_l hlen (n := 0) rfl
    unfold mm_do at h
    dsimp only at h
    split at h
    · next x a r =>
      obtain ⟨n, f, hM, h⟩ := mm_al_inv h
      obtain ⟨hin, h⟩ := h
      intro ls H locs hl hP hD hS
      exact va_lald hx hb hK0 hP a 1 (mm_w_at hM) rfl hin hd (h ls H locs hl hP hD hS)
    · exact h.elim
  | iastore =>
    obtain rfl := mm_l hlen (n := 0) rfl
    unfold mm_do at h
    dsimp only at h
    split at h
    · next v x a r =>
      obtain ⟨n, f, hM, h⟩ := mm_ai_inv h
      obtain ⟨hin, h⟩ := h
      intro ls H locs hl hP hD hS
      exact va_iast hx hb hK0 hP hD hS a 0 (mm_w_at hM) rfl hin hd (fun H1 locs1 hP1 hD1 hS1 => h ls H1 locs1 hl (by dsimp only; rw [mm_w_arr]; exact hP1) (by dsimp only; rw [mm_w_arr]; exact hD1) hS1)
    · exact h.elim
  | lastore =>
    obtain rfl := mm_l hlen (n := 0) rfl
    unfold mm_do at h
    dsimp only at h
    split at h
    · next v x a r =>
      obtain ⟨n, f, hM, h⟩ := mm_al_inv h
      obtain ⟨hin, h⟩ := h
      intro ls H locs hl hP hD hS
      exact va_last hx hb hK0 hP hD hS a 1 (mm_w_at hM) rfl hin hd (fun H1 locs1 hP1 hD1 hS1 => h ls H1 locs1 hl (by dsimp only; rw [mm_w_arr]; exact hP1) (by dsimp only; rw [mm_w_arr]; exact hD1) hS1)
    · exact h.elim
  | arraylength =>
    obtain rfl := mm_l hlen (n := 0) rfl
    unfold mm_do at h
    dsimp only at h
    split at h
    · next a r =>
      rcases mm_af_inv h with ⟨n, f, hM, h⟩ | ⟨n, f, hM, h⟩
      · intro ls H locs hl hP hD hS
        exact va_alen hx hb hK0 hP a 0 (mm_w_at hM) (ty := .int) rfl rfl hd (h ls H locs hl hP hD hS)
      · obtain ⟨hX1, hX2, hX3⟩ := hfz _ (mm_lk_mem hM)
        intro ls H locs hl hP hD hS
        exact va_slen hx hb hX1 hX2 hX3 hS hd (h ls H locs hl hP hD hS)
    · exact h.elim
  | invokevirtual k =>
    obtain rfl := mm_l hlen (n := 2) rfl
    replace h : mm_go K b Q (mm_X p l e (R) s m args below meth c D cl ad aC A nL QQ) (mm_cl P (mm_bt T) false k pc L S M u) := h
    unfold mm_cl at h
    split at h
    · exact h.elim
    next j n ci hf =>
    cases h98 : Nat.beq ci 98 with
    | true =>
      rw [h98] at h
      exact h.elim
    | false =>
      rw [h98] at h
      obtain ⟨hq, h⟩ := mm_cond_inv h
      rw [Bool.and_eq_true, Bool.and_eq_true] at hq
      obtain ⟨⟨q1, q2⟩, q3⟩ := hq
      refine hcl k j n ci hf (fun z => by rw [z] at h98; cases h98) false pc L S M u hd (Nat.le_of_ble_eq_true q1) (Nat.le_of_ble_eq_true q2) ?_ ?_ h.1 h.2
      · exact fun z => by cases z
      · intro _
        have q3 : (!(Nat.beq ci 99) && match (S.take n).reverse with
          | .ref a :: _ => match M[a]? with
            | some (.inr (c, _)) => Nat.beq c ci
            | _ => false
          | _ => false) = true := q3
        rw [Bool.and_eq_true] at q3
        obtain ⟨q4, q3⟩ := q3
        refine ⟨fun e9 => (by rw [e9] at q4; cases q4), ?_⟩
        split at q3
        · next a t heq =>
          split at q3
          · next c2 fs hM =>
            have e9 := Nat.eq_of_beq_eq_true q3
            subst e9
            exact ⟨a, t, fs, heq, hM⟩
          · cases q3
        · cases q3
  | invokestatic k =>
    obtain rfl := mm_l hlen (n := 2) rfl
    replace h : mm_go K b Q (mm_X p l e (R) s m args below meth c D cl ad aC A nL QQ) (mm_cl P (mm_bt T) true k pc L S M u) := h
    unfold mm_cl at h
    split at h
    · exact h.elim
    next j n ci hf =>
    cases h98 : Nat.beq ci 98 with
    | true =>
      rw [h98] at h
      replace h : mm_go K b Q (mm_X p l e (R) s m args below meth c D cl ad aC A nL QQ) (mm_cp pc L S M u) := h
      obtain ⟨hm1, hm2, hm3, hm4⟩ := (okm _ (mm_lk_mem hf)).1 (Nat.eq_of_beq_eq_true h98)
      unfold mm_cp at h
      split at h
      · next nn dp a sp a0 r =>
        obtain ⟨n0, f, hM0, h⟩ := mm_ai_inv h
        obtain ⟨n1, g, hM1, h⟩ := mm_ai_inv h
        obtain ⟨hrm, h⟩ := mm_cond_inv h
        have hrm : mm_cat r ≤ 8 := Nat.le_of_ble_eq_true hrm
        obtain ⟨⟨g1, g2, g3, g4, g5⟩, h⟩ := h
        intro ls H locs hl hP hD hS
        exact va_copyi hx hb (hml.trans hl.1.symm) hown (hts _ hm1) (hts _ hm2) (hts _ hm3) (hts _ hm4) hK0 hP hD hS a0 a 0 0 (mm_w_at hM0) (mm_w_at hM1) rfl rfl rfl g1 g2 g3 g4 g5 (fun _ _ => rfl) (Nat.le_trans (by omega) hR.1) (by
            rw [mm_cat_map]
            have hnf : nativeFrameWords "java/lang/System" "arraycopy" 5 ≤ 200 := by decide +kernel
            refine Nat.le_trans ?_ hR.2.1
            omega) hd (fun H1 locs1 hP1 hD1 hS1 => h ls H1 locs1 hl (by dsimp only; rw [mm_w_arr]; exact hP1) (by dsimp only; rw [mm_w_arr]; exact hD1) hS1)
      · exact h.elim
    | false =>
      rw [h98] at h
      obtain ⟨hq, h⟩ := mm_cond_inv h
      rw [Bool.and_eq_true, Bool.and_eq_true] at hq
      obtain ⟨⟨q1, q2⟩, q3⟩ := hq
      refine hcl k j n ci hf (fun z => by rw [z] at h98; cases h98) true pc L S M u hd (Nat.le_of_ble_eq_true q1) (Nat.le_of_ble_eq_true q2) ?_ ?_ h.1 h.2
      · exact fun _ => Nat.eq_of_beq_eq_true q3
      · exact fun z => by cases z
  | ireturn =>
    obtain rfl := mm_l hlen (n := 0) rfl
    unfold mm_do at h
    dsimp only at h
    split at h
    · next x =>
      split at h
      · exact hrt (some (.int x)) M u h.2.1 h.2.2 .ireturn pc hd (fun y e9 => by cases e9; exact ⟨rfl, Or.inl rfl⟩) (fun y e9 => by cases e9) (fun e9 => by cases e9) (fun v e9 => by cases e9; exact Or.inl ⟨_, rfl⟩) L
      · exact hrt (some (.int x)) M u h.2.1 h.2.2 .ireturn pc hd (fun y e9 => by cases e9; exact ⟨rfl, Or.inr ⟨rfl, h.1⟩⟩) (fun y e9 => by cases e9) (fun e9 => by cases e9) (fun v e9 => by cases e9; exact Or.inl ⟨_, rfl⟩) L
      · exact h.elim
    · exact h.elim
  | lreturn =>
    obtain rfl := mm_l hlen (n := 0) rfl
    unfold mm_do at h
    dsimp only at h
    split at h
    · next x => exact hrt (some (.long x)) M u h.2.1 h.2.2 .lreturn pc hd (fun y e9 => by cases e9) (fun y e9 => by cases e9; exact ⟨rfl, rfl⟩) (fun e9 => by cases e9) (fun v e9 => by cases e9; exact Or.inr ⟨_, rfl⟩) L
    · exact h.elim
  | return_ =>
    obtain rfl := mm_l hlen (n := 0) rfl
    unfold mm_do at h
    dsimp only at h
    split at h
    · exact hrt none M u h.2.1 h.2.2 .return_ pc hd (fun y e9 => by cases e9) (fun y e9 => by cases e9) (fun _ => ⟨rfl, rfl⟩) (fun v e9 => by cases e9) L
    · exact h.elim
  | new k =>
    unfold mm_do at h
    dsimp only at h
    split at h
    · next E hE => exact hthr pc E hE L M u h.2.1 h.2.2
    · exact h.elim
  | _ => exact h.elim
end
section
theorem mm_lg (ad : Nat → Nat) : ∀ a : List Value, (lg_sl (a.map (mm_v ad))).length = (lg_sl a).length
  | [] => rfl
  | v :: a => by
    have h := mm_lg ad a
    simp only [lg_sl, List.map_cons, List.flatMap_cons, List.length_append, mm_v_cat] at h ⊢
    rw [h]
    congr 1
    split <;> rfl
theorem mm_blind (Z : mm_Sx) (D : va_G) (cl : List vw_C) (ad aC : Nat → Nat) (sz : Nat) (M : mm_M) (av : List Value) : FrameBlind (va_Pc av (mm_Pw Z D cl ad aC sz M)) := by
  intro a U g mk q
  obtain ⟨q0, q1, qP, qK, qD, q3, q4, q5, q6, q7, q8⟩ := q
  exact ⟨q0, q1, qP, va_K.moved (u := U) (U := U.calling g mk a) (Vm.Alike.refl U.vm) qK, qD, vx_Zq.moved (u := U) (U := U.calling g mk a) (Vm.Alike.refl U.vm) q3, vx_Zq.moved (u := U) (U := U.calling g mk a) (Vm.Alike.refl U.vm) q4, fun z hz => by
    obtain ⟨sa, h⟩ := q5 z hz
    exact ⟨sa, vk_R.same (u := U) (U := U.calling g mk a) rfl h⟩, fun z hz => va_Nw.same (u := U) (U := U.calling g mk a) rfl rfl (q6 z hz), fun z hz => va_Nw.same (u := U) (U := U.calling g mk a) rfl rfl (q7 z hz), fun z hz y hy hn => va_Nc.moved (u := U) (U := U.calling g mk a) (Vm.Alike.refl U.vm) (q8 z hz y hy hn)⟩
theorem mm_stk (ad : Nat → Nat) (S : List Value) (n : Nat) : S.map (mm_v ad) = (((S.take n).reverse).map (mm_v ad)).reverse ++ (S.drop n).map (mm_v ad) := by
  rw [← List.map_reverse, List.reverse_reverse, ← List.map_append, List.take_append_drop]
theorem mm_goodS {G : List Cond} (hG : ∀ w ∈ G, goodWord w = true) {ws : List Cond} (h : ∀ w ∈ ws, w ∈ G) : GoodIn G ws := fun w hw => ⟨h w hw, good_of_word (hG w (h w hw))⟩
/-- what the tables must say of all methods -/
def mm_okT (Z : mm_Sx) (G : List Cond) (cl : List vw_C) (T : List mm_T) : Prop := (∀ w ∈ G, goodWord w = true) ∧ ∀ (j : Nat) (t : mm_T), T[j]? = some t → plainName t.1.cls = true ∧ mm_cd t ∈ G ∧ mm_ok Z G cl T t.1.cls t.2.1 t.2.2.1 t.2.2.2.2.2 ∧ mm_fz t.2.2.2.2.2 = []
/-- the throws of a method, each by a row of its own -/
def mm_okX (l : Launch) (Z : mm_Sx) (G : List Cond) (cl : List vw_C) (t : mm_T) : Prop :=
  ∀ (pc : Nat) (E : String), mm_lk t.2.2.2.2.2.2.2.2.2.1 pc = some E → mm_hs t.2.2.2.2.2 = [] → ∀ (p : Program) (e : Env) (s : State) (m : MethodId) (args : Array Value) (below : List Frame) (meth : Method) (c : Code) (D : va_G) (ad aC : Nat → Nat) (A : Nat → Prop) (d : Nat) (Q : mm_R → mm_M → Prop),
    mm_Cx Z p s m args meth c D cl ad aC A G t.1.cls t.2.1 t.2.2.1 t.2.2.2.1 [] [] → mm_Th Z A s s.heap → ∀ L M u, u + 1 ≤ t.2.2.2.2.1 → Q (.inr E) M →
    mm_X p l e (mm_room (d + 1) t.2.2.2.2.1) s m args below meth c D cl ad aC A t.2.2.1 (vx_MQ below (mm_Qc D cl ad aC A Q) (mm_XC D cl ad aC A Q) args s t.2.2.2.2.1 (6 * t.2.2.2.2.1) A) (pc, L, [], M, u)
theorem mm_hd_spec {pc : Nat} {E : String} {q : Nat × Nat} : ∀ {hs : List mm_H}, mm_hd hs pc E = some q → ∃ (pre : List mm_H) (h : mm_H) (suf : List mm_H), hs = pre ++ h :: suf ∧ h.2.2.2.2.2 = q ∧ h.2.2.2.2.1 = E ∧ h.1 ≤ pc ∧ pc < h.2.1 ∧ ∀ z ∈ pre, ¬ (z.1 ≤ pc ∧ pc < z.2.1) ∨ z.2.2.2.2.1 ≠ E
  | [], h => by cases h
  | z :: t, h => by
    unfold mm_hd at h
    cases hb : (Nat.ble z.1 pc && Nat.blt pc z.2.1 && decide (z.2.2.2.2.1 = E)) with
    | true =>
      rw [hb] at h
      rw [Bool.and_eq_true, Bool.and_eq_true] at hb
      obtain ⟨⟨b1, b2⟩, b3⟩ := hb
      refine ⟨[], z, t, rfl, ?_, of_decide_eq_true b3, Nat.le_of_ble_eq_true b1, Nat.le_of_ble_eq_true b2, fun _ hz => absurd hz List.not_mem_nil⟩
      exact Option.some.inj h
    | false =>
      rw [hb] at h
      obtain ⟨pre, y, suf, e1, e2, e3, e4, e5, e6⟩ := mm_hd_spec (hs := t) h
      refine ⟨z :: pre, y, suf, by rw [e1]; rfl, e2, e3, e4, e5, fun x hx => ?_⟩
      rcases List.mem_cons.mp hx with rfl | hx
      · by_cases hE : x.2.2.2.2.1 = E
        · left
          intro ⟨h1, h2⟩
          have h3 : (Nat.ble x.1 pc && Nat.blt pc x.2.1 && decide (x.2.2.2.2.1 = E)) = true := by
            rw [Bool.and_eq_true, Bool.and_eq_true]
            exact ⟨⟨Nat.ble_eq_true_of_le h1, Nat.ble_eq_true_of_le h2⟩, decide_eq_true hE⟩
          rw [h3] at hb
          cases hb
        · exact Or.inr hE
      · exact e6 x hx
theorem mm_drop {ad : Nat → Nat} {ls : Array Slot} {nL i x : Nat} {L : mm_L} (h : lv_has ls nL ((i, Value.ref x) :: (mm_lm ad L).filter (fun q => !(q.1 == i) && !(q.1 + 1 == i && q.2.category == 2)))) : lv_has ls nL (mm_lm ad (mm_dr L i)) := by
  refine ⟨h.1, h.2.1, fun q hq => h.2.2 q (List.mem_cons_of_mem _ ?_)⟩
  have e := mm_filter ad (fun a b => !(a == i) && !(a + 1 == i && b == 2)) L
  have e2 : (mm_lm ad L).filter (fun q => !(q.1 == i) && !(q.1 + 1 == i && q.2.category == 2)) = mm_lm ad (mm_dr L i) := e
  rw [e2]
  exact hq
/-- what mm_sound says of the methods of T, with at most d calls open -/
def mm_Sd (l : Launch) (Z : mm_Sx) (G : List Cond) (cl : List vw_C) (T : List mm_T) (d : Nat) : Prop :=
  ∀ (j : Nat) (a : List Value) (M : mm_M) (Q : mm_R → mm_M → Prop), mm_call T d j a M Q → ∀ t, T[j]? = some t → ∀ (D : va_G) (ad aC : Nat → Nat) (sz : Nat),
      vx_Met l t.1 (mm_cd t :: G) (mm_room d t.2.2.2.2.1) (va_Pc (a.map (mm_v ad)) (mm_Pw Z D cl ad aC sz M)) (mm_Qc D cl ad aC (va_A (mm_w ad aC 0 M) sz) Q) (mm_XC D cl ad aC (va_A (mm_w ad aC 0 M) sz) Q) t.2.2.2.2.1 (6 * t.2.2.2.2.1) (va_A (mm_w ad aC 0 M) sz)
set_option maxHeartbeats 4000000 in
set_option maxRecDepth 100000 in
/-- a call -/
theorem mm_callstep {l : Launch} {Z : mm_Sx} {G : List Cond} {cl : List vw_C} {T : List mm_T} {d b nL : Nat} (IH : mm_Sd l Z G cl T d) (hG : ∀ w ∈ G, goodWord w = true) {own : String} {cc : ByteArray} {P : mm_P} (hok : mm_ok Z G cl T own cc nL P) {p : Program} {e : Env} {s : State} {m : MethodId} {args : Array Value} {below : List Frame} {meth : Method} {c : Code} {D : va_G} {ad aC : Nat → Nat} {A : Nat → Prop} {ret : Option FieldType} {fz : List (Nat × Nat × (Nat → Int32))} {R : Room} {QQ : State → Prop} {Q : mm_R → mm_M → Prop}
    (hR : mm_rm R d b) (C : mm_Cx Z p s m args meth c D cl ad aC A G own cc nL ret (mm_hs P) fz) (hTh : mm_Th Z A s s.heap)
    (hout : mm_hs P = [] → ∀ (E : String) (ce : Cell) (q9 : Addr) (M2 : mm_M) (H1 : Heap) (locs1 : List Loc) (ls : Array Slot) (rest : List Value) (pc u : Nat), Q (.inr E) M2 → va_P D cl (mm_w ad aC 0 M2) H1 → va_D A (mm_w ad aC 0 M2) → va_S A s.heap H1 locs1 → H1[q9]? = some ce → ce.vm = .none → s.vm.findClass E = some ce.cls → u ≤ b → vx_W p l e R s m args below meth c H1 locs1 u (6 * u) QQ (F0 m pc ls rest) q9)
    (k j1 n ci : Nat) (hf : mm_lk P.2.2.2.1 k = some (j1, n, ci)) (h98 : ci ≠ 98) (st : Bool) (pc : Nat) (L : mm_L) (S : List Value) (M1 : mm_M) (u : Nat) (hd : decode cc pc = .ok (if st then .invokestatic k else .invokevirtual k, 3)) (hn : n ≤ S.length) (hcat : mm_cat (S.drop n) ≤ 8) (hst : st = true → ci = 99) (hsv : st = false → ci ≠ 99 ∧ ∃ a t fs, (S.take n).reverse = .ref a :: t ∧ M1[a]? = some (.inr (ci, fs))) (hu : u + mm_bt T j1 ≤ b)
    (hK1 : mm_call T d j1 (S.take n).reverse M1 (mm_rs Q (mm_X p l e R s m args below meth c D cl ad aC A nL QQ) (fun v M' => (pc + 3, L, v.toList ++ S.drop n, M', u + mm_bt T j1)) (mm_ce P pc L (u + mm_bt T j1)))) : mm_X p l e R s m args below meth c D cl ad aC A nL QQ (pc, L, S, M1, u) := by
  intro ls H locs hl hP1 hD1 hS1
  obtain ⟨hx, hb, hml, hown, hts, hr, hlocks, htab, hK, hA, hnest, -⟩ := C
  obtain ⟨t1, ht1, w1, w2, w3, hmx, hmh, hs9, hv9⟩ := (hok.2.2.2.1 _ (mm_lk_mem hf)).2 h98
  dsimp only at ht1 w2 hs9 hv9
  have hbt : mm_bt T j1 = t1.2.2.2.2.1 := by unfold mm_bt; rw [ht1]
  obtain ⟨QC, hQC⟩ : ∃ z, z = mm_rs Q (mm_X p l e R s m args below meth c D cl ad aC A nL QQ) (fun v M' => (pc + 3, L, v.toList ++ S.drop n, M', u + mm_bt T j1)) (mm_ce P pc L (u + mm_bt T j1)) := ⟨_, rfl⟩
  rw [← hQC] at hK1
  have hM := IH j1 _ M1 _ hK1 t1 ht1 D ad aC H.size
  have hfr : ∀ q, va_A (mm_w ad aC 0 M1) H.size q → A q := fun q hq => by
    rcases hq with ⟨k9, e9, h9⟩ | h9
    · exact hD1.2 k9 (q, e9) h9
    · exact hA q (Nat.le_trans hS1.1 h9)
  have hpre : ∀ U : State, U.heap = H → s.WarmedH U.vm → mm_Pw Z D cl ad aC H.size M1 U := fun U hU hW =>
    ⟨by rw [hU], by rw [hU]; exact hP1, va_K.moved hW.alike hK, hD1.weaken (fun _ _ _ _ => trivial),
      by rw [hU]; exact vx_Zq.moved hW.alike ((hTh.1.kept hS1.2.1).narrow hfr), by rw [hU]; exact vx_Zq.moved hW.alike ((hTh.2.1.kept hS1.2.1).narrow hfr), fun z hz => by
        obtain ⟨sa, h9⟩ := hTh.2.2.1 z hz
        exact ⟨sa, vk_R.warm hW h9⟩, fun z hz => va_Nw.warmF hW (hTh.2.2.2.1 z hz), fun z hz => va_Nw.warmC hW (hTh.2.2.2.2.1 z hz), fun z hz y hy hn9 => va_Nc.moved hW.alike (hTh.2.2.2.2.2 z hz y hy hn9)⟩
  have hroom : (mm_room d t1.2.2.2.2.1).frames + 1 ≤ R.frames ∧ 8 + (t1.2.2.1 + 11) + (mm_room d t1.2.2.2.2.1).locals ≤ R.locals := by
    constructor
    · refine Nat.le_trans ?_ hR.1
      show 8 + d + 1 ≤ 8 + (d + 1)
      omega
    · refine Nat.le_trans ?_ hR.2.1
      show 8 + (t1.2.2.1 + 11) + (300 + 64 * d) ≤ 300 + 64 * (d + 1)
      omega
  have hcells : u + t1.2.2.2.2.1 ≤ R.cells ∧ 6 * u + 6 * t1.2.2.2.2.1 ≤ R.slots := by
    have hu9 := hu
    rw [hbt] at hu9
    have r1 := hR.2.2.1
    have r2 := hR.2.2.2
    omega
  have hcw : ∀ w ∈ mm_cd t1 :: G, w ∈ G := fun w hw => (List.mem_cons.mp hw).elim (fun e9 => by rw [e9]; exact w1) id
  have hrun : vx_Run p l e R s m args below meth c H locs u (6 * u) t1.2.2.2.2.1 (6 * t1.2.2.2.2.1) (F0 m pc ls (S.map (mm_v ad))) ((S.drop n).map (mm_v ad)) (mm_Qc D cl ad aC (va_A (mm_w ad aC 0 M1) H.size) QC (((S.take n).reverse).map (mm_v ad)).toArray) (mm_XC D cl ad aC (va_A (mm_w ad aC 0 M1) H.size) QC) (va_A (mm_w ad aC 0 M1) H.size) := by
    cases st with
    | true =>
      obtain ⟨w4, hpar⟩ := hs9 (hst rfl)
      have hwds : ∀ w ∈ va_wsS own k t1.1 (mm_cd t1 :: G), w ∈ G := by
        intro w hw
        rcases List.mem_append.mp hw with hw | hw
        · simp only [List.mem_cons, List.not_mem_nil, or_false] at hw
          rcases hw with rfl | rfl | rfl
          · exact w2
          · exact w4
          · exact w3
        · exact hcw w hw
      have hlen9 : (((S.take n).reverse).map (mm_v ad)).length = n := by
        simp only [List.length_map, List.length_reverse, List.length_take]
        omega
      cases hh9 : mm_hs t1.2.2.2.2.2 with
      | nil =>
        have hc9 : mm_cd t1 = .code t1.1 t1.2.1 t1.2.2.1 t1.2.2.2.1 := by unfold mm_cd; rw [hh9]
        rw [hc9] at hM hwds
        exact vx_runS (As := ((S.take n).reverse).map (mm_v ad)) (n := n) (own := own) (Ts := G) ⟨hx, hb, hml, hown, hts⟩ hM (va_cwS n hts (mm_goodS hG hwds) rfl rfl rfl ⟨hmh.1, hmh.2, hpar⟩ hroom) ⟨mm_blind _ _ _ _ _ _ _ _, fun U hU hW => ⟨rfl, hpre U hU hW⟩⟩ rfl hlen9 hl.1 (mm_stk ad S n) (lv_room (by rw [mm_cat_map]; exact hcat)) hd hcells
      | cons h0 r0 =>
        have hc9 : mm_cd t1 = .codeWith t1.1 t1.2.1 t1.2.2.1 t1.2.2.2.1 (mm_hh (h0 :: r0)) := by unfold mm_cd; rw [hh9]
        rw [hc9] at hM hwds
        exact vx_runSX (As := ((S.take n).reverse).map (mm_v ad)) (n := n) (own := own) (Ts := G) (hh := mm_hh (h0 :: r0)) ⟨hx, hb, hml, hown, hts⟩ hM (vx_cwSW n hts (mm_goodS hG hwds) rfl rfl rfl ⟨hmh.1, hmh.2, hpar⟩ hroom) ⟨mm_blind _ _ _ _ _ _ _ _, fun U hU hW => ⟨rfl, hpre U hU hW⟩⟩ rfl hlen9 hl.1 (mm_stk ad S n) (lv_room (by rw [mm_cat_map]; exact hcat)) hd hcells
    | false =>
      obtain ⟨h99, a9, t9, fs, heq, hM9⟩ := hsv rfl
      obtain ⟨hh9, w4, w5, ⟨z, hz, hz1⟩, n9, hn9, hpar⟩ := hv9 h99
      have hlt : t9.length = n9 := by
        have e9 := congrArg List.length heq
        simp only [List.length_reverse, List.length_take, List.length_cons] at e9
        omega
      have hstk : S.map (mm_v ad) = (t9.map (mm_v ad)).reverse ++ .ref (ad a9) :: (S.drop n).map (mm_v ad) := by
        rw [mm_stk ad S n, heq]
        simp only [List.map_cons, List.reverse_cons, List.append_assoc, List.singleton_append, mm_v]
      have hrec := va_recv hK hP1 hz (mm_w_at (ad := ad) (aC := aC) hM9)
      rw [hz1] at hrec
      have hc9 : mm_cd t1 = .code t1.1 t1.2.1 t1.2.2.1 t1.2.2.2.1 := by unfold mm_cd; rw [hh9]
      rw [hc9] at hM hcw
      rw [heq] at hM ⊢
      refine vx_runV (As := t9.map (mm_v ad)) (b := ad a9) (n := n9) (own := own) (C := t1.1.cls) (Ts := G) ⟨hx, hb, hml, hown, hts⟩ hM (cwV n9 hts (mm_goodS hG ?_) rfl rfl rfl ⟨rfl, hmh.1, hmh.2, hpar⟩ hroom) ⟨mm_blind _ _ _ _ _ _ _ _, hrec, fun U hU hW => ⟨rfl, hpre U hU hW⟩⟩ rfl ?_ hl.1 hstk (lv_room (by rw [mm_cat_map]; exact hcat)) hd hcells
      · intro w hw
        rcases List.mem_append.mp hw with hw | hw
        · simp only [List.mem_cons, List.not_mem_nil, or_false] at hw
          rcases hw with rfl | rfl | rfl | rfl
          · exact w2
          · exact w4
          · exact w5
          · exact w3
        · exact hcw w hw
      · rw [List.length_map]; exact hlt
  subst hQC
  refine mm_callrow hrun hS1 (fun q _ h9 => hfr q h9) hfr ?_ ?_
  · intro E ce q9 M2 t2 H1 locs1 ht2 hvm hq hB hz hk hS2 hce hcv hcls
    obtain ⟨hP2, -, hD2⟩ := hB
    rw [ht2] at hP2
    have hD3 := hD2.weaken (B := A) (fun _ q _ h9 => hfr q.1 h9)
    have hq : mm_ex Q (mm_X p l e R s m args below meth c D cl ad aC A nL QQ) E M2 (mm_ce P pc L (u + mm_bt T j1) E M2) := hq
    show vx_W p l e R s m args below meth c H1 locs1 (u + t1.2.2.2.2.1) (6 * u + 6 * t1.2.2.2.2.1) QQ (F0 m pc ls ((S.drop n).map (mm_v ad))) q9
    rw [← hbt, ← Nat.mul_add]
    cases hh : mm_hs P with
    | nil =>
      unfold mm_ce at hq
      rw [hh] at hq
      exact hout hh E ce q9 M2 H1 locs1 ls _ pc _ hq hP2 hD3 hS2 hce hcv hcls hu
    | cons h0 r0 =>
      unfold mm_ce at hq
      rw [hh] at hq
      dsimp only at hq
      cases hhd : mm_hd (h0 :: r0) pc E with
      | none => rw [hhd] at hq; exact hq.elim
      | some y =>
        rw [hhd] at hq
        have hX : mm_X p l e R s m args below meth c D cl ad aC A nL QQ (y.1, mm_dr L y.2, [], M2, u + mm_bt T j1) := hq
        obtain ⟨pre, h1, suf, e1, e2, e3, e4, e5, e6⟩ := mm_hd_spec hhd
        rw [← hh] at e1
        have hokH := hok.2.2.2.2.1
        obtain ⟨o1, o2, o3, o4, o5⟩ := hokH h1 (by rw [e1]; exact List.mem_append_right _ List.mem_cons_self)
        refine vx_catch (own := own) (name := E) (E := E) hown (tableOf (mm_hh pre)) ⟨h1.1, h1.2.1, h1.2.2.1, h1.2.2.2.1⟩ (tableOf (mm_hh suf)) ?_ ?_ ?_ o3 ?_ ?_ hce hcv hcls ?_
        · rw [htab, e1]
          simp only [mm_hh, tableOf, List.map_append, List.map_cons]
        · intro z hz
          obtain ⟨z1, hz1, rfl⟩ := List.mem_map.mp hz
          obtain ⟨z2, hz2, rfl⟩ := List.mem_map.mp hz1
          obtain ⟨v1, v2, v3, -, -⟩ := hokH z2 (by rw [e1]; exact List.mem_append_left _ hz2)
          rcases e6 z2 hz2 with g | g
          · left
            dsimp only [covers]
            rw [← Bool.decide_and]
            exact decide_eq_false g
          · right
            refine ⟨v3, z2.2.2.2.2.1, hts _ v1, ?_⟩
            rw [← e3]
            rw [← e3] at g
            exact hTh.2.2.2.2.2 _ o2 _ v2 (fun h => g h.symm)
        · dsimp only [covers]
          rw [← Bool.decide_and]
          exact decide_eq_true ⟨e4, e5⟩
        · rw [← e3]; exact hts _ o1
        · rw [← e3]; exact va_Nw.use rfl (hTh.2.2.2.2.1 _ o2)
        · rw [← e2] at hX
          rcases o5 with ⟨kf, k1, k2, k3⟩ | ⟨k2, k3⟩
          · refine lv_astore_n hx hb k2 k1 hl o4 rfl (fun ls' hl' => ?_)
            have h9 := hX ls' H1 locs1 (mm_drop hl') hP2 hD3 hS2
            dsimp only at h9
            rw [k3] at h9
            exact h9
          · refine lv_astore hx hb k2 hl o4 rfl (fun ls' hl' => ?_)
            have h9 := hX ls' H1 locs1 (mm_drop hl') hP2 hD3 hS2
            dsimp only at h9
            rw [k3] at h9
            exact h9
  · intro v M2 t2 H1 locs1 ht2 hvm hq hB hz hk hS2
    obtain ⟨hP2, -, hD2⟩ := hB
    rw [ht2] at hP2
    have hX : mm_X p l e R s m args below meth c D cl ad aC A nL QQ (pc + 3, L, v.toList ++ S.drop n, M2, u + mm_bt T j1) := hq
    have hX := hX ls H1 locs1 hl hP2 (hD2.weaken (fun _ q _ h9 => hfr q.1 h9)) hS2
    dsimp only at hX
    rw [hbt, Nat.mul_add] at hX
    refine W.eq ?_ hX
    cases v <;> rfl
set_option maxHeartbeats 4000000 in
set_option maxRecDepth 100000 in
theorem mm_sound (l : Launch) (Z : mm_Sx) (G : List Cond) (cl : List vw_C) (T : List mm_T) (hT : mm_okT Z G cl T) (hXs : ∀ (j : Nat) (t : mm_T), T[j]? = some t → mm_okX l Z G cl t) : ∀ d : Nat, mm_Sd l Z G cl T d
  | 0 => fun _ _ _ _ h => h.elim
  | d + 1 => by
    intro j a M Q h t ht D ad aC sz
    have IH := mm_sound l Z G cl T hT hXs d
    obtain ⟨hG, hall⟩ := hT
    obtain ⟨hpl, hcd, hok, hfz⟩ := hall j t ht
    unfold mm_call at h
    rw [ht] at h
    obtain ⟨hlen, h⟩ := h
    have body : ∀ (ws : List Cond) (p : Program) (e : Env) (s : State) (m : MethodId) (args : Array Value) (below : List Frame) (meth : Method) (c : Code) (s₁ : State), BodyLoose p l t.1 (headSpec ws (mm_room (d + 1) t.2.2.2.2.1)) t.2.1 t.2.2.1 t.2.2.2.1 e s m args below meth c s₁ → (∀ w ∈ G, w ∈ ws) → c.maxLocals = t.2.2.1 → c.exceptionTable.toList = tableOf (mm_hh (mm_hs t.2.2.2.2.2)) → va_Pc (a.map (mm_v ad)) (mm_Pw Z D cl ad aC sz M) args s →
        W p l e (mm_room (d + 1) t.2.2.2.2.1) s m args below meth c s.heap [] 0 0 (vx_MQ below (mm_Qc D cl ad aC (va_A (mm_w ad aC 0 M) sz) Q) (mm_XC D cl ad aC (va_A (mm_w ad aC 0 M) sz) Q) args s t.2.2.2.2.1 (6 * t.2.2.2.2.1) (va_A (mm_w ad aC 0 M) sz)) (entryFrame m args t.2.2.1) := by
      intro ws p e s m args below meth c s₁ B hws hml htab hv
      obtain ⟨rfl, hsz, hP, hK, hD0, hTh⟩ := hv
      subst hsz
      have hts0 := atoms_spec (ws := ws) B.pre
      have hts : ∀ w ∈ G, w.before (a.map (mm_v ad)).toArray s = true := fun w hw => hts0 w (hws w hw)
      have hD := hD0.self (sz := s.heap.size)
      obtain ⟨A, hAe⟩ : ∃ z, z = va_A (mm_w ad aC 0 M) s.heap.size := ⟨_, rfl⟩
      rw [← hAe] at hD hTh ⊢
      have hA : ∀ q : Nat, s.heap.size ≤ q → A q := fun q h => by rw [hAe]; exact Or.inr h
      have C : mm_Cx Z p s m (a.map (mm_v ad)).toArray meth c D cl ad aC A G t.1.cls t.2.1 t.2.2.1 t.2.2.2.1 (mm_hs t.2.2.2.2.2) (mm_fz t.2.2.2.2.2) := ⟨B.exec, B.bytes, hml, findClass_of_methodNamed B.named, hts, B.returns, B.notSynchronized, htab, hK, hA, hTh.2.2.2.1, by rw [hfz]; exact fun _ h9 => absurd h9 List.not_mem_nil⟩
      have hR : mm_rm (mm_room (d + 1) t.2.2.2.2.1) d t.2.2.2.2.1 := ⟨Nat.le_refl _, Nat.le_refl _, Nat.le_refl _, Nat.le_refl _⟩
      have hx := B.exec
      have hb := B.bytes
      have hr := B.returns
      have hlocks := B.notSynchronized
      have key := h _ (mm_close (l := l) (e := e) (below := below) (ad := ad) (d := d) (K := mm_call T d) (Q := Q) (b := t.2.2.2.2.1) (R := mm_room (d + 1) t.2.2.2.2.1) (QQ := vx_MQ below (mm_Qc D cl ad aC A Q) (mm_XC D cl ad aC A Q) (a.map (mm_v ad)).toArray s t.2.2.2.2.1 (6 * t.2.2.2.2.1) A) hR C hok
        (fun pc E hE L M u hu hq => by
          have hh0 : mm_hs t.2.2.2.2.2 = [] := by
            rcases hok.2.2.2.2.2 with h0 | h0
            · exact h0
            · rw [h0] at hE; cases hE
          rw [hh0, hfz] at C
          exact hXs j t ht pc E hE hh0 p e s m _ below meth c D ad aC A d Q C hTh L M u hu hq) ?_
        (mm_callstep IH hG hok hR C hTh (fun hh0 E ce q9 M2 H1 locs1 ls rest pc u hq hP2 hD2 hS2 hce hcv hcls hu => vx_out (fun x hx9 => by rw [htab, hh0] at hx9; cases hx9) hlocks hce hcv hcls (fun t3 ht3 hvm3 => ⟨M2, hq, ⟨by rw [ht3]; exact hP2, va_K.moved hvm3 hK, hD2⟩, hS2.F ht3⟩) hS2.2.2 hu (Nat.mul_le_mul_left 6 hu))))
      · have hl := lv_entry (a.map (mm_v ad)) (n := t.2.2.1) (by rw [mm_lg]; exact hlen)
        rw [mm_lv_args] at hl
        rw [lg_entry_eq]
        exact key _ s.heap [] hl hP hD va_S.rf
      · intro r M1 u hu hq i pc hd h1 h2 h3 h4 L ls H locs hl hP1 hD1 hS1
        refine W.widen (k := t.2.2.2.2.1) (n := 6 * t.2.2.2.2.1) hu (Nat.mul_le_mul_left 6 hu) ?_
        have hend : ∀ t1 : State, t1.heap = H → s.WarmedH t1.vm → mm_Qc D cl ad aC A Q (a.map (mm_v ad)).toArray s (.returned (r.map (mm_v ad))) t1 := fun t1 ht1 hW => ⟨r, M1, rfl, hq, ⟨by rw [ht1]; exact hP1, va_K.moved hW.alike hK, hD1⟩, hS1.F ht1⟩
        cases r with
        | none =>
          obtain ⟨rfl, hret⟩ := h3 rfl
          exact vx_ret (W.vret hx hb (hr.trans hret) hend hS1.2.2 hd hlocks)
        | some v =>
          rcases h4 v rfl with ⟨x, rfl⟩ | ⟨x, rfl⟩
          · obtain ⟨rfl, hret | ⟨hret, hz⟩⟩ := h1 x rfl
            · exact vx_ret (W.iret hx hb (hr.trans hret) hend hS1.2.2 hd hlocks)
            · exact vx_ret (W.zret hx hb (hr.trans hret) (mm_narZ hz).1 hend hS1.2.2 hd hlocks)
          · obtain ⟨rfl, hret⟩ := h2 x rfl
            exact vx_ret (W.lret hx hb (hr.trans hret) hend hS1.2.2 hd hlocks)
    cases hh : mm_hs t.2.2.2.2.2 with
    | nil =>
      have hc9 : mm_cd t = .code t.1 t.2.1 t.2.2.1 t.2.2.2.1 := by unfold mm_cd; rw [hh]
      refine vx_ofW (cc := t.2.1) (maxL := t.2.2.1) (ret := t.2.2.2.1) hpl (by rw [hc9]) ?_
      intro p e s m args below meth c s₁ B hml htab hv
      refine body _ p e s m args below meth c s₁ B (fun w hw => List.mem_cons_of_mem _ hw) hml ?_ hv
      rw [hh]
      exact List.eq_nil_iff_forall_not_mem.mpr (fun x hx => htab x hx)
    | cons h0 r0 =>
      have hc9 : mm_cd t = .codeWith t.1 t.2.1 t.2.2.1 t.2.2.2.1 (mm_hh (h0 :: r0)) := by unfold mm_cd; rw [hh]
      refine vx_ofWH (cc := t.2.1) (maxL := t.2.2.1) (ret := t.2.2.2.1) (hh := mm_hh (h0 :: r0)) hpl (by rw [hc9]) ?_
      intro p e s m args below meth c s₁ B hml hv
      refine body _ p e s m args below meth c s₁ B (fun w hw => List.mem_cons_of_mem _ hw) hml ?_ hv
      rw [hh]
      exact vx_table (x := t.1) B (atoms_spec (ws := mm_cd t :: G) B.pre _ (by rw [hc9]; exact List.mem_cons_self))
/-- a throw: new, dup, ldc, invokespecial, athrow, with nothing else on the stack -/
theorem mm_throw {l : Launch} (hl : l.stackTraces = false) {Z : mm_Sx} {G : List Cond} {cl : List vw_C} {t : mm_T} {E text : String} {names : List String} {ik is ic pc : Nat}
    (hcls : Bundle.fit E = true) (hnames : ∀ n ∈ names, Bundle.fit n = true) (hlen : names.length = 2) (w1 : Cond.classLink t.1.cls ik E ∈ G) (w2 : Cond.initialized E ∈ G) (hstr : (t.1.cls, is, text) ∈ Z.1) (hcast : E ∈ Z.2.2)
    (hat : ∀ w ∈ vx_atS t.1.cls ic E names, w = .castable E E ∨ w ∈ G) (hgood : ∀ w ∈ Cond.classLink t.1.cls ik E :: Cond.initialized E :: vx_atS t.1.cls ic E names, vx_ot w = true)
    (d0 : decode t.2.1 pc = .ok (.new ik, 3)) (d3 : decode t.2.1 (pc + 3) = .ok (.dup, 1)) (d4 : decode t.2.1 (pc + 4) = .ok (.ldc is, 2)) (d6 : decode t.2.1 (pc + 6) = .ok (.invokespecial ic, 3)) (d9 : decode t.2.1 (pc + 9) = .ok (.athrow, 1))
    (p : Program) (e : Env) (s : State) (m : MethodId) (args : Array Value) (below : List Frame) (meth : Method) (c : Code) (D : va_G) (ad aC : Nat → Nat) (A : Nat → Prop) (d : Nat) (Q : mm_R → mm_M → Prop)
    (C : mm_Cx Z p s m args meth c D cl ad aC A G t.1.cls t.2.1 t.2.2.1 t.2.2.2.1 [] []) (hTh : mm_Th Z A s s.heap) (L : mm_L) (M : mm_M) (u : Nat) (hu : u + 1 ≤ t.2.2.2.2.1) (hq : Q (.inr E) M) :
    mm_X p l e (mm_room (d + 1) t.2.2.2.2.1) s m args below meth c D cl ad aC A t.2.2.1 (vx_MQ below (mm_Qc D cl ad aC A Q) (mm_XC D cl ad aC A Q) args s t.2.2.2.2.1 (6 * t.2.2.2.2.1) A) (pc, L, [], M, u) := by
  intro ls H locs hl1 hP hD hS
  obtain ⟨hx, hb, hml, hown, hts, hr, hlk, htab0, hK0, hA, -⟩ := C
  have htab : ∀ x ∈ c.exceptionTable.toList, False := fun x h9 => by rw [htab0] at h9; cases h9
  obtain ⟨sa, hsa⟩ := hTh.2.2.1 _ hstr
  refine vx_throwS (names := names) (text := text) (sa := sa) hx hb hl hown hcls hnames (hts _ w1) (hts _ w2) hsa (fun w hw => ?_) hgood hTh.1 hTh.2.1 hS (hl1.1.trans hml.symm) d0 d3 d4 d6 d9 (fun x hx9 => (htab x hx9).elim) ?_ ?_ ?_ ?_ hlk ?_ hS.2.2 hu ?_
  · rcases hat w hw with rfl | h
    · exact va_Nw.use rfl (hTh.2.2.2.2.1 E hcast)
    · exact hts w h
  · show names.length + 3 < 8 + (d + 1)
    omega
  · show (([] : List Value).map fun v => v.category).sum + (13 * (names.length + 1) + 43) ≤ 300 + 64 * (d + 1)
    simp only [List.map_nil, List.sum_nil]
    omega
  · exact hu
  · show 6 * u + 6 ≤ 6 * t.2.2.2.2.1
    omega
  · intro t1 hvm hz hk
    exact ⟨M, hq, ⟨fun k q hq9 => (hP k q hq9).kept (hk q.1 (hP k q hq9).lt), va_K.moved hvm hK0, hD⟩, Nat.le_trans hS.1 hz, fun q h1 h2 => (hk q (Nat.lt_of_lt_of_le h1 hS.1)).trans (hS.2.1 q h1 h2)⟩
  · show 6 * u + 6 ≤ 6 * t.2.2.2.2.1
    omega
end
section
/-! how a method is walked on the small machine -/
section MMU
variable {K : mm_K} {P : mm_P} {bt : Nat → Nat} {b : Nat} {ret : Option FieldType} {nL : Nat} {Q : mm_R → mm_M → Prop}
theorem mm_need (hK : mm_mono K) {st s' : mm_St} {c : Prop} (e : mm_next P bt ret nL st = mm_n c s') (hc : c) (h : mm_W K P bt b ret nL Q s') : mm_W K P bt b ret nL Q st := mm_fold hK (by rw [e]; exact ⟨hc, h⟩)
theorem mm_branch (hK : mm_mono K) {st s1 s2 : mm_St} {c : Prop} (e : mm_next P bt ret nL st = mm_b c s1 s2) (h1 : c → mm_W K P bt b ret nL Q s1) (h2 : ¬ c → mm_W K P bt b ret nL Q s2) : mm_W K P bt b ret nL Q st := mm_fold hK (by rw [e]; exact ⟨h1, h2, trivial⟩)
theorem mm_ret (hK : mm_mono K) {st : mm_St} {c : Prop} {r : mm_R} {M : mm_M} {u : Nat} (e : mm_next P bt ret nL st = mm_e c r M u) (hc : c) (hu : u ≤ b) (h : Q r M) : mm_W K P bt b ret nL Q st := mm_fold hK (by rw [e]; exact ⟨hc, hu, h⟩)
theorem mm_inv (hK : mm_mono K) {st : mm_St} {j : Nat} {a : List Value} {M : mm_M} {k : Option Value → mm_M → mm_St} {ce : String → mm_M → Option (Option mm_St)} {u : Nat} (e : mm_next P bt ret nL st = some (.inr (.inr (.inr (.inr (j, a, M, k, ce, u)))))) (hu : u ≤ b)
    (h : K j a M (mm_rs Q (mm_W K P bt b ret nL Q) k ce)) : mm_W K P bt b ret nL Q st := mm_fold hK (by rw [e]; exact ⟨hu, h⟩)
theorem mm_switch (hK : mm_mono K) {st : mm_St} {w : List (Prop × mm_St)} (e : mm_next P bt ret nL st = some (.inr (.inr (.inl w)))) (h : mm_all (mm_W K P bt b ret nL Q) w) : mm_W K P bt b ret nL Q st := mm_fold hK (by rw [e]; exact h)
end MMU
theorem mm_in {T : List mm_T} {d j : Nat} {t : mm_T} {a : List Value} {M : mm_M} {Q : mm_R → mm_M → Prop} (ht : T[j]? = some t) (hl : (lg_sl a).length ≤ t.2.2.1) (h : mm_W (mm_call T d) t.2.2.2.2.2 (mm_bt T) t.2.2.2.2.1 t.2.2.2.1 t.2.2.1 Q (0, lv_args 0 a, [], M, 0)) : mm_call T (d + 1) j a M Q := by
  unfold mm_call
  rw [ht]
  exact ⟨hl, h⟩
/-- the class's world: RootCompass at 0, its Numbers at 1, its Cut at 2, then its rows -/
abbrev mm_cu : Type := Int32 × Int32 × Int32 × Int32 × Int32 × Int32 × Int32
def wC (ov un : Nat → Int32) (nx dp fa : Int32) (cu : mm_cu) (st fi se th db : Nat → Int32) (cn : Int32) : mm_M :=
  [.inr (2, [.ref 1, .ref 2, .ref 3, .ref 4, .ref 5, .ref 6, .ref 7, .int cn]), .inr (1, [.ref 8, .ref 9, .int 308, .int nx, .int dp, .int fa]),
    .inr (0, [.int cu.1, .int cu.2.1, .int cu.2.2.1, .int cu.2.2.2.1, .int cu.2.2.2.2.1, .int cu.2.2.2.2.2.1, .int cu.2.2.2.2.2.2]),
    .inl (0, 24, .inl st), .inl (0, 24, .inl fi), .inl (0, 24, .inl se), .inl (0, 24, .inl th), .inl (0, 25, .inl db), .inl (0, 1332, .inl ov), .inl (0, 1332, .inl un)]
/-- the reference's world: itself at 0, then its rows -/
def wM (p q op oq : Nat → Int64) (tr dp wi fa ob : Int32) (st of : Nat → Int32) : mm_M :=
  [.inr (3, [.int tr, .int dp, .int wi, .int fa, .ref 1, .ref 2, .ref 3, .ref 4, .int ob, .ref 5, .ref 6]), .inl (1, 480, .inr (.inl p)), .inl (1, 480, .inr (.inl q)), .inl (1, 292, .inr (.inl op)), .inl (1, 292, .inr (.inl oq)), .inl (0, 24, .inl st), .inl (0, 96, .inl of)]
end
