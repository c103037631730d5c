section
-- ===== PART A: goes FIRST, ahead of the names: the tables' words, and 'selects' of the private methods out of them =====
/-- a private method of a class that the tables say can be made, by its rows of tables_1 -/
def lw_okq (q : MethodName × Nat) : Prop := (q.1.cls ≠ "java/lang/invoke/MethodHandle" ∧ q.1.cls ≠ "java/lang/invoke/VarHandle") ∧ Cond.instantiable q.1.cls q.2 ∈ tables_1 ∧ Cond.privateMethod q.1 ∈ tables_1 ∧ Cond.instanceMethod q.1 ∈ tables_1
theorem lw_p0 : lw_okq (⟨"RootCompass", "countFreePoints", "()I"⟩, 8) := ⟨⟨by decide +kernel, by decide +kernel⟩, List.mem_of_getElem? (i := 15) (by decide +kernel), List.mem_of_getElem? (i := 116) (by decide +kernel), List.mem_of_getElem? (i := 117) (by decide +kernel)⟩
theorem lw_p1 : lw_okq (⟨"java/lang/Throwable", "fillInStackTrace", "(I)Ljava/lang/Throwable;"⟩, 6) := ⟨⟨by decide +kernel, by decide +kernel⟩, List.mem_of_getElem? (i := 174) (by decide +kernel), List.mem_of_getElem? (i := 172) (by decide +kernel), List.mem_of_getElem? (i := 173) (by decide +kernel)⟩
theorem lw_p2 : lw_okq (⟨"RootCompass", "addStep", "(IIII)I"⟩, 8) := ⟨⟨by decide +kernel, by decide +kernel⟩, List.mem_of_getElem? (i := 15) (by decide +kernel), List.mem_of_getElem? (i := 204) (by decide +kernel), List.mem_of_getElem? (i := 205) (by decide +kernel)⟩
theorem lw_p3 : lw_okq (⟨"RootCompass", "place", "(IIIII)V"⟩, 8) := ⟨⟨by decide +kernel, by decide +kernel⟩, List.mem_of_getElem? (i := 15) (by decide +kernel), List.mem_of_getElem? (i := 224) (by decide +kernel), List.mem_of_getElem? (i := 225) (by decide +kernel)⟩
theorem lw_p4 : lw_okq (⟨"RootCompass$Numbers", "reserve", "()I"⟩, 6) := ⟨⟨by decide +kernel, by decide +kernel⟩, List.mem_of_getElem? (i := 23) (by decide +kernel), List.mem_of_getElem? (i := 236) (by decide +kernel), List.mem_of_getElem? (i := 237) (by decide +kernel)⟩
theorem lw_p5 : lw_okq (⟨"RootCompass$Numbers", "put", "(IJJ)V"⟩, 6) := ⟨⟨by decide +kernel, by decide +kernel⟩, List.mem_of_getElem? (i := 23) (by decide +kernel), List.mem_of_getElem? (i := 240) (by decide +kernel), List.mem_of_getElem? (i := 241) (by decide +kernel)⟩
theorem lw_p6 : lw_okq (⟨"RootCompass", "redraw", "(I)I"⟩, 8) := ⟨⟨by decide +kernel, by decide +kernel⟩, List.mem_of_getElem? (i := 15) (by decide +kernel), List.mem_of_getElem? (i := 262) (by decide +kernel), List.mem_of_getElem? (i := 263) (by decide +kernel)⟩
theorem lw_p7 : lw_okq (⟨"RootCompass", "drawLine", "(I)V"⟩, 8) := ⟨⟨by decide +kernel, by decide +kernel⟩, List.mem_of_getElem? (i := 15) (by decide +kernel), List.mem_of_getElem? (i := 266) (by decide +kernel), List.mem_of_getElem? (i := 267) (by decide +kernel)⟩
theorem lw_p8 : lw_okq (⟨"RootCompass", "coincide", "(II)Z"⟩, 8) := ⟨⟨by decide +kernel, by decide +kernel⟩, List.mem_of_getElem? (i := 15) (by decide +kernel), List.mem_of_getElem? (i := 270) (by decide +kernel), List.mem_of_getElem? (i := 271) (by decide +kernel)⟩
theorem lw_p9 : lw_okq (⟨"RootCompass$Numbers", "negative", "(II)I"⟩, 6) := ⟨⟨by decide +kernel, by decide +kernel⟩, List.mem_of_getElem? (i := 23) (by decide +kernel), List.mem_of_getElem? (i := 282) (by decide +kernel), List.mem_of_getElem? (i := 283) (by decide +kernel)⟩
theorem lw_p10 : lw_okq (⟨"RootCompass$Numbers", "sum", "(III)I"⟩, 6) := ⟨⟨by decide +kernel, by decide +kernel⟩, List.mem_of_getElem? (i := 23) (by decide +kernel), List.mem_of_getElem? (i := 286) (by decide +kernel), List.mem_of_getElem? (i := 287) (by decide +kernel)⟩
theorem lw_p11 : lw_okq (⟨"RootCompass$Numbers", "product", "(III)I"⟩, 6) := ⟨⟨by decide +kernel, by decide +kernel⟩, List.mem_of_getElem? (i := 23) (by decide +kernel), List.mem_of_getElem? (i := 300) (by decide +kernel), List.mem_of_getElem? (i := 301) (by decide +kernel)⟩
theorem lw_p12 : lw_okq (⟨"RootCompass$Numbers", "isZero", "(II)Z"⟩, 6) := ⟨⟨by decide +kernel, by decide +kernel⟩, List.mem_of_getElem? (i := 23) (by decide +kernel), List.mem_of_getElem? (i := 304) (by decide +kernel), List.mem_of_getElem? (i := 305) (by decide +kernel)⟩
theorem lw_p13 : lw_okq (⟨"RootCompass$Numbers", "pair", "(IIII)I"⟩, 6) := ⟨⟨by decide +kernel, by decide +kernel⟩, List.mem_of_getElem? (i := 23) (by decide +kernel), List.mem_of_getElem? (i := 311) (by decide +kernel), List.mem_of_getElem? (i := 312) (by decide +kernel)⟩
theorem lw_p14 : lw_okq (⟨"RootCompass", "drawCircle", "(I)V"⟩, 8) := ⟨⟨by decide +kernel, by decide +kernel⟩, List.mem_of_getElem? (i := 15) (by decide +kernel), List.mem_of_getElem? (i := 322) (by decide +kernel), List.mem_of_getElem? (i := 323) (by decide +kernel)⟩
theorem lw_p15 : lw_okq (⟨"RootCompass", "squareOfDistance", "(II)I"⟩, 8) := ⟨⟨by decide +kernel, by decide +kernel⟩, List.mem_of_getElem? (i := 15) (by decide +kernel), List.mem_of_getElem? (i := 326) (by decide +kernel), List.mem_of_getElem? (i := 327) (by decide +kernel)⟩
def lw_privs_1 : List (MethodName × Nat) := [(⟨"RootCompass", "countFreePoints", "()I"⟩, 8), (⟨"java/lang/Throwable", "fillInStackTrace", "(I)Ljava/lang/Throwable;"⟩, 6), (⟨"RootCompass", "addStep", "(IIII)I"⟩, 8), (⟨"RootCompass", "place", "(IIIII)V"⟩, 8), (⟨"RootCompass$Numbers", "reserve", "()I"⟩, 6), (⟨"RootCompass$Numbers", "put", "(IJJ)V"⟩, 6), (⟨"RootCompass", "redraw", "(I)I"⟩, 8), (⟨"RootCompass", "drawLine", "(I)V"⟩, 8), (⟨"RootCompass", "coincide", "(II)Z"⟩, 8), (⟨"RootCompass$Numbers", "negative", "(II)I"⟩, 6), (⟨"RootCompass$Numbers", "sum", "(III)I"⟩, 6), (⟨"RootCompass$Numbers", "product", "(III)I"⟩, 6), (⟨"RootCompass$Numbers", "isZero", "(II)Z"⟩, 6), (⟨"RootCompass$Numbers", "pair", "(IIII)I"⟩, 6), (⟨"RootCompass", "drawCircle", "(I)V"⟩, 8), (⟨"RootCompass", "squareOfDistance", "(II)I"⟩, 8)]
theorem lw_r1 : ∀ q ∈ lw_privs_1, lw_okq q := List.forall_mem_cons.mpr ⟨lw_p0, List.forall_mem_cons.mpr ⟨lw_p1, List.forall_mem_cons.mpr ⟨lw_p2, List.forall_mem_cons.mpr ⟨lw_p3, List.forall_mem_cons.mpr ⟨lw_p4, List.forall_mem_cons.mpr ⟨lw_p5, List.forall_mem_cons.mpr ⟨lw_p6, List.forall_mem_cons.mpr ⟨lw_p7, List.forall_mem_cons.mpr ⟨lw_p8, List.forall_mem_cons.mpr ⟨lw_p9, List.forall_mem_cons.mpr ⟨lw_p10, List.forall_mem_cons.mpr ⟨lw_p11, List.forall_mem_cons.mpr ⟨lw_p12, List.forall_mem_cons.mpr ⟨lw_p13, List.forall_mem_cons.mpr ⟨lw_p14, List.forall_mem_cons.mpr ⟨lw_p15, fun _ h => absurd h List.not_mem_nil⟩⟩⟩⟩⟩⟩⟩⟩⟩⟩⟩⟩⟩⟩⟩⟩
theorem lw_p16 : lw_okq (⟨"RootCompass", "drawMiddle", "(I)V"⟩, 8) := ⟨⟨by decide +kernel, by decide +kernel⟩, List.mem_of_getElem? (i := 15) (by decide +kernel), List.mem_of_getElem? (i := 337) (by decide +kernel), List.mem_of_getElem? (i := 338) (by decide +kernel)⟩
theorem lw_p17 : lw_okq (⟨"RootCompass$Numbers", "half", "(II)I"⟩, 6) := ⟨⟨by decide +kernel, by decide +kernel⟩, List.mem_of_getElem? (i := 23) (by decide +kernel), List.mem_of_getElem? (i := 345) (by decide +kernel), List.mem_of_getElem? (i := 346) (by decide +kernel)⟩
theorem lw_p18 : lw_okq (⟨"RootCompass", "drawMeetingOfLines", "(I)V"⟩, 8) := ⟨⟨by decide +kernel, by decide +kernel⟩, List.mem_of_getElem? (i := 15) (by decide +kernel), List.mem_of_getElem? (i := 350) (by decide +kernel), List.mem_of_getElem? (i := 351) (by decide +kernel)⟩
theorem lw_p19 : lw_okq (⟨"RootCompass$Numbers", "inverse", "(II)I"⟩, 6) := ⟨⟨by decide +kernel, by decide +kernel⟩, List.mem_of_getElem? (i := 23) (by decide +kernel), List.mem_of_getElem? (i := 358) (by decide +kernel), List.mem_of_getElem? (i := 359) (by decide +kernel)⟩
theorem lw_p20 : lw_okq (⟨"RootCompass", "takeLine", "(I)V"⟩, 8) := ⟨⟨by decide +kernel, by decide +kernel⟩, List.mem_of_getElem? (i := 15) (by decide +kernel), List.mem_of_getElem? (i := 362) (by decide +kernel), List.mem_of_getElem? (i := 363) (by decide +kernel)⟩
theorem lw_p21 : lw_okq (⟨"RootCompass", "measureCut", "(I)I"⟩, 8) := ⟨⟨by decide +kernel, by decide +kernel⟩, List.mem_of_getElem? (i := 15) (by decide +kernel), List.mem_of_getElem? (i := 366) (by decide +kernel), List.mem_of_getElem? (i := 367) (by decide +kernel)⟩
theorem lw_p22 : lw_okq (⟨"RootCompass$Numbers", "signOf", "(II)I"⟩, 6) := ⟨⟨by decide +kernel, by decide +kernel⟩, List.mem_of_getElem? (i := 23) (by decide +kernel), List.mem_of_getElem? (i := 374) (by decide +kernel), List.mem_of_getElem? (i := 375) (by decide +kernel)⟩
theorem lw_p23 : lw_okq (⟨"RootCompass$Numbers", "root", "(II)I"⟩, 6) := ⟨⟨by decide +kernel, by decide +kernel⟩, List.mem_of_getElem? (i := 23) (by decide +kernel), List.mem_of_getElem? (i := 381) (by decide +kernel), List.mem_of_getElem? (i := 382) (by decide +kernel)⟩
theorem lw_p24 : lw_okq (⟨"RootCompass$Numbers", "rootOfFraction", "(I)I"⟩, 6) := ⟨⟨by decide +kernel, by decide +kernel⟩, List.mem_of_getElem? (i := 23) (by decide +kernel), List.mem_of_getElem? (i := 385) (by decide +kernel), List.mem_of_getElem? (i := 386) (by decide +kernel)⟩
theorem lw_p25 : lw_okq (⟨"RootCompass$Numbers", "newLevel", "(I)I"⟩, 6) := ⟨⟨by decide +kernel, by decide +kernel⟩, List.mem_of_getElem? (i := 23) (by decide +kernel), List.mem_of_getElem? (i := 393) (by decide +kernel), List.mem_of_getElem? (i := 394) (by decide +kernel)⟩
theorem lw_p26 : lw_okq (⟨"RootCompass", "drawCut", "(II)V"⟩, 8) := ⟨⟨by decide +kernel, by decide +kernel⟩, List.mem_of_getElem? (i := 15) (by decide +kernel), List.mem_of_getElem? (i := 398) (by decide +kernel), List.mem_of_getElem? (i := 399) (by decide +kernel)⟩
theorem lw_p27 : lw_okq (⟨"RootCompass", "takeCommonLine", "(II)V"⟩, 8) := ⟨⟨by decide +kernel, by decide +kernel⟩, List.mem_of_getElem? (i := 15) (by decide +kernel), List.mem_of_getElem? (i := 406) (by decide +kernel), List.mem_of_getElem? (i := 407) (by decide +kernel)⟩
theorem lw_p28 : lw_okq (⟨"RootCompass", "settle", "(I)I"⟩, 8) := ⟨⟨by decide +kernel, by decide +kernel⟩, List.mem_of_getElem? (i := 15) (by decide +kernel), List.mem_of_getElem? (i := 410) (by decide +kernel), List.mem_of_getElem? (i := 411) (by decide +kernel)⟩
theorem lw_p29 : lw_okq (⟨"RootCompass", "isPoint", "(I)Z"⟩, 8) := ⟨⟨by decide +kernel, by decide +kernel⟩, List.mem_of_getElem? (i := 15) (by decide +kernel), List.mem_of_getElem? (i := 439) (by decide +kernel), List.mem_of_getElem? (i := 440) (by decide +kernel)⟩
theorem lw_p30 : lw_okq (⟨"RootCompass", "isCurve", "(I)Z"⟩, 8) := ⟨⟨by decide +kernel, by decide +kernel⟩, List.mem_of_getElem? (i := 15) (by decide +kernel), List.mem_of_getElem? (i := 466) (by decide +kernel), List.mem_of_getElem? (i := 467) (by decide +kernel)⟩
theorem lw_p31 : lw_okq (⟨"RootCompass", "isLine", "(I)Z"⟩, 8) := ⟨⟨by decide +kernel, by decide +kernel⟩, List.mem_of_getElem? (i := 15) (by decide +kernel), List.mem_of_getElem? (i := 470) (by decide +kernel), List.mem_of_getElem? (i := 471) (by decide +kernel)⟩
def lw_privs_2 : List (MethodName × Nat) := [(⟨"RootCompass", "drawMiddle", "(I)V"⟩, 8), (⟨"RootCompass$Numbers", "half", "(II)I"⟩, 6), (⟨"RootCompass", "drawMeetingOfLines", "(I)V"⟩, 8), (⟨"RootCompass$Numbers", "inverse", "(II)I"⟩, 6), (⟨"RootCompass", "takeLine", "(I)V"⟩, 8), (⟨"RootCompass", "measureCut", "(I)I"⟩, 8), (⟨"RootCompass$Numbers", "signOf", "(II)I"⟩, 6), (⟨"RootCompass$Numbers", "root", "(II)I"⟩, 6), (⟨"RootCompass$Numbers", "rootOfFraction", "(I)I"⟩, 6), (⟨"RootCompass$Numbers", "newLevel", "(I)I"⟩, 6), (⟨"RootCompass", "drawCut", "(II)V"⟩, 8), (⟨"RootCompass", "takeCommonLine", "(II)V"⟩, 8), (⟨"RootCompass", "settle", "(I)I"⟩, 8), (⟨"RootCompass", "isPoint", "(I)Z"⟩, 8), (⟨"RootCompass", "isCurve", "(I)Z"⟩, 8), (⟨"RootCompass", "isLine", "(I)Z"⟩, 8)]
theorem lw_r2 : ∀ q ∈ lw_privs_2, lw_okq q := List.forall_mem_cons.mpr ⟨lw_p16, List.forall_mem_cons.mpr ⟨lw_p17, List.forall_mem_cons.mpr ⟨lw_p18, List.forall_mem_cons.mpr ⟨lw_p19, List.forall_mem_cons.mpr ⟨lw_p20, List.forall_mem_cons.mpr ⟨lw_p21, List.forall_mem_cons.mpr ⟨lw_p22, List.forall_mem_cons.mpr ⟨lw_p23, List.forall_mem_cons.mpr ⟨lw_p24, List.forall_mem_cons.mpr ⟨lw_p25, List.forall_mem_cons.mpr ⟨lw_p26, List.forall_mem_cons.mpr ⟨lw_p27, List.forall_mem_cons.mpr ⟨lw_p28, List.forall_mem_cons.mpr ⟨lw_p29, List.forall_mem_cons.mpr ⟨lw_p30, List.forall_mem_cons.mpr ⟨lw_p31, fun _ h => absurd h List.not_mem_nil⟩⟩⟩⟩⟩⟩⟩⟩⟩⟩⟩⟩⟩⟩⟩⟩
theorem lw_p32 : lw_okq (⟨"RootCompass", "isCircle", "(I)Z"⟩, 8) := ⟨⟨by decide +kernel, by decide +kernel⟩, List.mem_of_getElem? (i := 15) (by decide +kernel), List.mem_of_getElem? (i := 474) (by decide +kernel), List.mem_of_getElem? (i := 475) (by decide +kernel)⟩
theorem lw_p33 : lw_okq (⟨"RootCompass", "copyPlace", "(II)V"⟩, 8) := ⟨⟨by decide +kernel, by decide +kernel⟩, List.mem_of_getElem? (i := 15) (by decide +kernel), List.mem_of_getElem? (i := 488) (by decide +kernel), List.mem_of_getElem? (i := 489) (by decide +kernel)⟩
theorem lw_p34 : lw_okq (⟨"RootCompass", "liesOnLine", "(II)Z"⟩, 8) := ⟨⟨by decide +kernel, by decide +kernel⟩, List.mem_of_getElem? (i := 15) (by decide +kernel), List.mem_of_getElem? (i := 500) (by decide +kernel), List.mem_of_getElem? (i := 501) (by decide +kernel)⟩
theorem lw_p35 : lw_okq (⟨"RootCompass", "refuseTooWide", "()V"⟩, 8) := ⟨⟨by decide +kernel, by decide +kernel⟩, List.mem_of_getElem? (i := 15) (by decide +kernel), List.mem_of_getElem? (i := 504) (by decide +kernel), List.mem_of_getElem? (i := 505) (by decide +kernel)⟩
theorem lw_p36 : lw_okq (⟨"RootCompassModel", "fresh", "(IIIII)I"⟩, 11) := ⟨⟨by decide +kernel, by decide +kernel⟩, List.mem_of_getElem? (i := 594) (by decide +kernel), List.mem_of_getElem? (i := 647) (by decide +kernel), List.mem_of_getElem? (i := 648) (by decide +kernel)⟩
theorem lw_p37 : lw_okq (⟨"RootCompassModel", "make", "(I)Z"⟩, 11) := ⟨⟨by decide +kernel, by decide +kernel⟩, List.mem_of_getElem? (i := 594) (by decide +kernel), List.mem_of_getElem? (i := 651) (by decide +kernel), List.mem_of_getElem? (i := 652) (by decide +kernel)⟩
theorem lw_p38 : lw_okq (⟨"RootCompassModel", "clear", "(II)V"⟩, 11) := ⟨⟨by decide +kernel, by decide +kernel⟩, List.mem_of_getElem? (i := 594) (by decide +kernel), List.mem_of_getElem? (i := 655) (by decide +kernel), List.mem_of_getElem? (i := 656) (by decide +kernel)⟩
theorem lw_p39 : lw_okq (⟨"RootCompassModel", "put", "(IJJ)V"⟩, 11) := ⟨⟨by decide +kernel, by decide +kernel⟩, List.mem_of_getElem? (i := 594) (by decide +kernel), List.mem_of_getElem? (i := 659) (by decide +kernel), List.mem_of_getElem? (i := 660) (by decide +kernel)⟩
theorem lw_p40 : lw_okq (⟨"RootCompassModel", "makeLine", "(III)V"⟩, 11) := ⟨⟨by decide +kernel, by decide +kernel⟩, List.mem_of_getElem? (i := 594) (by decide +kernel), List.mem_of_getElem? (i := 668) (by decide +kernel), List.mem_of_getElem? (i := 669) (by decide +kernel)⟩
theorem lw_p41 : lw_okq (⟨"RootCompassModel", "alike", "(II)Z"⟩, 11) := ⟨⟨by decide +kernel, by decide +kernel⟩, List.mem_of_getElem? (i := 594) (by decide +kernel), List.mem_of_getElem? (i := 675) (by decide +kernel), List.mem_of_getElem? (i := 676) (by decide +kernel)⟩
theorem lw_p42 : lw_okq (⟨"RootCompassModel", "sub", "(IIII)V"⟩, 11) := ⟨⟨by decide +kernel, by decide +kernel⟩, List.mem_of_getElem? (i := 594) (by decide +kernel), List.mem_of_getElem? (i := 682) (by decide +kernel), List.mem_of_getElem? (i := 683) (by decide +kernel)⟩
theorem lw_p43 : lw_okq (⟨"RootCompassModel", "sub0", "(III)V"⟩, 11) := ⟨⟨by decide +kernel, by decide +kernel⟩, List.mem_of_getElem? (i := 594) (by decide +kernel), List.mem_of_getElem? (i := 686) (by decide +kernel), List.mem_of_getElem? (i := 687) (by decide +kernel)⟩
theorem lw_p44 : lw_okq (⟨"RootCompassModel", "products", "(IIIII)V"⟩, 11) := ⟨⟨by decide +kernel, by decide +kernel⟩, List.mem_of_getElem? (i := 594) (by decide +kernel), List.mem_of_getElem? (i := 690) (by decide +kernel), List.mem_of_getElem? (i := 691) (by decide +kernel)⟩
theorem lw_p45 : lw_okq (⟨"RootCompassModel", "mul", "(III)V"⟩, 11) := ⟨⟨by decide +kernel, by decide +kernel⟩, List.mem_of_getElem? (i := 594) (by decide +kernel), List.mem_of_getElem? (i := 697) (by decide +kernel), List.mem_of_getElem? (i := 698) (by decide +kernel)⟩
theorem lw_p46 : lw_okq (⟨"RootCompassModel", "mul0", "(III)V"⟩, 11) := ⟨⟨by decide +kernel, by decide +kernel⟩, List.mem_of_getElem? (i := 594) (by decide +kernel), List.mem_of_getElem? (i := 701) (by decide +kernel), List.mem_of_getElem? (i := 702) (by decide +kernel)⟩
theorem lw_p47 : lw_okq (⟨"RootCompassModel", "mul1", "(III)V"⟩, 11) := ⟨⟨by decide +kernel, by decide +kernel⟩, List.mem_of_getElem? (i := 594) (by decide +kernel), List.mem_of_getElem? (i := 705) (by decide +kernel), List.mem_of_getElem? (i := 706) (by decide +kernel)⟩
def lw_privs_3 : List (MethodName × Nat) := [(⟨"RootCompass", "isCircle", "(I)Z"⟩, 8), (⟨"RootCompass", "copyPlace", "(II)V"⟩, 8), (⟨"RootCompass", "liesOnLine", "(II)Z"⟩, 8), (⟨"RootCompass", "refuseTooWide", "()V"⟩, 8), (⟨"RootCompassModel", "fresh", "(IIIII)I"⟩, 11), (⟨"RootCompassModel", "make", "(I)Z"⟩, 11), (⟨"RootCompassModel", "clear", "(II)V"⟩, 11), (⟨"RootCompassModel", "put", "(IJJ)V"⟩, 11), (⟨"RootCompassModel", "makeLine", "(III)V"⟩, 11), (⟨"RootCompassModel", "alike", "(II)Z"⟩, 11), (⟨"RootCompassModel", "sub", "(IIII)V"⟩, 11), (⟨"RootCompassModel", "sub0", "(III)V"⟩, 11), (⟨"RootCompassModel", "products", "(IIIII)V"⟩, 11), (⟨"RootCompassModel", "mul", "(III)V"⟩, 11), (⟨"RootCompassModel", "mul0", "(III)V"⟩, 11), (⟨"RootCompassModel", "mul1", "(III)V"⟩, 11)]
theorem lw_r3 : ∀ q ∈ lw_privs_3, lw_okq q := List.forall_mem_cons.mpr ⟨lw_p32, List.forall_mem_cons.mpr ⟨lw_p33, List.forall_mem_cons.mpr ⟨lw_p34, List.forall_mem_cons.mpr ⟨lw_p35, List.forall_mem_cons.mpr ⟨lw_p36, List.forall_mem_cons.mpr ⟨lw_p37, List.forall_mem_cons.mpr ⟨lw_p38, List.forall_mem_cons.mpr ⟨lw_p39, List.forall_mem_cons.mpr ⟨lw_p40, List.forall_mem_cons.mpr ⟨lw_p41, List.forall_mem_cons.mpr ⟨lw_p42, List.forall_mem_cons.mpr ⟨lw_p43, List.forall_mem_cons.mpr ⟨lw_p44, List.forall_mem_cons.mpr ⟨lw_p45, List.forall_mem_cons.mpr ⟨lw_p46, List.forall_mem_cons.mpr ⟨lw_p47, fun _ h => absurd h List.not_mem_nil⟩⟩⟩⟩⟩⟩⟩⟩⟩⟩⟩⟩⟩⟩⟩⟩
theorem lw_p48 : lw_okq (⟨"RootCompassModel", "add0", "(III)V"⟩, 11) := ⟨⟨by decide +kernel, by decide +kernel⟩, List.mem_of_getElem? (i := 594) (by decide +kernel), List.mem_of_getElem? (i := 709) (by decide +kernel), List.mem_of_getElem? (i := 710) (by decide +kernel)⟩
theorem lw_p49 : lw_okq (⟨"RootCompassModel", "mul2", "(III)V"⟩, 11) := ⟨⟨by decide +kernel, by decide +kernel⟩, List.mem_of_getElem? (i := 594) (by decide +kernel), List.mem_of_getElem? (i := 713) (by decide +kernel), List.mem_of_getElem? (i := 714) (by decide +kernel)⟩
theorem lw_p50 : lw_okq (⟨"RootCompassModel", "add", "(IIII)V"⟩, 11) := ⟨⟨by decide +kernel, by decide +kernel⟩, List.mem_of_getElem? (i := 594) (by decide +kernel), List.mem_of_getElem? (i := 717) (by decide +kernel), List.mem_of_getElem? (i := 718) (by decide +kernel)⟩
theorem lw_p51 : lw_okq (⟨"RootCompassModel", "squared", "(III)V"⟩, 11) := ⟨⟨by decide +kernel, by decide +kernel⟩, List.mem_of_getElem? (i := 594) (by decide +kernel), List.mem_of_getElem? (i := 721) (by decide +kernel), List.mem_of_getElem? (i := 722) (by decide +kernel)⟩
theorem lw_p52 : lw_okq (⟨"RootCompassModel", "isZero", "(II)Z"⟩, 11) := ⟨⟨by decide +kernel, by decide +kernel⟩, List.mem_of_getElem? (i := 594) (by decide +kernel), List.mem_of_getElem? (i := 725) (by decide +kernel), List.mem_of_getElem? (i := 726) (by decide +kernel)⟩
theorem lw_p53 : lw_okq (⟨"RootCompassModel", "makeMiddle", "(III)V"⟩, 11) := ⟨⟨by decide +kernel, by decide +kernel⟩, List.mem_of_getElem? (i := 594) (by decide +kernel), List.mem_of_getElem? (i := 729) (by decide +kernel), List.mem_of_getElem? (i := 730) (by decide +kernel)⟩
theorem lw_p54 : lw_okq (⟨"RootCompassModel", "halve", "(III)V"⟩, 11) := ⟨⟨by decide +kernel, by decide +kernel⟩, List.mem_of_getElem? (i := 594) (by decide +kernel), List.mem_of_getElem? (i := 733) (by decide +kernel), List.mem_of_getElem? (i := 734) (by decide +kernel)⟩
theorem lw_p55 : lw_okq (⟨"RootCompassModel", "makeMeeting", "(IIII)V"⟩, 11) := ⟨⟨by decide +kernel, by decide +kernel⟩, List.mem_of_getElem? (i := 594) (by decide +kernel), List.mem_of_getElem? (i := 737) (by decide +kernel), List.mem_of_getElem? (i := 738) (by decide +kernel)⟩
theorem lw_p56 : lw_okq (⟨"RootCompassModel", "meetLines", "(III)V"⟩, 11) := ⟨⟨by decide +kernel, by decide +kernel⟩, List.mem_of_getElem? (i := 594) (by decide +kernel), List.mem_of_getElem? (i := 741) (by decide +kernel), List.mem_of_getElem? (i := 742) (by decide +kernel)⟩
theorem lw_p57 : lw_okq (⟨"RootCompassModel", "cross", "(IIIII)V"⟩, 11) := ⟨⟨by decide +kernel, by decide +kernel⟩, List.mem_of_getElem? (i := 594) (by decide +kernel), List.mem_of_getElem? (i := 745) (by decide +kernel), List.mem_of_getElem? (i := 746) (by decide +kernel)⟩
theorem lw_p58 : lw_okq (⟨"RootCompassModel", "inv", "(II)V"⟩, 11) := ⟨⟨by decide +kernel, by decide +kernel⟩, List.mem_of_getElem? (i := 594) (by decide +kernel), List.mem_of_getElem? (i := 749) (by decide +kernel), List.mem_of_getElem? (i := 750) (by decide +kernel)⟩
theorem lw_p59 : lw_okq (⟨"RootCompassModel", "inv0", "(II)V"⟩, 11) := ⟨⟨by decide +kernel, by decide +kernel⟩, List.mem_of_getElem? (i := 594) (by decide +kernel), List.mem_of_getElem? (i := 753) (by decide +kernel), List.mem_of_getElem? (i := 754) (by decide +kernel)⟩
theorem lw_p60 : lw_okq (⟨"RootCompassModel", "inv1", "(II)V"⟩, 11) := ⟨⟨by decide +kernel, by decide +kernel⟩, List.mem_of_getElem? (i := 594) (by decide +kernel), List.mem_of_getElem? (i := 757) (by decide +kernel), List.mem_of_getElem? (i := 758) (by decide +kernel)⟩
theorem lw_p61 : lw_okq (⟨"RootCompassModel", "norm1", "(II)V"⟩, 11) := ⟨⟨by decide +kernel, by decide +kernel⟩, List.mem_of_getElem? (i := 594) (by decide +kernel), List.mem_of_getElem? (i := 761) (by decide +kernel), List.mem_of_getElem? (i := 762) (by decide +kernel)⟩
theorem lw_p62 : lw_okq (⟨"RootCompassModel", "neg0", "(II)V"⟩, 11) := ⟨⟨by decide +kernel, by decide +kernel⟩, List.mem_of_getElem? (i := 594) (by decide +kernel), List.mem_of_getElem? (i := 765) (by decide +kernel), List.mem_of_getElem? (i := 766) (by decide +kernel)⟩
theorem lw_p63 : lw_okq (⟨"RootCompassModel", "inv2", "(II)V"⟩, 11) := ⟨⟨by decide +kernel, by decide +kernel⟩, List.mem_of_getElem? (i := 594) (by decide +kernel), List.mem_of_getElem? (i := 769) (by decide +kernel), List.mem_of_getElem? (i := 770) (by decide +kernel)⟩
def lw_privs_4 : List (MethodName × Nat) := [(⟨"RootCompassModel", "add0", "(III)V"⟩, 11), (⟨"RootCompassModel", "mul2", "(III)V"⟩, 11), (⟨"RootCompassModel", "add", "(IIII)V"⟩, 11), (⟨"RootCompassModel", "squared", "(III)V"⟩, 11), (⟨"RootCompassModel", "isZero", "(II)Z"⟩, 11), (⟨"RootCompassModel", "makeMiddle", "(III)V"⟩, 11), (⟨"RootCompassModel", "halve", "(III)V"⟩, 11), (⟨"RootCompassModel", "makeMeeting", "(IIII)V"⟩, 11), (⟨"RootCompassModel", "meetLines", "(III)V"⟩, 11), (⟨"RootCompassModel", "cross", "(IIIII)V"⟩, 11), (⟨"RootCompassModel", "inv", "(II)V"⟩, 11), (⟨"RootCompassModel", "inv0", "(II)V"⟩, 11), (⟨"RootCompassModel", "inv1", "(II)V"⟩, 11), (⟨"RootCompassModel", "norm1", "(II)V"⟩, 11), (⟨"RootCompassModel", "neg0", "(II)V"⟩, 11), (⟨"RootCompassModel", "inv2", "(II)V"⟩, 11)]
theorem lw_r4 : ∀ q ∈ lw_privs_4, lw_okq q := List.forall_mem_cons.mpr ⟨lw_p48, List.forall_mem_cons.mpr ⟨lw_p49, List.forall_mem_cons.mpr ⟨lw_p50, List.forall_mem_cons.mpr ⟨lw_p51, List.forall_mem_cons.mpr ⟨lw_p52, List.forall_mem_cons.mpr ⟨lw_p53, List.forall_mem_cons.mpr ⟨lw_p54, List.forall_mem_cons.mpr ⟨lw_p55, List.forall_mem_cons.mpr ⟨lw_p56, List.forall_mem_cons.mpr ⟨lw_p57, List.forall_mem_cons.mpr ⟨lw_p58, List.forall_mem_cons.mpr ⟨lw_p59, List.forall_mem_cons.mpr ⟨lw_p60, List.forall_mem_cons.mpr ⟨lw_p61, List.forall_mem_cons.mpr ⟨lw_p62, List.forall_mem_cons.mpr ⟨lw_p63, fun _ h => absurd h List.not_mem_nil⟩⟩⟩⟩⟩⟩⟩⟩⟩⟩⟩⟩⟩⟩⟩⟩
theorem lw_p64 : lw_okq (⟨"RootCompassModel", "norm2", "(II)V"⟩, 11) := ⟨⟨by decide +kernel, by decide +kernel⟩, List.mem_of_getElem? (i := 594) (by decide +kernel), List.mem_of_getElem? (i := 773) (by decide +kernel), List.mem_of_getElem? (i := 774) (by decide +kernel)⟩
theorem lw_p65 : lw_okq (⟨"RootCompassModel", "neg", "(III)V"⟩, 11) := ⟨⟨by decide +kernel, by decide +kernel⟩, List.mem_of_getElem? (i := 594) (by decide +kernel), List.mem_of_getElem? (i := 777) (by decide +kernel), List.mem_of_getElem? (i := 778) (by decide +kernel)⟩
theorem lw_p66 : lw_okq (⟨"RootCompassModel", "set", "(III)V"⟩, 11) := ⟨⟨by decide +kernel, by decide +kernel⟩, List.mem_of_getElem? (i := 594) (by decide +kernel), List.mem_of_getElem? (i := 781) (by decide +kernel), List.mem_of_getElem? (i := 782) (by decide +kernel)⟩
theorem lw_p67 : lw_okq (⟨"RootCompassModel", "meetCircles", "(IIII)V"⟩, 11) := ⟨⟨by decide +kernel, by decide +kernel⟩, List.mem_of_getElem? (i := 594) (by decide +kernel), List.mem_of_getElem? (i := 785) (by decide +kernel), List.mem_of_getElem? (i := 786) (by decide +kernel)⟩
theorem lw_p68 : lw_okq (⟨"RootCompassModel", "meetCircle", "(IIII)V"⟩, 11) := ⟨⟨by decide +kernel, by decide +kernel⟩, List.mem_of_getElem? (i := 594) (by decide +kernel), List.mem_of_getElem? (i := 789) (by decide +kernel), List.mem_of_getElem? (i := 790) (by decide +kernel)⟩
theorem lw_p69 : lw_okq (⟨"RootCompassModel", "takeRoot", "(II)V"⟩, 11) := ⟨⟨by decide +kernel, by decide +kernel⟩, List.mem_of_getElem? (i := 594) (by decide +kernel), List.mem_of_getElem? (i := 793) (by decide +kernel), List.mem_of_getElem? (i := 794) (by decide +kernel)⟩
theorem lw_p70 : lw_okq (⟨"RootCompassModel", "signOf", "(I)I"⟩, 11) := ⟨⟨by decide +kernel, by decide +kernel⟩, List.mem_of_getElem? (i := 594) (by decide +kernel), List.mem_of_getElem? (i := 797) (by decide +kernel), List.mem_of_getElem? (i := 798) (by decide +kernel)⟩
theorem lw_p71 : lw_okq (⟨"RootCompassModel", "sign0", "(I)I"⟩, 11) := ⟨⟨by decide +kernel, by decide +kernel⟩, List.mem_of_getElem? (i := 594) (by decide +kernel), List.mem_of_getElem? (i := 801) (by decide +kernel), List.mem_of_getElem? (i := 802) (by decide +kernel)⟩
theorem lw_p72 : lw_okq (⟨"RootCompassModel", "sign1", "(I)I"⟩, 11) := ⟨⟨by decide +kernel, by decide +kernel⟩, List.mem_of_getElem? (i := 594) (by decide +kernel), List.mem_of_getElem? (i := 805) (by decide +kernel), List.mem_of_getElem? (i := 806) (by decide +kernel)⟩
theorem lw_p73 : lw_okq (⟨"RootCompassModel", "sign2", "(I)I"⟩, 11) := ⟨⟨by decide +kernel, by decide +kernel⟩, List.mem_of_getElem? (i := 594) (by decide +kernel), List.mem_of_getElem? (i := 809) (by decide +kernel), List.mem_of_getElem? (i := 810) (by decide +kernel)⟩
theorem lw_p74 : lw_okq (⟨"RootCompassModel", "root", "(II)Z"⟩, 11) := ⟨⟨by decide +kernel, by decide +kernel⟩, List.mem_of_getElem? (i := 594) (by decide +kernel), List.mem_of_getElem? (i := 813) (by decide +kernel), List.mem_of_getElem? (i := 814) (by decide +kernel)⟩
theorem lw_p75 : lw_okq (⟨"RootCompassModel", "root0", "(II)Z"⟩, 11) := ⟨⟨by decide +kernel, by decide +kernel⟩, List.mem_of_getElem? (i := 594) (by decide +kernel), List.mem_of_getElem? (i := 817) (by decide +kernel), List.mem_of_getElem? (i := 818) (by decide +kernel)⟩
theorem lw_p76 : lw_okq (⟨"RootCompassModel", "root1", "(II)Z"⟩, 11) := ⟨⟨by decide +kernel, by decide +kernel⟩, List.mem_of_getElem? (i := 594) (by decide +kernel), List.mem_of_getElem? (i := 826) (by decide +kernel), List.mem_of_getElem? (i := 827) (by decide +kernel)⟩
theorem lw_p77 : lw_okq (⟨"RootCompassModel", "half1", "(IIIZ)Z"⟩, 11) := ⟨⟨by decide +kernel, by decide +kernel⟩, List.mem_of_getElem? (i := 594) (by decide +kernel), List.mem_of_getElem? (i := 830) (by decide +kernel), List.mem_of_getElem? (i := 831) (by decide +kernel)⟩
theorem lw_p78 : lw_okq (⟨"RootCompassModel", "root2", "(II)Z"⟩, 11) := ⟨⟨by decide +kernel, by decide +kernel⟩, List.mem_of_getElem? (i := 594) (by decide +kernel), List.mem_of_getElem? (i := 834) (by decide +kernel), List.mem_of_getElem? (i := 835) (by decide +kernel)⟩
theorem lw_p79 : lw_okq (⟨"RootCompassModel", "half2", "(IIIZ)Z"⟩, 11) := ⟨⟨by decide +kernel, by decide +kernel⟩, List.mem_of_getElem? (i := 594) (by decide +kernel), List.mem_of_getElem? (i := 838) (by decide +kernel), List.mem_of_getElem? (i := 839) (by decide +kernel)⟩
def lw_privs_5 : List (MethodName × Nat) := [(⟨"RootCompassModel", "norm2", "(II)V"⟩, 11), (⟨"RootCompassModel", "neg", "(III)V"⟩, 11), (⟨"RootCompassModel", "set", "(III)V"⟩, 11), (⟨"RootCompassModel", "meetCircles", "(IIII)V"⟩, 11), (⟨"RootCompassModel", "meetCircle", "(IIII)V"⟩, 11), (⟨"RootCompassModel", "takeRoot", "(II)V"⟩, 11), (⟨"RootCompassModel", "signOf", "(I)I"⟩, 11), (⟨"RootCompassModel", "sign0", "(I)I"⟩, 11), (⟨"RootCompassModel", "sign1", "(I)I"⟩, 11), (⟨"RootCompassModel", "sign2", "(I)I"⟩, 11), (⟨"RootCompassModel", "root", "(II)Z"⟩, 11), (⟨"RootCompassModel", "root0", "(II)Z"⟩, 11), (⟨"RootCompassModel", "root1", "(II)Z"⟩, 11), (⟨"RootCompassModel", "half1", "(IIIZ)Z"⟩, 11), (⟨"RootCompassModel", "root2", "(II)Z"⟩, 11), (⟨"RootCompassModel", "half2", "(IIIZ)Z"⟩, 11)]
theorem lw_r5 : ∀ q ∈ lw_privs_5, lw_okq q := List.forall_mem_cons.mpr ⟨lw_p64, List.forall_mem_cons.mpr ⟨lw_p65, List.forall_mem_cons.mpr ⟨lw_p66, List.forall_mem_cons.mpr ⟨lw_p67, List.forall_mem_cons.mpr ⟨lw_p68, List.forall_mem_cons.mpr ⟨lw_p69, List.forall_mem_cons.mpr ⟨lw_p70, List.forall_mem_cons.mpr ⟨lw_p71, List.forall_mem_cons.mpr ⟨lw_p72, List.forall_mem_cons.mpr ⟨lw_p73, List.forall_mem_cons.mpr ⟨lw_p74, List.forall_mem_cons.mpr ⟨lw_p75, List.forall_mem_cons.mpr ⟨lw_p76, List.forall_mem_cons.mpr ⟨lw_p77, List.forall_mem_cons.mpr ⟨lw_p78, List.forall_mem_cons.mpr ⟨lw_p79, fun _ h => absurd h List.not_mem_nil⟩⟩⟩⟩⟩⟩⟩⟩⟩⟩⟩⟩⟩⟩⟩⟩
theorem lw_p80 : lw_okq (⟨"RootCompassModel", "isPoint", "(I)Z"⟩, 11) := ⟨⟨by decide +kernel, by decide +kernel⟩, List.mem_of_getElem? (i := 594) (by decide +kernel), List.mem_of_getElem? (i := 846) (by decide +kernel), List.mem_of_getElem? (i := 847) (by decide +kernel)⟩
theorem lw_p81 : lw_okq (⟨"RootCompassModel", "kindOf", "(I)I"⟩, 11) := ⟨⟨by decide +kernel, by decide +kernel⟩, List.mem_of_getElem? (i := 594) (by decide +kernel), List.mem_of_getElem? (i := 850) (by decide +kernel), List.mem_of_getElem? (i := 851) (by decide +kernel)⟩
theorem lw_p82 : lw_okq (⟨"RootCompassModel", "become", "(IIIII)V"⟩, 11) := ⟨⟨by decide +kernel, by decide +kernel⟩, List.mem_of_getElem? (i := 594) (by decide +kernel), List.mem_of_getElem? (i := 870) (by decide +kernel), List.mem_of_getElem? (i := 871) (by decide +kernel)⟩
theorem lw_p83 : lw_okq (⟨"RootCompassModel", "redraw", "()I"⟩, 11) := ⟨⟨by decide +kernel, by decide +kernel⟩, List.mem_of_getElem? (i := 594) (by decide +kernel), List.mem_of_getElem? (i := 874) (by decide +kernel), List.mem_of_getElem? (i := 875) (by decide +kernel)⟩
theorem lw_p84 : lw_okq (⟨"RootCompassModel", "told", "(Z)Z"⟩, 11) := ⟨⟨by decide +kernel, by decide +kernel⟩, List.mem_of_getElem? (i := 594) (by decide +kernel), List.mem_of_getElem? (i := 886) (by decide +kernel), List.mem_of_getElem? (i := 887) (by decide +kernel)⟩
def lw_privs_6 : List (MethodName × Nat) := [(⟨"RootCompassModel", "isPoint", "(I)Z"⟩, 11), (⟨"RootCompassModel", "kindOf", "(I)I"⟩, 11), (⟨"RootCompassModel", "become", "(IIIII)V"⟩, 11), (⟨"RootCompassModel", "redraw", "()I"⟩, 11), (⟨"RootCompassModel", "told", "(Z)Z"⟩, 11)]
theorem lw_r6 : ∀ q ∈ lw_privs_6, lw_okq q := List.forall_mem_cons.mpr ⟨lw_p80, List.forall_mem_cons.mpr ⟨lw_p81, List.forall_mem_cons.mpr ⟨lw_p82, List.forall_mem_cons.mpr ⟨lw_p83, List.forall_mem_cons.mpr ⟨lw_p84, fun _ h => absurd h List.not_mem_nil⟩⟩⟩⟩⟩
def lw_privs : List (MethodName × Nat) := lw_privs_1 ++ (lw_privs_2 ++ (lw_privs_3 ++ (lw_privs_4 ++ (lw_privs_5 ++ (lw_privs_6)))))
def lw_tbl : List Cond := k2_sels lw_privs ++ tables_1
theorem lw_privs_ok : ∀ q ∈ lw_privs, lw_okq q := by
  show ∀ q ∈ lw_privs_1 ++ (lw_privs_2 ++ (lw_privs_3 ++ (lw_privs_4 ++ (lw_privs_5 ++ (lw_privs_6))))), lw_okq q
  exact List.forall_mem_append.mpr ⟨lw_r1, List.forall_mem_append.mpr ⟨lw_r2, List.forall_mem_append.mpr ⟨lw_r3, List.forall_mem_append.mpr ⟨lw_r4, List.forall_mem_append.mpr ⟨lw_r5, lw_r6⟩⟩⟩⟩⟩
end
section
/-! ===== BEGIN words of one list among another's, by their places ===== -/
theorem goodIn_r {big : List Cond} (ws : List Cond) (ps : List Nat) (hp : ws = ps.filterMap (fun i => big[i]?)) (h : ws.all goodWord = true) : GoodIn big ws := by
  intro w hw
  have h1 := List.all_eq_true.mp h w hw
  rw [hp] at hw
  obtain ⟨i, -, hi⟩ := List.mem_filterMap.mp hw
  have hm : w ∈ big := by first | exact List.mem_of_getElem? hi | exact List.getElem?_mem hi
  exact ⟨hm, good_of_word h1⟩
theorem goodIn_app {big a b : List Cond} (ha : GoodIn big a) (hb : GoodIn big b) : GoodIn big (a ++ b) := fun w h => (List.mem_append.mp h).elim (ha w) (hb w)
theorem goodIn_ca {big a b : List Cond} {c : Cond} (ha : GoodIn big (c :: a)) (hb : GoodIn big b) : GoodIn big (c :: (a ++ b)) := fun w h => (List.mem_cons.mp h).elim (fun e => ha w (List.mem_cons.mpr (Or.inl e))) (fun h => (List.mem_append.mp h).elim (fun h => ha w (List.mem_cons.mpr (Or.inr h))) (hb w))
theorem goodIn_sub {big ws : List Cond} (hm : ∀ w ∈ ws, w ∈ big) (h : ws.all goodWord = true) : GoodIn big ws := fun w hw => ⟨hm w hw, good_of_word (List.all_eq_true.mp h w hw)⟩
/-! ===== END ===== -/

/-! ===== BEGIN exceptions that leave a method, and their catching by the caller (launches without stack traces) ===== -/
section VXA
/-! The laws vx_back, vx_callV, vx_callS, vx_callSW, vx_throw0, vx_throwS follow proofs of the library, with one case more: JvmDerived/Free/Laws.lean (Back.of_free), Shelf42/LK1.lean (callV, callS), Shelf/KitTraced.lean (throwNew0V, throwNewS). -/
/-- where a method has thrown q: the class by its name, the cell, what was written, the world -/
def vx_T (XC : String → State → State → Prop) (st : State) (q : Addr) (t : State) (mc ms : Nat) (free : Addr → Prop) : Prop :=
  ∃ (E : String) (ce : Cell) (L : List Loc), XC E st t ∧ t.heap[q]? = some ce ∧ ce.vm = .none ∧ st.vm.findClass E = some ce.cls ∧ st.WarmedH t.vm ∧ st.sameButNew ({ t with vm := st.vm } : State) L mc ms ∧ ∀ z ∈ L, free z.base
def vx_Q (Qc : Array Value → State → Outcome → State → Prop) (XC : String → State → State → Prop) (mc ms : Nat) (free : Addr → Prop) : Array Value → State → Outcome → State → Prop := fun a st o t =>
  (Qc a st o t ∧ ∃ L, FrameEnd st o t L mc ms ∧ ∀ q ∈ L, free q.base) ∨ ∃ q, o = .threw q ∧ vx_T XC st q t mc ms free
/-- a callee that returns or throws -/
def vx_Met (l : Launch) (y : MethodName) (ws : List Cond) (rm : Room) (Pc : Array Value → State → Prop) (Qc : Array Value → State → Outcome → State → Prop) (XC : String → State → State → Prop) (mc ms : Nat) (free : Addr → Prop) : Prop :=
  MetFree l y (headSpec ws rm) Pc (fun _ _ _ _ _ => True) (vx_Q Qc XC mc ms free)
def vx_Post (XC : String → State → State → Prop) (mc ms : Nat) (free : Addr → Prop) : Pt → Array Value → Addr → Pt → Prop := fun A a q B =>
  ∃ (g : JFrame) (mk : MethodId) (t : State) (L : List Loc) (E : String) (ce : Cell), B.U.heap = t.heap ∧ B.U.vm = t.vm ∧ XC E (A.U.calling g mk a) t ∧ t.heap[q]? = some ce ∧ ce.vm = .none ∧ A.U.vm.findClass E = some ce.cls ∧ B.locs = A.locs ++ L ∧ (∀ z ∈ L, free z.base) ∧ B.cells = A.cells + mc ∧ B.slots = A.slots + ms
def vx_Back (l : Launch) (R : Room) (p : Program) (e : Env) (below : List Frame) (s : State) (sargs : Array Value) (y : MethodName) (len W9 : Nat)
    (Pre : Pt → Array Value → Prop) (Post : Pt → Array Value → Option Value → Pt → Prop) (PostX : Pt → Array Value → Addr → Pt → Prop) : Prop :=
  ∀ (m : MethodId) (meth : Method) (c : Code) (A : Pt) (g : JFrame) (ig : Instr) (mk : MethodId) (a : Array Value),
    Stand p l e R s m sargs below meth c A.U A.locs A.cells A.slots → g.method = m → g.locals.size = c.maxLocals → decode c.code g.pc = .ok (ig, len) →
    2 * g.monitorRoom + (g.stack.map fun v => v.category).sum ≤ W9 → A.U.methodNamed? y = some mk → Pre A a →
    (∃ (v : Option Value) (B : Pt), Stand p l e R s m sargs below meth c B.U B.locs B.cells B.slots ∧ Post A a v B ∧
      Steps p.tables e below (doInvoke e (A.U.setTop g) [] mk a).1 (B.U.setTop { g with pc := g.pc + len, stack := v.toList ++ g.stack })) ∨
    (∃ (q : Addr) (B : Pt), Stand p l e R s m sargs below meth c B.U B.locs B.cells B.slots ∧ PostX A a q B ∧
      Steps p.tables e below (doInvoke e (A.U.setTop g) [] mk a).1 ((B.U.setTop g).pushFrame (.throwing q)))
section Payer
variable {l : Launch} {R : Room} {p : Program} {e : Env} {below : List Frame} {s : State} {sargs : Array Value} {y : MethodName} {len W9 : Nat}
theorem vx_back {ws : List Cond} {rm : Room} {Pc : Array Value → State → Prop} {Qc : Array Value → State → Outcome → State → Prop} {XC : String → State → State → Prop} {mc ms : Nat} {free : Addr → Prop} {bytes : ByteArray} {maxL : Nat} {ret : Option FieldType}
    (hM : vx_Met l y ws rm Pc Qc XC mc ms free) (hblind : FrameBlind Pc) (hrc : rm.cells = mc) (hrs : rm.slots = ms)
    (hframes : rm.frames + 1 ≤ R.frames) (hlocals : W9 + (maxL + 11) + rm.locals ≤ R.locals)
    (hws : ∀ w ∈ ws, ∀ a' U, s.WarmedH U.vm → w.before a' U = true) (hcode : Cond.code y bytes maxL ret ∈ ws) (hinit : ∀ a' U, s.WarmedH U.vm → (Cond.initialized y.cls).before a' U = true) :
    vx_Back l R p e below s sargs y len W9 (PreOf R mc ms Pc) (PostOf Qc mc ms free) (vx_Post XC mc ms free) := by
  intro m meth c A g ig mk a X hg hsize hdg hW hn hp
  have h1 : (headSpec ws rm).pre.before a A.U = true := atoms_intro fun w hw => hws w hw _ _ X.warmed
  have h2 : (Cond.code y bytes maxL ret).before a A.U = true := hws _ hcode _ _ X.warmed
  have h3 : (Cond.initialized y.cls).before a A.U = true := hinit _ _ X.warmed
  have h4 : A.cells + (headSpec ws rm).room.cells ≤ R.cells := by rw [show (headSpec ws rm).room.cells = mc from hrc]; exact hp.1
  have h5 : A.slots + (headSpec ws rm).room.slots ≤ R.slots := by rw [show (headSpec ws rm).room.slots = ms from hrs]; exact hp.2.1
  have hPc : Pc a (A.U.calling g mk a) := hblind _ _ _ _ hp.2.2
  obtain ⟨U, Ls, c0, s0⟩ := A
  dsimp only [Pt.U, Pt.locs, Pt.cells, Pt.slots] at h1 h2 h3 h4 h5 X hn hPc ⊢
  obtain ⟨methY, cY, hmY, hcY, -, hlY, -, -, -, -⟩ := Cond.code_spec hn h2
  obtain ⟨kY, hkY, -⟩ := className_of_methodNamed hn
  have hinitY : kY.init = .initialized := Cond.initialized_spec (findClass_of_methodNamed hn) hkY h3
  have h : At U g.method c below := by rw [hg]; exact X.here
  have hlocals9 : W9 + (maxL + 11) + (headSpec ws rm).room.locals ≤ R.locals := hlocals
  have happ : (headSpec ws rm).appliesLoose y e.platform (U.calling g mk a) = true :=
    Spec.appliesLoose_calling (g := g) h hdg hn hkY hinitY
      (X.room_calling (g := g) (R' := (headSpec ws rm).room) hsize hmY hcY hframes (by rw [hlY]; omega) h4 h5) h1
  obtain ⟨mid, hmid⟩ := h.above
  have hfr : (U.setTop g).frames = (.java g :: mid) ++ below := by rw [State.frames_setTop' g h.top, hmid]; rfl
  obtain ⟨o, s₂, hsteps, -, hend, hq⟩ := Steps.callFree hM p X.admits X.cas X.clock (acts := []) hfr happ hPc trivial
  have hq' : vx_Q Qc XC mc ms free a (U.calling g mk a) o s₂ := hq
  rw [State.frames_setTop' g h.top] at hend
  obtain ⟨g₀, hg0⟩ := Option.isSome_iff_exists.mp h.top
  obtain ⟨r, hr⟩ := State.topJava?_eq_some.mp hg0
  have hr' : (({ U with heap := s₂.heap, slotsUsed := s₂.slotsUsed } : State).setVm s₂.vm).frames = .java g₀ :: r := hr
  rcases hq' with ⟨hqc, L, hfe, hL⟩ | ⟨q, rfl, E, ce, L, hx, hce, hcv, hcl, hW₂, hsm, hL⟩
  · obtain ⟨⟨v, rfl⟩, hW₂, e2, q2, q3, q4, q5, q6⟩ := id hfe
    have e3 : s₂ = ({ (U.calling g mk a).setFrames s₂.frames with heap := s₂.heap, slotsUsed := s₂.slotsUsed } : State).setVm s₂.vm := by
      have : s₂ = ({ s₂ with vm := (U.calling g mk a).vm } : State).setVm s₂.vm := rfl
      rw [e2] at this
      exact this
    obtain ⟨c₂, i₂, len₂, hc₂, hd₂, hf₂⟩ := hend
    have hW' : U.WarmedH s₂.vm := hW₂
    have hcc : c₂ = c := by
      have h1 : s₂.code? g.method = U.code? g.method := by
        rw [State.code?_eq, State.code?_eq, hW'.alike.method?]
      exact Option.some.inj (hc₂.symm.trans (h1.trans h.code))
    subst hcc
    have hlen : len₂ = len := by rw [hdg] at hd₂; cases hd₂; rfl
    subst hlen
    have hs₂ : s₂ = (({ U with heap := s₂.heap, slotsUsed := s₂.slotsUsed } : State).setVm s₂.vm).setTop { g with pc := g.pc + len₂, stack := v.toList ++ g.stack } := by
      refine e3.trans ?_
      rw [hf₂, State.calling_eq h.top, State.setFrames_setFrames, State.setTop_of_frames _ hr', hr]
      rfl
    have hsame : U.sameButNew ({ U with heap := s₂.heap, slotsUsed := s₂.slotsUsed } : State) L mc ms := by
      refine ⟨?_, q2, q3, q4, q5, q6⟩
      obtain ⟨t, ht, -⟩ := State.frames_cons hr
      show ({ U with heap := s₂.heap, slotsUsed := s₂.slotsUsed } : State) = { U.setFrames U.frames with heap := s₂.heap, slotsUsed := s₂.slotsUsed }
      rw [State.setFrames_self ht]
    subst hg
    refine Or.inl ⟨v, ⟨(({ U with heap := s₂.heap, slotsUsed := s₂.slotsUsed } : State).setVm s₂.vm), Ls ++ L, c0 + mc, s0 + ms⟩,
      ⟨X.admits, X.cas, X.clock, X.frames, X.room, X.hears, X.method, X.code, (X.here.setHeapUsed s₂.heap s₂.slotsUsed).setVm hW'.alike, X.tail, State.WarmedH.trans X.warmed hW', X.limits, X.bytes, X.same.trans (hsame.setVm s.vm)⟩,
      ⟨g, mk, s₂, L, rfl, rfl, hqc, rfl, hL, rfl, rfl⟩, ?_⟩
    show Steps p.tables e below _ ((({ U with heap := s₂.heap, slotsUsed := s₂.slotsUsed } : State).setVm s₂.vm).setTop { g with pc := g.pc + len₂, stack := v.toList ++ g.stack })
    rw [← hs₂]
    exact hsteps
  · obtain ⟨e2, q2, q3, q4, q5, q6⟩ := id hsm
    have e3 : s₂ = ({ (U.calling g mk a).setFrames s₂.frames with heap := s₂.heap, slotsUsed := s₂.slotsUsed } : State).setVm s₂.vm := by
      have : s₂ = ({ s₂ with vm := (U.calling g mk a).vm } : State).setVm s₂.vm := rfl
      rw [e2] at this
      exact this
    have hf₂ : s₂.frames = .throwing q :: .java g :: U.frames.tail := hend
    have hW' : U.WarmedH s₂.vm := hW₂
    have hs₂ : s₂ = ((({ U with heap := s₂.heap, slotsUsed := s₂.slotsUsed } : State).setVm s₂.vm).setTop g).pushFrame (.throwing q) := by
      refine e3.trans ?_
      rw [hf₂, State.calling_eq h.top, State.setFrames_setFrames, State.pushFrame, State.frames_setTop _ hr', State.setTop_of_frames _ hr', State.setFrames_setFrames, hr]
      rfl
    have hsame : U.sameButNew ({ U with heap := s₂.heap, slotsUsed := s₂.slotsUsed } : State) L mc ms := by
      refine ⟨?_, q2, q3, q4, q5, q6⟩
      obtain ⟨t, ht, -⟩ := State.frames_cons hr
      show ({ U with heap := s₂.heap, slotsUsed := s₂.slotsUsed } : State) = { U.setFrames U.frames with heap := s₂.heap, slotsUsed := s₂.slotsUsed }
      rw [State.setFrames_self ht]
    subst hg
    refine Or.inr ⟨q, ⟨(({ U with heap := s₂.heap, slotsUsed := s₂.slotsUsed } : State).setVm s₂.vm), Ls ++ L, c0 + mc, s0 + ms⟩,
      ⟨X.admits, X.cas, X.clock, X.frames, X.room, X.hears, X.method, X.code, (X.here.setHeapUsed s₂.heap s₂.slotsUsed).setVm hW'.alike, X.tail, State.WarmedH.trans X.warmed hW', X.limits, X.bytes, X.same.trans (hsame.setVm s.vm)⟩,
      ⟨g, mk, s₂, L, E, ce, rfl, rfl, hx, hce, hcv, hcl, rfl, hL, rfl, rfl⟩, ?_⟩
    show Steps p.tables e below _ (((({ U with heap := s₂.heap, slotsUsed := s₂.slotsUsed } : State).setVm s₂.vm).setTop g).pushFrame (.throwing q))
    rw [← hs₂]
    exact hsteps
end Payer
section Calls
variable {p : Program} {l : Launch} {e : Env} {R : Room} {s : State} {m : MethodId} {args : Array Value} {below : List Frame} {meth : Method} {c : Code} {T : State} {locs : List Loc} {cells slots : Nat}
theorem vx_callV (X : Stand p l e R s m args below meth c T locs cells slots) (hexec : p.tables.exec = Jvm.exec) {own C : String} {index : Nat} {y : MethodName} {bytes : ByteArray} {maxL : Nat} {ret : Option FieldType}
    (hown : s.vm.findClass own = some m.cls) (hlink : (Cond.methodLink own index y).before args s = true) (hinst : (Cond.instanceMethod y).before args s = true) (hsel : (Cond.selects C y y).before args s = true)
    (hcode : (Cond.code y bytes maxL ret).before args s = true) (hy : y.cls ≠ "java/lang/invoke/MethodHandle" ∧ y.cls ≠ "java/lang/invoke/VarHandle")
    {W9 : Nat} {Pre : Pt → Array Value → Prop} {Post : Pt → Array Value → Option Value → Pt → Prop} {PostX : Pt → Array Value → Addr → Pt → Prop} (hK : vx_Back l R p e below s args y 3 W9 Pre Post PostX)
    {b : Addr} {cellB : Cell} (hcell : T.heap[b]? = some cellB) (hobj : cellB.vm.isStatics = false) (hcls : s.vm.findClass C = some cellB.cls)
    {g : JFrame} (hg : g.method = m) (hsize : g.locals.size = c.maxLocals) {argsL rest : List Value} (hlen : ∀ sig, parseMethodDescriptor y.desc = some sig → argsL.length = sig.parameters.length)
    (hstack : g.stack = argsL.reverse ++ .ref b :: rest) (hW : 2 * g.monitorRoom + (rest.map fun v => v.category).sum ≤ W9) (hdg : decode c.code g.pc = .ok (.invokevirtual index, 3))
    (hpre : ∀ vm₁, s.WarmedH vm₁ → Pre ⟨T.setVm vm₁, locs, cells, slots⟩ (Value.ref b :: argsL).toArray) :
    (∃ (v : Option Value) (vm₁ : Vm) (B : Pt), s.WarmedH vm₁ ∧ Stand p l e R s m args below meth c B.U B.locs B.cells B.slots ∧ Post ⟨T.setVm vm₁, locs, cells, slots⟩ (Value.ref b :: argsL).toArray v B ∧
      ∀ target, Steps p.tables e below (B.U.setTop { g with pc := g.pc + 3, stack := v.toList ++ rest }) target → Steps p.tables e below (T.setTop g) target) ∨
    (∃ (q : Addr) (vm₁ : Vm) (B : Pt), s.WarmedH vm₁ ∧ Stand p l e R s m args below meth c B.U B.locs B.cells B.slots ∧ PostX ⟨T.setVm vm₁, locs, cells, slots⟩ (Value.ref b :: argsL).toArray q B ∧
      Steps p.tables e below (T.setTop g) ((B.U.setTop { g with stack := rest }).pushFrame (.throwing q))) := by
  obtain ⟨mk, methM, hnamed, hmethM, hstM, habM⟩ := Cond.instanceMethod_spec hinst
  obtain ⟨methM', cM, hmethM', -, -, -, -, -, -, hsigM⟩ := Cond.code_spec hnamed hcode
  cases hmethM.symm.trans hmethM'
  obtain ⟨c2, r2, m2, q1, q2, q3, q4, kP, hkP, hkPi⟩ := Cond.selects_spec hsel
  cases hcls.symm.trans q1
  cases (State.methodFound?_of_named hnamed hy).symm.trans q2
  cases hnamed.symm.trans q3
  have hselP : selectMethod e.platform s.vm cellB.cls mk = .method mk := by rw [Launch.admits_selectMethod X.admits]; exact q4
  obtain ⟨vm₁, X₁, hstep₁⟩ := X.invokevirtual hexec hown hlink hnamed hmethM hstM hkP hkPi hy (a := b) (cell := cellB) hcell
    (fun z h => by rw [h] at hobj; cases hobj) hselP hmethM habM hkP hkPi (g := g) hg (argsL := argsL) (rest := rest) (hlen _ hsigM) hstack hdg
  rcases hK m meth c ⟨T.setVm vm₁, locs, cells, slots⟩ { g with stack := rest } (.invokevirtual index) mk (Value.ref b :: argsL).toArray X₁ hg hsize hdg hW (X₁.named hnamed) (hpre vm₁ X₁.warmed) with ⟨v, B, X', hpost, hsteps⟩ | ⟨q, B, X', hpost, hsteps⟩
  · exact Or.inl ⟨v, vm₁, B, X₁.warmed, X', hpost, fun target h => hstep₁ _ fun acts => by rw [doInvoke_state]; exact hsteps.trans h⟩
  · exact Or.inr ⟨q, vm₁, B, X₁.warmed, X', hpost, hstep₁ _ fun acts => by rw [doInvoke_state]; exact hsteps⟩
theorem vx_callS (X : Stand p l e R s m args below meth c T locs cells slots) (hexec : p.tables.exec = Jvm.exec) {own : String} {index : Nat} {y : MethodName} {bytes : ByteArray} {maxL : Nat} {ret : Option FieldType}
    (hown : s.vm.findClass own = some m.cls) (hlink : (Cond.methodLink own index y).before args s = true) (hstat : (Cond.static y).before args s = true) (hinit : (Cond.initialized y.cls).before args s = true)
    (hcode : (Cond.code y bytes maxL ret).before args s = true) (hy : y.cls ≠ "java/lang/invoke/MethodHandle" ∧ y.cls ≠ "java/lang/invoke/VarHandle")
    {W9 : Nat} {Pre : Pt → Array Value → Prop} {Post : Pt → Array Value → Option Value → Pt → Prop} {PostX : Pt → Array Value → Addr → Pt → Prop} (hK : vx_Back l R p e below s args y 3 W9 Pre Post PostX)
    {g : JFrame} (hg : g.method = m) (hsize : g.locals.size = c.maxLocals) {argsL rest : List Value} (hlen : ∀ sig, parseMethodDescriptor y.desc = some sig → argsL.length = sig.parameters.length)
    (hstack : g.stack = argsL.reverse ++ rest) (hW : 2 * g.monitorRoom + (rest.map fun v => v.category).sum ≤ W9) (hdg : decode c.code g.pc = .ok (.invokestatic index, 3))
    (hpre : ∀ vm₁, s.WarmedH vm₁ → Pre ⟨T.setVm vm₁, locs, cells, slots⟩ argsL.toArray) :
    (∃ (v : Option Value) (vm₁ : Vm) (B : Pt), s.WarmedH vm₁ ∧ Stand p l e R s m args below meth c B.U B.locs B.cells B.slots ∧ Post ⟨T.setVm vm₁, locs, cells, slots⟩ argsL.toArray v B ∧
      ∀ target, Steps p.tables e below (B.U.setTop { g with pc := g.pc + 3, stack := v.toList ++ rest }) target → Steps p.tables e below (T.setTop g) target) ∨
    (∃ (q : Addr) (vm₁ : Vm) (B : Pt), s.WarmedH vm₁ ∧ Stand p l e R s m args below meth c B.U B.locs B.cells B.slots ∧ PostX ⟨T.setVm vm₁, locs, cells, slots⟩ argsL.toArray q B ∧
      Steps p.tables e below (T.setTop g) ((B.U.setTop { g with stack := rest }).pushFrame (.throwing q))) := by
  obtain ⟨mk, hnamed⟩ := Cond.code_named hcode
  obtain ⟨methM, cM, hmethM, -, -, -, -, -, -, hsigM⟩ := Cond.code_spec hnamed hcode
  have hstatic : methM.isStatic = true := Cond.static_spec hnamed hmethM hstat
  obtain ⟨kP, hkP, -⟩ := className_of_methodNamed hnamed
  have hinitP : kP.init = .initialized := Cond.initialized_spec (findClass_of_methodNamed hnamed) hkP hinit
  obtain ⟨vm₁, X₁, hstep₁⟩ := X.invokestatic hexec hown hlink hnamed hmethM hstatic hkP hinitP hy (g := g) hg (argsL := argsL) (rest := rest) (hlen _ hsigM) hstack hdg
  rcases hK m meth c ⟨T.setVm vm₁, locs, cells, slots⟩ { g with stack := rest } (.invokestatic index) mk argsL.toArray X₁ hg hsize hdg hW (X₁.named hnamed) (hpre vm₁ X₁.warmed) with ⟨v, B, X', hpost, hsteps⟩ | ⟨q, B, X', hpost, hsteps⟩
  · exact Or.inl ⟨v, vm₁, B, X₁.warmed, X', hpost, fun target h => hstep₁ _ fun acts => by rw [doInvoke_state]; exact hsteps.trans h⟩
  · exact Or.inr ⟨q, vm₁, B, X₁.warmed, X', hpost, hstep₁ _ fun acts => by rw [doInvoke_state]; exact hsteps⟩
end Calls
theorem vx_cls {s : State} {T : State} {vm₁ : Vm} {E : String} {k : ClassId} (hW : s.WarmedH vm₁) (h : (T.setVm vm₁).vm.findClass E = some k) : s.vm.findClass E = some k := by
  have h1 : vm₁.findClass E = some k := h
  rw [hW.alike.findClass] at h1
  exact h1
/-- the method's frame g, with q thrown over it -/
def vx_W (p : Program) (l : Launch) (e : Env) (R : Room) (s : State) (m : MethodId) (args : Array Value) (below : List Frame) (meth : Method) (c : Code) (H : Heap) (locs : List Loc) (cells slots : Nat) (Q : State → Prop) (g : JFrame) (q : Addr) : Prop :=
  ∀ T : State, T.heap = H → Stand p l e R s m args below meth c T locs cells slots → ∃ t, Steps p.tables e below ((T.setTop g).pushFrame (.throwing q)) t ∧ Q t
def vx_Run (p : Program) (l : Launch) (e : Env) (R : Room) (s : State) (m : MethodId) (args : Array Value) (below : List Frame) (meth : Method) (c : Code) (H : Heap) (locs : List Loc) (cells slots mc ms : Nat) (g : JFrame) (rest : List Value) (Qa : State → Outcome → State → Prop) (XC : String → State → State → Prop) (free : Addr → Prop) : Prop :=
  ∀ T : State, T.heap = H → Stand p l e R s m args below meth c T locs cells slots →
    (∃ (v : Option Value) (st₀ t T' : State) (L : List Loc), st₀.heap = H ∧ Stand p l e R s m args below meth c T' (locs ++ L) (cells + mc) (slots + ms) ∧ (∀ q ∈ L, free q.base) ∧ T'.heap = t.heap ∧ T'.vm = t.vm ∧ Qa st₀ (.returned v) t ∧
      Goes p e below T g T' { g with pc := g.pc + 3, stack := v.toList ++ rest }) ∨
    (∃ (q : Addr) (st₀ t T' : State) (L : List Loc) (E : String) (ce : Cell), st₀.heap = H ∧ Stand p l e R s m args below meth c T' (locs ++ L) (cells + mc) (slots + ms) ∧ (∀ z ∈ L, free z.base) ∧ T'.heap = t.heap ∧ T'.vm = t.vm ∧ XC E st₀ t ∧ t.heap[q]? = some ce ∧ ce.vm = .none ∧ s.vm.findClass E = some ce.cls ∧
      Steps p.tables e below (T.setTop g) ((T'.setTop { g with stack := rest }).pushFrame (.throwing q)))
def vx_X {S : Type} (px : S → Prop) (B : String → S → State → Prop) (A : Nat → Prop) : String → State → State → Prop := fun E st t => ∃ u : S, px u ∧ B E u t ∧ va_F A st t
section Runs
variable {p : Program} {l : Launch} {e : Env} {R : Room} {s : State} {m : MethodId} {args : Array Value} {below : List Frame} {meth : Method} {c : Code} {H : Heap} {locs : List Loc} {cells slots : Nat}
variable {y : MethodName} {bytes cc : ByteArray} {maxL nL mc ms n index : Nat} {ret : Option FieldType} {ws : List Cond} {rm : Room} {Pc : Array Value → State → Prop} {Qc : Array Value → State → Outcome → State → Prop} {XC : String → State → State → Prop} {free : Addr → Prop} {Ts : List Cond} {own C : String} {b : Addr} {As rest : List Value} {g : JFrame}
theorem vx_callBack (cb : CallB R s args own index y bytes maxL ret ws rm mc ms n) (hM : vx_Met l y ws rm Pc Qc XC mc ms free) (hbl : FrameBlind Pc) : vx_Back l R p e below s args y 3 8 (PreOf R mc ms Pc) (PostOf Qc mc ms free) (vx_Post XC mc ms free) := by
  obtain ⟨hrc, hrs, hfr, hlo, hws, hcw, -, hini, -⟩ := cb
  exact vx_back (bytes := bytes) (maxL := maxL) (ret := ret) hM hbl hrc hrs hfr hlo hws hcw (fun a' U hW => word_at hW (Or.inl (by first | rfl | simp [Cond.onTables, Cond.keeps, Cond.steady])) hini)
theorem vx_runV (S : CallFix p m c cc nL s args Ts own) (hM : vx_Met l y ws rm Pc Qc XC mc ms free) (cw : CallW R s args own C index y bytes maxL ret ws rm mc ms n) (hp : PreV s H C b Pc As)
    (hg : g.method = m) (hn : As.length = n) (hsize : g.locals.size = nL) (hstack : g.stack = As.reverse ++ .ref b :: rest) (hW : 2 * g.monitorRoom + (rest.map fun v => v.category).sum ≤ 8) (hdg : decode cc g.pc = .ok (.invokevirtual index, 3)) (hf : cells + mc ≤ R.cells ∧ slots + ms ≤ R.slots) :
    vx_Run p l e R s m args below meth c H locs cells slots mc ms g rest (Qc (Value.ref b :: As).toArray) XC free := by
  have hK : vx_Back l R p e below s args y 3 8 (PreOf R mc ms Pc) (PostOf Qc mc ms free) (vx_Post XC mc ms free) := vx_callBack cw.1 hM hp.1
  obtain ⟨⟨-, -, -, -, -, -, hcode, -, hy, hlen, hl⟩, hin, hse⟩ := cw
  obtain ⟨hx, hb, hml, ho, -⟩ := S
  obtain ⟨-, ⟨cellB, hcB, hoB, hclB⟩, hPc⟩ := hp
  intro T hT X
  rcases vx_callV X hx (C := C) (bytes := bytes) (maxL := maxL) (ret := ret) ho hl hin hse hcode hy hK (by rw [hT]; exact hcB) hoB hclB hg (hsize.trans hml.symm) (argsL := As) (rest := rest) (fun sig h => hn.trans (hlen sig h)) hstack hW (by rw [hb]; exact hdg)
    (fun vm₁ hW₁ => ⟨hf.1, hf.2, hPc (T.setVm vm₁) hT hW₁⟩) with ⟨v, vm₁, ⟨U', l2, c2, s2⟩, hW₁, X', ⟨g', mk, t, L, e1, e2, hq, h1, hL, h2, h3⟩, st⟩ | ⟨q, vm₁, ⟨U', l2, c2, s2⟩, hW₁, X', ⟨g', mk, t, L, E, ce, e1, e2, hq, hce, hcv, hcl, h1, hL, h2, h3⟩, st⟩
  · dsimp only [Pt.U, Pt.locs, Pt.cells, Pt.slots] at X' e1 e2 h1 h2 h3 st
    subst h1; subst h2; subst h3
    exact Or.inl ⟨v, (T.setVm vm₁).calling g' mk (Value.ref b :: As).toArray, t, U', L, hT, X', hL, e1, e2, hq, st⟩
  · dsimp only [Pt.U, Pt.locs, Pt.cells, Pt.slots] at X' e1 e2 h1 h2 h3 st hcl
    subst h1; subst h2; subst h3
    exact Or.inr ⟨q, (T.setVm vm₁).calling g' mk (Value.ref b :: As).toArray, t, U', L, E, ce, hT, X', hL, e1, e2, hq, hce, hcv, vx_cls hW₁ hcl, st⟩
theorem vx_runS (S : CallFix p m c cc nL s args Ts own) (hM : vx_Met l y ws rm Pc Qc XC mc ms free) (cw : CallB R s args own index y bytes maxL ret ws rm mc ms n ∧ (Cond.static y).before args s = true) (hp : PreS s H Pc As)
    (hg : g.method = m) (hn : As.length = n) (hsize : g.locals.size = nL) (hstack : g.stack = As.reverse ++ rest) (hW : 2 * g.monitorRoom + (rest.map fun v => v.category).sum ≤ 8) (hdg : decode cc g.pc = .ok (.invokestatic index, 3)) (hf : cells + mc ≤ R.cells ∧ slots + ms ≤ R.slots) :
    vx_Run p l e R s m args below meth c H locs cells slots mc ms g rest (Qc As.toArray) XC free := by
  have hK : vx_Back l R p e below s args y 3 8 (PreOf R mc ms Pc) (PostOf Qc mc ms free) (vx_Post XC mc ms free) := vx_callBack cw.1 hM hp.1
  obtain ⟨⟨-, -, -, -, -, -, hcode, hini, hy, hlen, hl⟩, hstt⟩ := cw
  obtain ⟨hx, hb, hml, ho, -⟩ := S
  intro T hT X
  rcases vx_callS X hx (bytes := bytes) (maxL := maxL) (ret := ret) ho hl hstt hini hcode hy hK hg (hsize.trans hml.symm) (argsL := As) (rest := rest) (fun sig h => hn.trans (hlen sig h)) hstack hW (by rw [hb]; exact hdg)
    (fun vm₁ hW₁ => ⟨hf.1, hf.2, hp.2 (T.setVm vm₁) hT hW₁⟩) with ⟨v, vm₁, ⟨U', l2, c2, s2⟩, hW₁, X', ⟨g', mk, t, L, e1, e2, hq, h1, hL, h2, h3⟩, st⟩ | ⟨q, vm₁, ⟨U', l2, c2, s2⟩, hW₁, X', ⟨g', mk, t, L, E, ce, e1, e2, hq, hce, hcv, hcl, h1, hL, h2, h3⟩, st⟩
  · dsimp only [Pt.U, Pt.locs, Pt.cells, Pt.slots] at X' e1 e2 h1 h2 h3 st
    subst h1; subst h2; subst h3
    exact Or.inl ⟨v, (T.setVm vm₁).calling g' mk As.toArray, t, U', L, hT, X', hL, e1, e2, hq, st⟩
  · dsimp only [Pt.U, Pt.locs, Pt.cells, Pt.slots] at X' e1 e2 h1 h2 h3 st hcl
    subst h1; subst h2; subst h3
    exact Or.inr ⟨q, (T.setVm vm₁).calling g' mk As.toArray, t, U', L, E, ce, hT, X', hL, e1, e2, hq, hce, hcv, vx_cls hW₁ hcl, st⟩
end Runs
section Rows
variable {p : Program} {l : Launch} {e : Env} {R : Room} {s : State} {m : MethodId} {args : Array Value} {below : List Frame} {meth : Method} {c : Code} {H : Heap} {locs : List Loc} {cells slots : Nat} {Q : State → Prop}
variable {mc ms : Nat} {free : Addr → Prop} {A0 A1 : Nat → Prop} {H0 : Heap} {a : Array Value} {pc : Nat} {ls : Array Slot} {st0 rest : List Value}
theorem vx_keep {st₀ t T' : State} {L : List Loc} (h0 : st₀.heap = H) (e1 : T'.heap = t.heap) (hS : va_S A0 H0 H locs) (hA : ∀ q, q < H.size → A1 q → A0 q) (hf : ∀ q, free q → A0 q) (hL : ∀ q ∈ L, free q.base) (hF : va_F A1 st₀ t) :
    H.size ≤ T'.heap.size ∧ (∀ q : Nat, q < H.size → ¬ A1 q → T'.heap[q]? = H[q]?) ∧ va_S A0 H0 T'.heap (locs ++ L) := by
  obtain ⟨hz, hk⟩ := hF
  rw [h0] at hz hk
  exact ⟨by rw [e1]; exact hz, fun q h1 h2 => by rw [e1]; exact hk q h1 h2,
    ⟨Nat.le_trans hS.1 (by rw [e1]; exact hz), fun q h1 h2 => by rw [e1, hk q (Nat.lt_of_lt_of_le h1 hS.1) (fun z => h2 (hA q (Nat.lt_of_lt_of_le h1 hS.1) z))]; exact hS.2.1 q h1 h2, fun q hq => by
      rcases List.mem_append.mp hq with h | h
      · exact hS.2.2 q h
      · exact hf _ (hL q h)⟩⟩
theorem vx_calli {S SX : Type} {post : Int32 → S → Prop} {px : SX → Prop} {B : S → State → Prop} {BX : String → SX → State → Prop} {AX : Nat → Prop} (hr : vx_Run p l e R s m args below meth c H locs cells slots mc ms (F0 m pc ls st0) rest (va_Qi post B A1 a) (vx_X px BX AX) free) (hS : va_S A0 H0 H locs) (hA : ∀ q, q < H.size → A1 q → A0 q) (hf : ∀ q, free q → A0 q) (hAX : ∀ q, q < H.size → AX q → A0 q)
    (kx : ∀ (E : String) (ce : Cell) (q9 : Addr) (u : SX) (t : State) (H1 : Heap) (locs1 : List Loc), t.heap = H1 → s.vm.Alike t.vm → px u → BX E u t → H.size ≤ H1.size → (∀ q : Nat, q < H.size → ¬ AX q → H1[q]? = H[q]?) → va_S A0 H0 H1 locs1 → H1[q9]? = some ce → ce.vm = .none → s.vm.findClass E = some ce.cls → vx_W p l e R s m args below meth c H1 locs1 (cells + mc) (slots + ms) Q (F0 m pc ls rest) q9)
    (kk : ∀ (r : Int32) (u : S) (t : State) (H1 : Heap) (locs1 : List Loc), t.heap = H1 → s.vm.Alike t.vm → post r u → B u t → H.size ≤ H1.size → (∀ q : Nat, q < H.size → ¬ A1 q → H1[q]? = H[q]?) → va_S A0 H0 H1 locs1 → W p l e R s m args below meth c H1 locs1 (cells + mc) (slots + ms) Q (F0 m (pc + 3) ls (.int r :: rest))) : W p l e R s m args below meth c H locs cells slots Q (F0 m pc ls st0) := by
  intro T hT X
  rcases hr T hT X with ⟨v, st₀, t, T', L, h0, X', hL, e1, e2, ⟨⟨r, u, hv, hp, hb⟩, hF⟩, st⟩ | ⟨q, st₀, t, T', L, E, ce, h0, X', hL, e1, e2, ⟨u, hp, hb, hF⟩, hce, hcv, hcl, st⟩
  · cases hv
    obtain ⟨k1, k2, k3⟩ := vx_keep h0 e1 hS hA hf hL hF
    obtain ⟨t2, a1, b1⟩ := kk r u t T'.heap (locs ++ L) e1.symm (by rw [← e2]; exact X'.warmed.alike) hp hb k1 k2 k3 T' rfl X'
    exact ⟨t2, st t2 a1, b1⟩
  · obtain ⟨k1, k2, k3⟩ := vx_keep h0 e1 hS hAX hf hL hF
    obtain ⟨t2, a1, b1⟩ := kx E ce q u t T'.heap (locs ++ L) e1.symm (by rw [← e2]; exact X'.warmed.alike) hp hb k1 k2 k3 (by rw [e1]; exact hce) hcv hcl T' rfl X'
    exact ⟨t2, st.trans a1, b1⟩
theorem vx_calll {S SX : Type} {post : Int64 → S → Prop} {px : SX → Prop} {B : S → State → Prop} {BX : String → SX → State → Prop} {AX : Nat → Prop} (hr : vx_Run p l e R s m args below meth c H locs cells slots mc ms (F0 m pc ls st0) rest (va_Ql post B A1 a) (vx_X px BX AX) free) (hS : va_S A0 H0 H locs) (hA : ∀ q, q < H.size → A1 q → A0 q) (hf : ∀ q, free q → A0 q) (hAX : ∀ q, q < H.size → AX q → A0 q)
    (kx : ∀ (E : String) (ce : Cell) (q9 : Addr) (u : SX) (t : State) (H1 : Heap) (locs1 : List Loc), t.heap = H1 → s.vm.Alike t.vm → px u → BX E u t → H.size ≤ H1.size → (∀ q : Nat, q < H.size → ¬ AX q → H1[q]? = H[q]?) → va_S A0 H0 H1 locs1 → H1[q9]? = some ce → ce.vm = .none → s.vm.findClass E = some ce.cls → vx_W p l e R s m args below meth c H1 locs1 (cells + mc) (slots + ms) Q (F0 m pc ls rest) q9)
    (kk : ∀ (r : Int64) (u : S) (t : State) (H1 : Heap) (locs1 : List Loc), t.heap = H1 → s.vm.Alike t.vm → post r u → B u t → H.size ≤ H1.size → (∀ q : Nat, q < H.size → ¬ A1 q → H1[q]? = H[q]?) → va_S A0 H0 H1 locs1 → W p l e R s m args below meth c H1 locs1 (cells + mc) (slots + ms) Q (F0 m (pc + 3) ls (.long r :: rest))) : W p l e R s m args below meth c H locs cells slots Q (F0 m pc ls st0) := by
  intro T hT X
  rcases hr T hT X with ⟨v, st₀, t, T', L, h0, X', hL, e1, e2, ⟨⟨r, u, hv, hp, hb⟩, hF⟩, st⟩ | ⟨q, st₀, t, T', L, E, ce, h0, X', hL, e1, e2, ⟨u, hp, hb, hF⟩, hce, hcv, hcl, st⟩
  · cases hv
    obtain ⟨k1, k2, k3⟩ := vx_keep h0 e1 hS hA hf hL hF
    obtain ⟨t2, a1, b1⟩ := kk r u t T'.heap (locs ++ L) e1.symm (by rw [← e2]; exact X'.warmed.alike) hp hb k1 k2 k3 T' rfl X'
    exact ⟨t2, st t2 a1, b1⟩
  · obtain ⟨k1, k2, k3⟩ := vx_keep h0 e1 hS hAX hf hL hF
    obtain ⟨t2, a1, b1⟩ := kx E ce q u t T'.heap (locs ++ L) e1.symm (by rw [← e2]; exact X'.warmed.alike) hp hb k1 k2 k3 (by rw [e1]; exact hce) hcv hcl T' rfl X'
    exact ⟨t2, st.trans a1, b1⟩
theorem vx_callf {S SX : Type} {post : UInt32 → S → Prop} {px : SX → Prop} {B : S → State → Prop} {BX : String → SX → State → Prop} {AX : Nat → Prop} (hr : vx_Run p l e R s m args below meth c H locs cells slots mc ms (F0 m pc ls st0) rest (va_Qf post B A1 a) (vx_X px BX AX) free) (hS : va_S A0 H0 H locs) (hA : ∀ q, q < H.size → A1 q → A0 q) (hf : ∀ q, free q → A0 q) (hAX : ∀ q, q < H.size → AX q → A0 q)
    (kx : ∀ (E : String) (ce : Cell) (q9 : Addr) (u : SX) (t : State) (H1 : Heap) (locs1 : List Loc), t.heap = H1 → s.vm.Alike t.vm → px u → BX E u t → H.size ≤ H1.size → (∀ q : Nat, q < H.size → ¬ AX q → H1[q]? = H[q]?) → va_S A0 H0 H1 locs1 → H1[q9]? = some ce → ce.vm = .none → s.vm.findClass E = some ce.cls → vx_W p l e R s m args below meth c H1 locs1 (cells + mc) (slots + ms) Q (F0 m pc ls rest) q9)
    (kk : ∀ (r : UInt32) (u : S) (t : State) (H1 : Heap) (locs1 : List Loc), t.heap = H1 → s.vm.Alike t.vm → post r u → B u t → H.size ≤ H1.size → (∀ q : Nat, q < H.size → ¬ A1 q → H1[q]? = H[q]?) → va_S A0 H0 H1 locs1 → W p l e R s m args below meth c H1 locs1 (cells + mc) (slots + ms) Q (F0 m (pc + 3) ls (.float r :: rest))) : W p l e R s m args below meth c H locs cells slots Q (F0 m pc ls st0) := by
  intro T hT X
  rcases hr T hT X with ⟨v, st₀, t, T', L, h0, X', hL, e1, e2, ⟨⟨r, u, hv, hp, hb⟩, hF⟩, st⟩ | ⟨q, st₀, t, T', L, E, ce, h0, X', hL, e1, e2, ⟨u, hp, hb, hF⟩, hce, hcv, hcl, st⟩
  · cases hv
    obtain ⟨k1, k2, k3⟩ := vx_keep h0 e1 hS hA hf hL hF
    obtain ⟨t2, a1, b1⟩ := kk r u t T'.heap (locs ++ L) e1.symm (by rw [← e2]; exact X'.warmed.alike) hp hb k1 k2 k3 T' rfl X'
    exact ⟨t2, st t2 a1, b1⟩
  · obtain ⟨k1, k2, k3⟩ := vx_keep h0 e1 hS hAX hf hL hF
    obtain ⟨t2, a1, b1⟩ := kx E ce q u t T'.heap (locs ++ L) e1.symm (by rw [← e2]; exact X'.warmed.alike) hp hb k1 k2 k3 (by rw [e1]; exact hce) hcv hcl T' rfl X'
    exact ⟨t2, st.trans a1, b1⟩
theorem vx_calld {S SX : Type} {post : UInt64 → S → Prop} {px : SX → Prop} {B : S → State → Prop} {BX : String → SX → State → Prop} {AX : Nat → Prop} (hr : vx_Run p l e R s m args below meth c H locs cells slots mc ms (F0 m pc ls st0) rest (va_Qd post B A1 a) (vx_X px BX AX) free) (hS : va_S A0 H0 H locs) (hA : ∀ q, q < H.size → A1 q → A0 q) (hf : ∀ q, free q → A0 q) (hAX : ∀ q, q < H.size → AX q → A0 q)
    (kx : ∀ (E : String) (ce : Cell) (q9 : Addr) (u : SX) (t : State) (H1 : Heap) (locs1 : List Loc), t.heap = H1 → s.vm.Alike t.vm → px u → BX E u t → H.size ≤ H1.size → (∀ q : Nat, q < H.size → ¬ AX q → H1[q]? = H[q]?) → va_S A0 H0 H1 locs1 → H1[q9]? = some ce → ce.vm = .none → s.vm.findClass E = some ce.cls → vx_W p l e R s m args below meth c H1 locs1 (cells + mc) (slots + ms) Q (F0 m pc ls rest) q9)
    (kk : ∀ (r : UInt64) (u : S) (t : State) (H1 : Heap) (locs1 : List Loc), t.heap = H1 → s.vm.Alike t.vm → post r u → B u t → H.size ≤ H1.size → (∀ q : Nat, q < H.size → ¬ A1 q → H1[q]? = H[q]?) → va_S A0 H0 H1 locs1 → W p l e R s m args below meth c H1 locs1 (cells + mc) (slots + ms) Q (F0 m (pc + 3) ls (.double r :: rest))) : W p l e R s m args below meth c H locs cells slots Q (F0 m pc ls st0) := by
  intro T hT X
  rcases hr T hT X with ⟨v, st₀, t, T', L, h0, X', hL, e1, e2, ⟨⟨r, u, hv, hp, hb⟩, hF⟩, st⟩ | ⟨q, st₀, t, T', L, E, ce, h0, X', hL, e1, e2, ⟨u, hp, hb, hF⟩, hce, hcv, hcl, st⟩
  · cases hv
    obtain ⟨k1, k2, k3⟩ := vx_keep h0 e1 hS hA hf hL hF
    obtain ⟨t2, a1, b1⟩ := kk r u t T'.heap (locs ++ L) e1.symm (by rw [← e2]; exact X'.warmed.alike) hp hb k1 k2 k3 T' rfl X'
    exact ⟨t2, st t2 a1, b1⟩
  · obtain ⟨k1, k2, k3⟩ := vx_keep h0 e1 hS hAX hf hL hF
    obtain ⟨t2, a1, b1⟩ := kx E ce q u t T'.heap (locs ++ L) e1.symm (by rw [← e2]; exact X'.warmed.alike) hp hb k1 k2 k3 (by rw [e1]; exact hce) hcv hcl T' rfl X'
    exact ⟨t2, st.trans a1, b1⟩
theorem vx_callv {S SX : Type} {post : S → Prop} {px : SX → Prop} {B : S → State → Prop} {BX : String → SX → State → Prop} {AX : Nat → Prop} (hr : vx_Run p l e R s m args below meth c H locs cells slots mc ms (F0 m pc ls st0) rest (va_Qv post B A1 a) (vx_X px BX AX) free) (hS : va_S A0 H0 H locs) (hA : ∀ q, q < H.size → A1 q → A0 q) (hf : ∀ q, free q → A0 q) (hAX : ∀ q, q < H.size → AX q → A0 q)
    (kx : ∀ (E : String) (ce : Cell) (q9 : Addr) (u : SX) (t : State) (H1 : Heap) (locs1 : List Loc), t.heap = H1 → s.vm.Alike t.vm → px u → BX E u t → H.size ≤ H1.size → (∀ q : Nat, q < H.size → ¬ AX q → H1[q]? = H[q]?) → va_S A0 H0 H1 locs1 → H1[q9]? = some ce → ce.vm = .none → s.vm.findClass E = some ce.cls → vx_W p l e R s m args below meth c H1 locs1 (cells + mc) (slots + ms) Q (F0 m pc ls rest) q9)
    (kk : ∀ (u : S) (t : State) (H1 : Heap) (locs1 : List Loc), t.heap = H1 → s.vm.Alike t.vm → post u → B u t → H.size ≤ H1.size → (∀ q : Nat, q < H.size → ¬ A1 q → H1[q]? = H[q]?) → va_S A0 H0 H1 locs1 → W p l e R s m args below meth c H1 locs1 (cells + mc) (slots + ms) Q (F0 m (pc + 3) ls (rest))) : W p l e R s m args below meth c H locs cells slots Q (F0 m pc ls st0) := by
  intro T hT X
  rcases hr T hT X with ⟨v, st₀, t, T', L, h0, X', hL, e1, e2, ⟨⟨u, hv, hp, hb⟩, hF⟩, st⟩ | ⟨q, st₀, t, T', L, E, ce, h0, X', hL, e1, e2, ⟨u, hp, hb, hF⟩, hce, hcv, hcl, st⟩
  · cases hv
    obtain ⟨k1, k2, k3⟩ := vx_keep h0 e1 hS hA hf hL hF
    obtain ⟨t2, a1, b1⟩ := kk u t T'.heap (locs ++ L) e1.symm (by rw [← e2]; exact X'.warmed.alike) hp hb k1 k2 k3 T' rfl X'
    exact ⟨t2, st t2 a1, b1⟩
  · obtain ⟨k1, k2, k3⟩ := vx_keep h0 e1 hS hAX hf hL hF
    obtain ⟨t2, a1, b1⟩ := kx E ce q u t T'.heap (locs ++ L) e1.symm (by rw [← e2]; exact X'.warmed.alike) hp hb k1 k2 k3 (by rw [e1]; exact hce) hcv hcl T' rfl X'
    exact ⟨t2, st.trans a1, b1⟩
/-- caught by the row x of this method's table; the rows ahead don't take it -/
theorem vx_catch {own name : String} {E : String} {ce : Cell} {q : Addr} (hown : s.vm.findClass own = some m.cls) (pre : List ExceptionTableEntry) (x : ExceptionTableEntry) (suf : List ExceptionTableEntry) (hsplit : c.exceptionTable.toList = pre ++ x :: suf)
    (hpass : ∀ z ∈ pre, covers z pc = false ∨ (z.catchType ≠ 0 ∧ ∃ nm : String, (Cond.classLink own z.catchType nm).before args s = true ∧ va_Nc E nm s)) (hx : covers x pc = true) (h0 : x.catchType ≠ 0)
    (hlink : (Cond.classLink own x.catchType name).before args s = true) (hcast : (Cond.castable E name).before args s = true) (hcell : H[q]? = some ce) (hv : ce.vm = .none) (hcl : s.vm.findClass E = some ce.cls)
    (kk : W p l e R s m args below meth c H locs cells slots Q (F0 m x.handlerPc ls [.ref q])) : vx_W p l e R s m args below meth c H locs cells slots Q (F0 m pc ls rest) q := by
  intro T hT X
  have hpl : e.platform.magicAccessors = ({} : Platform).magicAccessors := by rw [X.admits.platform]
  obtain ⟨c3, c4, hc3, hc4, hasg⟩ := Cond.castable_spec hcast
  cases Option.some.inj (hc3.symm.trans hcl)
  obtain ⟨c5, hc5, hcl5⟩ := Cond.classLink_spec hown hlink e.platform hpl
  cases Option.some.inj (hc4.symm.trans hc5)
  obtain ⟨vm', X', st⟩ := X.thenCaughtThrough q (g := F0 m pc ls rest) rfl (Steps.refl _) (by rw [hT]; exact hcell) (by rw [hv]; rfl) (by obtain ⟨k9, h9, -⟩ := Vm.findClass_spec hcl; exact ⟨k9, h9⟩) pre x suf hsplit
    (fun z hz => by
      rcases hpass z hz with h | ⟨hz0, nm, hl1, hn1⟩
      · exact Or.inl h
      · obtain ⟨c6, hc6, hcl6⟩ := Cond.classLink_spec hown hl1 e.platform hpl
        obtain ⟨a8, b8, h1, h2, h3⟩ := hn1
        cases Option.some.inj (h1.symm.trans hcl)
        cases Option.some.inj (h2.symm.trans hc6)
        exact Or.inr ⟨hz0, _, hcl6, h3⟩) hx (Or.inr ⟨h0, c4, hcl5, hasg⟩)
  obtain ⟨t, a1, b1⟩ := kk (T.setVm vm') hT X'
  exact ⟨t, st.trans a1, b1⟩
end Rows
section Ends
variable {p : Program} {l : Launch} {e : Env} {R : Room} {s : State} {m : MethodId} {args : Array Value} {below : List Frame} {meth : Method} {c : Code} {H : Heap} {locs : List Loc} {cells slots : Nat} {Q : State → Prop}
variable {mc ms : Nat} {free : Addr → Prop} {A0 A1 : Nat → Prop} {H0 : Heap} {a : Array Value} {ls : Array Slot} {st0 rest : List Value}
variable {Qc : Array Value → State → Outcome → State → Prop} {XC : String → State → State → Prop}
/-- what a body that may throw owes at its end -/
def vx_MQ (below : List Frame) (Qc : Array Value → State → Outcome → State → Prop) (XC : String → State → State → Prop) (a : Array Value) (s : State) (mc ms : Nat) (free : Addr → Prop) : State → Prop := fun t =>
  ∃ o, t.status = .running ∧ Ended t below o ∧ vx_Q Qc XC mc ms free a s o t
theorem vx_ret {g : JFrame} {mc ms : Nat} (k : W p l e R s m args below meth c H locs cells slots (MQ below Qc args s mc ms free) g) : W p l e R s m args below meth c H locs cells slots (vx_MQ below Qc XC args s mc ms free) g := by
  intro T hT X
  obtain ⟨t, a1, o, b1, b2, b3, b4⟩ := k T hT X
  exact ⟨t, a1, o, b1, b2, Or.inl ⟨b3, b4⟩⟩
/-- not caught here: it goes on to the caller -/
theorem vx_widen {g : JFrame} {q : Addr} {k n : Nat} (h1 : cells ≤ k) (h2 : slots ≤ n) (kk : vx_W p l e R s m args below meth c H locs k n Q g q) : vx_W p l e R s m args below meth c H locs cells slots Q g q := fun T hT X => kk T hT (stand_widen X h1 h2)
theorem vx_out {pc : Nat} {E : String} {ce : Cell} {q : Addr} {mc ms : Nat} (hout : ∀ x ∈ c.exceptionTable.toList, covers x pc = false) (hlocks : meth.locks = false) (hcell : H[q]? = some ce) (hv : ce.vm = .none) (hcl : s.vm.findClass E = some ce.cls)
    (hx : ∀ t : State, t.heap = H → s.vm.Alike t.vm → XC E s t) (hf : ∀ z ∈ locs, free z.base) (hc : cells ≤ mc) (hs : slots ≤ ms) :
    vx_W p l e R s m args below meth c H locs cells slots (vx_MQ below Qc XC args s mc ms free) (F0 m pc ls rest) q := by
  intro T hT X
  obtain ⟨st1, hrun, hend, hW, hsm⟩ := X.leaveThrown q (g := F0 m pc ls rest) rfl rfl rfl hout hlocks
  have hcell9 : (T.setFrames (.throwing q :: below)).heap[q]? = some ce := by
    show T.heap[q]? = some ce
    rw [hT]; exact hcell
  exact ⟨_, st1, .threw q, hrun, hend, Or.inr ⟨q, rfl, E, ce, locs, hx _ hT hW.alike, hcell9, hv, hcl, hW, hsm.mono hc hs, hf⟩⟩
theorem vx_frame {U : State} {k n : Nat} (h : s.sameButNew ({ U with vm := s.vm } : State) locs k n) : s.heap.size ≤ U.heap.size ∧ ∀ q : Nat, q < s.heap.size → (∀ z ∈ locs, z.base ≠ q) → U.heap[q]? = s.heap[q]? := by
  obtain ⟨-, h2, -, -, -, h6⟩ := h
  refine ⟨h2, fun q hq hz => ?_⟩
  obtain ⟨c9, e1, e2, e3, e4⟩ := h6 q _ (Array.getElem?_eq_getElem hq)
  have hs : c9.slots = (s.heap[q]).slots := Array.ext_getElem? fun i => e4 i fun hm => hz _ hm rfl
  have h9 : c9 = s.heap[q] := by
    rw [hs] at e2
    exact e2
  have e5 : U.heap[q]? = some c9 := e1
  rw [e5, h9, Array.getElem?_eq_getElem hq]
/-- the words of a throw but the four that speak of the heap -/
def vx_no (w : Cond) : Bool := decide (w ≠ .isRef (.static Bundle.tN "UNASSIGNED_STACK" Bundle.steD)) && decide (w ≠ .isRef (.static Bundle.tN "SUPPRESSED_SENTINEL" Bundle.listD)) && decide (w ≠ .laysStatic Bundle.tN "UNASSIGNED_STACK" Bundle.steD) && decide (w ≠ .laysStatic Bundle.tN "SUPPRESSED_SENTINEL" Bundle.listD)
def vx_at0 (own : String) (ic : Nat) (X : String) (names : List String) : List Cond := (Bundle.ownAtoms0 own ic X names).filter vx_no
def vx_atS (own : String) (ic : Nat) (X : String) (names : List String) : List Cond := (Bundle.ownAtoms own ic X names).filter vx_no
/-- a word that the tables alone decide, or a good one -/
def vx_ot (w : Cond) : Bool := w.onTables || goodWord w
theorem vx_ot_at {args a' : Array Value} {s U : State} {w : Cond} (hW : s.WarmedH U.vm) (hvm : s.vm = U.vm) (hg : vx_ot w = true) (h : w.before args s = true) : w.before a' U = true := by
  simp only [vx_ot, Bool.or_eq_true] at hg
  rcases hg with hg | hg
  · exact va_tabs hg hvm h
  · exact word_at hW (good_of_word hg) h
/-- a list's words: the good ones out of the method's own list, the others by premises of their own -/
theorem vx_hat {args : Array Value} {s : State} {L B : List Cond} (h1 : ∀ w ∈ L.filter goodWord, w.before args s = true) (h2 : ∀ w ∈ L.filter (fun w => !goodWord w), w ∈ B) (h3 : ∀ w ∈ B, w.before args s = true) : ∀ w ∈ L, w.before args s = true := by
  intro w hw
  by_cases g : goodWord w = true
  · exact h1 w (List.mem_filter.mpr ⟨hw, g⟩)
  · refine h3 w (h2 w (List.mem_filter.mpr ⟨hw, ?_⟩))
    show (!goodWord w) = true
    cases hgw : goodWord w
    · rfl
    · exact absurd hgw g
theorem vx_c {args : Array Value} {s : State} {w : Cond} {B : List Cond} (h : w.before args s = true) (t : ∀ w ∈ B, w.before args s = true) : ∀ w' ∈ w :: B, w'.before args s = true := fun w' h' => (List.mem_cons.mp h').elim (fun e => by rw [e]; exact h) (t w')
theorem vx_n {args : Array Value} {s : State} : ∀ w ∈ ([] : List Cond), w.before args s = true := fun _ h => nomatch h
theorem vx_own {args : Array Value} {s : State} {L : List Cond} (h1 : ∀ w ∈ L.filter vx_no, w.before args s = true)
    (hU : (Cond.isRef (.static Bundle.tN "UNASSIGNED_STACK" Bundle.steD)).before args s = true) (hN : (Cond.isRef (.static Bundle.tN "SUPPRESSED_SENTINEL" Bundle.listD)).before args s = true)
    (lU : (Cond.laysStatic Bundle.tN "UNASSIGNED_STACK" Bundle.steD).before args s = true) (lN : (Cond.laysStatic Bundle.tN "SUPPRESSED_SENTINEL" Bundle.listD).before args s = true) : ∀ w ∈ L, w.before args s = true := by
  intro w hw
  by_cases e1 : w = .isRef (.static Bundle.tN "UNASSIGNED_STACK" Bundle.steD)
  · rw [e1]; exact hU
  · by_cases e2 : w = .isRef (.static Bundle.tN "SUPPRESSED_SENTINEL" Bundle.listD)
    · rw [e2]; exact hN
    · by_cases e3 : w = .laysStatic Bundle.tN "UNASSIGNED_STACK" Bundle.steD
      · rw [e3]; exact lU
      · by_cases e4 : w = .laysStatic Bundle.tN "SUPPRESSED_SENTINEL" Bundle.listD
        · rw [e4]; exact lN
        · exact h1 w (List.mem_filter.mpr ⟨hw, by unfold vx_no; rw [decide_eq_true e1, decide_eq_true e2, decide_eq_true e3, decide_eq_true e4]; rfl⟩)
/-- where a static field lies, its class's statics cell in H -/
def vx_L (C n d : String) (A : Nat → Prop) (U : State) (H : Heap) : Prop := ∃ (c : ClassId) (k : Class) (i : Nat) (f : Field) (a : Nat) (cell : Cell), U.vm.findClass C = some c ∧ U.fieldFound? C n d = some (c, k, i, f) ∧ f.isStatic = true ∧ k.statics = some a ∧ H[a]? = some cell ∧ cell.vm.isStatics = true ∧ cell.cls = c ∧ f.slot < cell.slots.size ∧ k.staticTypes[f.slot]? = some f.type ∧ ¬ A a
theorem vx_L.moved {C n d : String} {A : Nat → Prop} {u U : State} {H : Heap} (hvm : u.vm.Alike U.vm) (h : vx_L C n d A u H) : vx_L C n d A U H := by
  obtain ⟨c, k, i, f, a, cell, h1, h2, h3, h4, h5, h6, h7, h8, h9, h10⟩ := h
  obtain ⟨k', hi', he⟩ := State.fieldFound?_setVm hvm h2
  exact ⟨c, k', i, f, a, cell, by rw [hvm.findClass]; exact h1, hi', h3, by rw [he]; exact h4, h5, h6, h7, h8, by rw [he]; exact h9, h10⟩
theorem vx_L.kept {C n d : String} {A : Nat → Prop} {U : State} {H H1 : Heap} (h : vx_L C n d A U H) (hq : ∀ a : Nat, a < H.size → ¬ A a → H1[a]? = H[a]?) : vx_L C n d A U H1 := by
  obtain ⟨c, k, i, f, a, cell, h1, h2, h3, h4, h5, h6, h7, h8, h9, h10⟩ := h
  exact ⟨c, k, i, f, a, cell, h1, h2, h3, h4, by rw [hq a (Array.getElem?_eq_some_iff.mp h5).1 h10]; exact h5, h6, h7, h8, h9, h10⟩
theorem vx_L.narrow {C n d : String} {A B : Nat → Prop} {U : State} {H : Heap} (h : vx_L C n d A U H) (hAB : ∀ q, B q → A q) : vx_L C n d B U H := by
  obtain ⟨c, k, i, f, a, cell, h1, h2, h3, h4, h5, h6, h7, h8, h9, h10⟩ := h
  exact ⟨c, k, i, f, a, cell, h1, h2, h3, h4, h5, h6, h7, h8, h9, fun z => h10 (hAB _ z)⟩
theorem vx_L.word {C n d : String} {A : Nat → Prop} {s : State} {args : Array Value} (h : vx_L C n d A s s.heap) : (Cond.laysStatic C n d).before args s = true := by
  obtain ⟨c, k, i, f, a, cell, h1, h2, h3, h4, h5, h6, h7, h8, h9, -⟩ := h
  show (Cond.laysStatic C n d).holds args s none s [] = true
  exact Cond.laysStatic_of h1 h2 h3 h4 h5 h6 h7 h8 h9
/-- .. and what it holds: null or some reference -/
def vx_Zq (C n d : String) (A : Nat → Prop) (U : State) (H : Heap) : Prop := va_Zq C n d A U H ∧ vx_L C n d A U H
theorem vx_Zq.moved {C n d : String} {A : Nat → Prop} {u U : State} {H : Heap} (hvm : u.vm.Alike U.vm) (h : vx_Zq C n d A u H) : vx_Zq C n d A U H := ⟨va_Zq.moved hvm h.1, vx_L.moved hvm h.2⟩
theorem vx_Zq.kept {C n d : String} {A : Nat → Prop} {U : State} {H H1 : Heap} (h : vx_Zq C n d A U H) (hq : ∀ a : Nat, a < H.size → ¬ A a → H1[a]? = H[a]?) : vx_Zq C n d A U H1 := ⟨va_Zq.kept h.1 hq, vx_L.kept h.2 hq⟩
theorem vx_Zq.narrow {C n d : String} {A B : Nat → Prop} {U : State} {H : Heap} (h : vx_Zq C n d A U H) (hAB : ∀ q, B q → A q) : vx_Zq C n d B U H := ⟨va_Zq.narrow h.1 hAB, vx_L.narrow h.2 hAB⟩
theorem vx_Zqof {args : Array Value} {s : State} {C n d : String} {A : Nat → Prop} (hl : (Cond.laysStatic C n d).before args s = true) (hini : (Cond.initialized C).before args s = true) (h : (Cond.isRef (.static C n d)).before args s = true) (hA : ∀ a : Nat, a < s.heap.size → ¬ A a) : vx_Zq C n d A s s.heap := by
  refine ⟨va_Zqof hl hini h hA, ?_⟩
  obtain ⟨c, k, i, f, a, cell, h1, h2, h3, h4, h5, h6, h7, h8, h9⟩ := Cond.laysStatic_spec hl
  exact ⟨c, k, i, f, a, cell, h1, h2, h3, h4, h5, h6, h7, h8, h9, hA a (Array.getElem?_eq_some_iff.mp h5).1⟩
theorem vx_isRef {C n d : String} {v : Value} {A : Nat → Prop} {s : State} {args : Array Value} (h : va_Z C n d v A s s.heap) (hv : v.isRef = true) : (Cond.isRef (.static C n d)).before args s = true := by
  obtain ⟨cf, kf, fi, f, a, cell, h1, h2, h3, h4, h5, h6, h7, -⟩ := h
  have he : (Term.static C n d).eval args s none [] s = some v := by
    simp [Term.eval, State.fieldNamed?, h1, h2, h4, h5, h6, h7]
  simp only [Cond.before, Cond.holds, Cond.value, he]
  cases v <;> simp_all [Value.isRef]
theorem vx_isRefq {C n d : String} {A : Nat → Prop} {s : State} {args : Array Value} (h : va_Zq C n d A s s.heap) : (Cond.isRef (.static C n d)).before args s = true := by
  rcases h with h | ⟨t, h⟩
  · exact vx_isRef h rfl
  · exact vx_isRef h rfl
/-- the same frame, seen from here: as if the method were called anew in this heap -/
theorem vx_rebase {T : State} (X : Stand p l e R s m args below meth c T locs cells slots) {R' : Room} (hf : R'.frames ≤ R.frames) (hl : R'.locals ≤ R.locals) (hc : cells + R'.cells ≤ R.cells) (hs : slots + R'.slots ≤ R.slots) :
    Stand p l e R' ((T.setVm s.vm).setFrames (.invoking m args :: below)) m args below meth c T [] 0 0 := by
  have htop : (T.setVm s.vm).topJava?.isSome := X.here.top
  have hF : ((T.setVm s.vm).setFrames (.invoking m args :: below)).frames = .invoking m args :: below := State.frames_setFrames _ (State.cur_lt_of_top htop)
  obtain ⟨g₀, hg0⟩ := Option.isSome_iff_exists.mp htop
  obtain ⟨r, hr⟩ := State.topJava?_eq_some.mp hg0
  have hl9 : e.platform.stackLimits (T.setVm s.vm).me = e.platform.stackLimits s.me := X.limits
  have hb9 : (T.setVm s.vm).me.stackBytes = s.me.stackBytes := X.bytes
  refine ⟨X.admits, X.cas, X.clock, hF, ?_, X.hears, X.method, X.code, X.here, X.tail, X.warmed, ?_, ?_, ?_⟩
  · have h := X.room
    have hU : ((T.setVm s.vm).setFrames (.invoking m args :: below)).localsInUse = s.localsInUse := by
      rw [State.localsInUse_invoking hF (meth := meth) (c := c) X.method X.code, State.localsInUse_invoking X.frames X.method X.code]
    simp only [State.hasRoom, Bool.and_eq_true, decide_eq_true_eq] at h ⊢
    obtain ⟨⟨⟨⟨h1, h2, h3, h4, h5, h6⟩, h7⟩, h8⟩, h9⟩ := h
    rw [X.frames, List.length_cons] at h2 h3
    have q1 := X.heapSize
    have q2 := X.used
    simp only [hF, hU, List.length_cons, State.stackLimits_setFrames, State.stackBytes_setFrames, hl9, hb9]
    refine ⟨⟨⟨⟨by omega, by omega, by omega, by omega, by omega, h6⟩, ?_⟩, ?_⟩, X.book⟩
    · show T.heap.size + R'.cells ≤ e.platform.maxCells
      omega
    · show T.slotsUsed + R'.slots ≤ e.platform.maxSlots
      omega
  · rw [State.stackLimits_setFrames]; rfl
  · rw [State.stackBytes_setFrames]; rfl
  · refine ⟨?_, Nat.le_refl _, Nat.le_refl _, ?_, ?_, fun a c9 h9 => ⟨c9, h9, rfl, rfl, fun _ _ => rfl⟩⟩
    · obtain ⟨t, ht, -⟩ := State.frames_cons hr
      show T.setVm s.vm = { ((T.setVm s.vm).setFrames (.invoking m args :: below)).setFrames (T.setVm s.vm).frames with heap := T.heap, slotsUsed := T.slotsUsed }
      rw [State.setFrames_setFrames, State.setFrames_self ht]
      rfl
    · show T.slotsUsed = T.slotsUsed + ((T.heap.toList.drop T.heap.size).map (·.slots.size)).sum
      rw [List.drop_eq_nil_of_le (Nat.le_of_eq Array.length_toList)]
      rfl
    · show ((T.heap.toList.drop T.heap.size).map (·.slots.size)).sum ≤ 0
      rw [List.drop_eq_nil_of_le (Nat.le_of_eq Array.length_toList)]
      exact Nat.le_refl _
/-- 'throw new E()': new; dup; invokespecial; athrow -/
theorem vx_throw0 {cc : ByteArray} {pc : Nat} (hexec : p.tables.exec = Jvm.exec) (hb : c.code = cc) (hl : l.stackTraces = false) {own cls : String} {names : List String} {ik ic mc ms : Nat} {A : Nat → Prop}
    (hown : s.vm.findClass own = some m.cls) (hcls : Bundle.fit cls = true) (hnames : ∀ n ∈ names, Bundle.fit n = true)
    (hk : (Cond.classLink own ik cls).before args s = true) (hini : (Cond.initialized cls).before args s = true) (hat : ∀ w ∈ vx_at0 own ic cls names, w.before args s = true)
    (hgood : ∀ w ∈ Cond.classLink own ik cls :: Cond.initialized cls :: vx_at0 own ic cls names, vx_ot w = true)
    (hU : vx_Zq Bundle.tN "UNASSIGNED_STACK" Bundle.steD A s s.heap) (hN : vx_Zq Bundle.tN "SUPPRESSED_SENTINEL" Bundle.listD A s s.heap) (hS : va_S A s.heap H locs) (hsize : ls.size = c.maxLocals)
    (d0 : decode cc pc = .ok (.new ik, 3)) (d3 : decode cc (pc + 3) = .ok (.dup, 1)) (d4 : decode cc (pc + 4) = .ok (.invokespecial ic, 3)) (d7 : decode cc (pc + 7) = .ok (.athrow, 1))
    (hout : ∀ x ∈ c.exceptionTable.toList, covers x (pc + 7) = false)
    (hRframes : names.length + 3 < R.frames) (hRlocals : (rest.map fun v => v.category).sum + (13 * (names.length + 1) + 42) ≤ R.locals) (hRcells : cells + 1 ≤ R.cells) (hRslots : slots + 6 ≤ R.slots) (hlocks : meth.locks = false)
    (hx : ∀ t : State, s.vm.Alike t.vm → H.size ≤ t.heap.size → (∀ q : Nat, q < H.size → t.heap[q]? = H[q]?) → XC cls s t)
    (hf : ∀ z ∈ locs, free z.base) (hc : cells + 1 ≤ mc) (hs : slots + 6 ≤ ms) :
    W p l e R s m args below meth c H locs cells slots (vx_MQ below Qc XC args s mc ms free) (F0 m pc ls rest) := by
  intro T hT X
  have htr : e.platform.stackTraces = false := (show e.platform.stackTraces = l.stackTraces by rw [X.admits.platform]).trans hl
  have Y := vx_rebase X (R' := { frames := R.frames, locals := R.locals, cells := 1, slots := 6 }) (Nat.le_refl _) (Nat.le_refl _) hRcells hRslots
  obtain ⟨s', hA⟩ : ∃ z, z = (T.setVm s.vm).setFrames (.invoking m args :: below) := ⟨_, rfl⟩
  rw [← hA] at Y
  have hvm : s'.vm = s.vm := by rw [hA]; rfl
  have hhp : s'.heap = H := by rw [hA]; exact hT
  have hW0 : s.WarmedH s'.vm := by rw [hvm]; exact State.WarmedH.refl s
  have hat' : ∀ w ∈ vx_at0 own ic cls names, w.before args s' = true := fun w hw => vx_ot_at hW0 hvm.symm (hgood w (List.mem_cons_of_mem _ (List.mem_cons_of_mem _ hw))) (hat w hw)
  have hk' : (Cond.classLink own ik cls).before args s' = true := vx_ot_at hW0 hvm.symm (hgood _ List.mem_cons_self) hk
  have hini' : (Cond.initialized cls).before args s' = true := vx_ot_at hW0 hvm.symm (hgood _ (List.mem_cons_of_mem _ List.mem_cons_self)) hini
  have hU' : vx_Zq Bundle.tN "UNASSIGNED_STACK" Bundle.steD A s' s'.heap := by rw [hhp]; exact vx_Zq.moved hW0.alike (hU.kept hS.2.1)
  have hN' : vx_Zq Bundle.tN "SUPPRESSED_SENTINEL" Bundle.listD A s' s'.heap := by rw [hhp]; exact vx_Zq.moved hW0.alike (hN.kept hS.2.1)
  have h : ∀ w ∈ Bundle.ownAtoms0 own ic cls names, w.before args s' = true := vx_own hat' (vx_isRefq hU'.1) (vx_isRefq hN'.1) hU'.2.word hN'.2.word
  have hown' : s'.vm.findClass own = some m.cls := by rw [hvm]; exact hown
  have hins : (Cond.instantiable cls 6).before args s' = true := h _ (by simp [Bundle.ownAtoms0])
  obtain ⟨vm₁, cX, kX, hfX, hkX, -, -, X₁, st1⟩ := Y.newCold hexec (own := own) (C := cls) (index := ik) (n := 6) hown' hk' hins hini'
    (g := F0 m pc ls rest) rfl (by rw [hb]; exact d0) (Nat.le_refl _) (Nat.le_refl _)
  generalize hT1 : (T.setVm vm₁).pushCell { cls := cX, slots := kX.instanceTypes.map defaultValue, vm := .none } = T1 at X₁ st1
  have hcat : (Value.ref T.heap.size).category = 1 := rfl
  have hcellA : T1.heap[T.heap.size]? = some (freshCell cX kX) := by rw [← hT1]; exact State.heap_pushCell_size _ _
  have d3' : decode c.code (pc + 3) = .ok (.dup, 1) := by rw [hb]; exact d3
  obtain ⟨U, hsteps, hrun, hend, hW, hsame, ce, hce, hO⟩ := X₁.ctorThrow0 hexec htr (own := own) (cls := cls) (names := names) (ic := ic) hown' hcls hnames h (fun x hx => nomatch hx) hfX hkX hcellA (by rw [hhp, hT]; exact Nat.le_refl _)
    (g := { method := m, pc := pc + 4, locals := ls, stack := .ref T.heap.size :: .ref T.heap.size :: rest, locked := none }) rfl hsize rfl rfl (rest := rest) rfl
    (by rw [hb]; exact d4) (by rw [hb]; exact d7) hout hRframes (by simp only [List.map_cons, List.sum_cons, hcat]; omega) hlocks
  obtain ⟨f1, f2⟩ := vx_frame hsame
  rw [hhp] at f1 f2
  have hWs : s.WarmedH U.vm := State.WarmedH.trans hW0 hW
  have hcl : s.vm.findClass cls = some ce.cls := by
    have h9 := hO.cls
    rw [hvm] at h9
    exact h9
  have hall : s.sameButNew ({ U with vm := s.vm } : State) locs mc ms := by
    subst hA
    obtain ⟨e1, e2⟩ := hsame
    rw [State.setFrames_setFrames] at e1
    have h2 : (T.setVm s.vm).sameButNew ({ U with vm := s.vm } : State) [] (0 + 1) (0 + 6) := ⟨e1, e2⟩
    have h3 := X.same.trans h2
    rw [List.append_nil] at h3
    exact h3.mono hc hs
  refine ⟨U, ?_, .threw T.heap.size, hrun, hend, Or.inr ⟨T.heap.size, rfl, cls, ce, locs, hx U hWs.alike f1 (fun q hq => f2 q hq (fun z hz => nomatch hz)), hce, hO.vm, hcl, hWs, hall, hf⟩⟩
  refine st1 _ ?_
  show Steps p.tables e below (T1.setTop { method := m, pc := pc + 3, locals := ls, stack := .ref T.heap.size :: rest, locked := none }) _
  jvm_step X₁.here [X₁.here.top, hexec, d3', Value.category]
  exact hsteps
/-- 'throw new E("text")': new; dup; ldc; invokespecial; athrow -/
theorem vx_throwS {cc : ByteArray} {pc : Nat} (hexec : p.tables.exec = Jvm.exec) (hb : c.code = cc) (hl : l.stackTraces = false) {own cls text : String} {names : List String} {ik is ic mc ms sa : Nat} {A : Nat → Prop}
    (hown : s.vm.findClass own = some m.cls) (hcls : Bundle.fit cls = true) (hnames : ∀ n ∈ names, Bundle.fit n = true)
    (hk : (Cond.classLink own ik cls).before args s = true) (hini : (Cond.initialized cls).before args s = true) (hstr : vk_R own is text sa s) (hat : ∀ w ∈ vx_atS own ic cls names, w.before args s = true)
    (hgood : ∀ w ∈ Cond.classLink own ik cls :: Cond.initialized cls :: vx_atS own ic cls names, vx_ot w = true)
    (hU : vx_Zq Bundle.tN "UNASSIGNED_STACK" Bundle.steD A s s.heap) (hN : vx_Zq Bundle.tN "SUPPRESSED_SENTINEL" Bundle.listD A s s.heap) (hS : va_S A s.heap H locs) (hsize : ls.size = c.maxLocals)
    (d0 : decode cc pc = .ok (.new ik, 3)) (d3 : decode cc (pc + 3) = .ok (.dup, 1)) (d4 : decode cc (pc + 4) = .ok (.ldc is, 2)) (d6 : decode cc (pc + 6) = .ok (.invokespecial ic, 3)) (d9 : decode cc (pc + 9) = .ok (.athrow, 1))
    (hout : ∀ x ∈ c.exceptionTable.toList, covers x (pc + 9) = false)
    (hRframes : names.length + 3 < R.frames) (hRlocals : (rest.map fun v => v.category).sum + (13 * (names.length + 1) + 43) ≤ R.locals) (hRcells : cells + 1 ≤ R.cells) (hRslots : slots + 6 ≤ R.slots) (hlocks : meth.locks = false)
    (hx : ∀ t : State, s.vm.Alike t.vm → H.size ≤ t.heap.size → (∀ q : Nat, q < H.size → t.heap[q]? = H[q]?) → XC cls s t)
    (hf : ∀ z ∈ locs, free z.base) (hc : cells + 1 ≤ mc) (hs : slots + 6 ≤ ms) :
    W p l e R s m args below meth c H locs cells slots (vx_MQ below Qc XC args s mc ms free) (F0 m pc ls rest) := by
  intro T hT X
  have htr : e.platform.stackTraces = false := (show e.platform.stackTraces = l.stackTraces by rw [X.admits.platform]).trans hl
  have Y := vx_rebase X (R' := { frames := R.frames, locals := R.locals, cells := 1, slots := 6 }) (Nat.le_refl _) (Nat.le_refl _) hRcells hRslots
  obtain ⟨s', hA⟩ : ∃ z, z = (T.setVm s.vm).setFrames (.invoking m args :: below) := ⟨_, rfl⟩
  rw [← hA] at Y
  have hvm : s'.vm = s.vm := by rw [hA]; rfl
  have hhp : s'.heap = H := by rw [hA]; exact hT
  have hW0 : s.WarmedH s'.vm := by rw [hvm]; exact State.WarmedH.refl s
  have hat' : ∀ w ∈ vx_atS own ic cls names, w.before args s' = true := fun w hw => vx_ot_at hW0 hvm.symm (hgood w (List.mem_cons_of_mem _ (List.mem_cons_of_mem _ hw))) (hat w hw)
  have hk' : (Cond.classLink own ik cls).before args s' = true := vx_ot_at hW0 hvm.symm (hgood _ List.mem_cons_self) hk
  have hini' : (Cond.initialized cls).before args s' = true := vx_ot_at hW0 hvm.symm (hgood _ (List.mem_cons_of_mem _ List.mem_cons_self)) hini
  have hU' : vx_Zq Bundle.tN "UNASSIGNED_STACK" Bundle.steD A s' s'.heap := by rw [hhp]; exact vx_Zq.moved hW0.alike (hU.kept hS.2.1)
  have hN' : vx_Zq Bundle.tN "SUPPRESSED_SENTINEL" Bundle.listD A s' s'.heap := by rw [hhp]; exact vx_Zq.moved hW0.alike (hN.kept hS.2.1)
  have h : ∀ w ∈ Bundle.ownAtoms own ic cls names, w.before args s' = true := vx_own hat' (vx_isRefq hU'.1) (vx_isRefq hN'.1) hU'.2.word hN'.2.word
  have hown' : s'.vm.findClass own = some m.cls := by rw [hvm]; exact hown
  have hins : (Cond.instantiable cls 6).before args s' = true := h _ (by simp [Bundle.ownAtoms])
  obtain ⟨vm₁, cX, kX, hfX, hkX, -, -, X₁, st1⟩ := Y.newCold hexec (own := own) (C := cls) (index := ik) (n := 6) hown' hk' hins hini'
    (g := F0 m pc ls rest) rfl (by rw [hb]; exact d0) (Nat.le_refl _) (Nat.le_refl _)
  generalize hT1 : (T.setVm vm₁).pushCell { cls := cX, slots := kX.instanceTypes.map defaultValue, vm := .none } = T1 at X₁ st1
  have hcat : (Value.ref T.heap.size).category = 1 := rfl
  have hcellA : T1.heap[T.heap.size]? = some (freshCell cX kX) := by rw [← hT1]; exact State.heap_pushCell_size _ _
  have d3' : decode c.code (pc + 3) = .ok (.dup, 1) := by rw [hb]; exact d3
  have d4' : decode c.code (pc + 4) = .ok (.ldc is, 2) := by rw [hb]; exact d4
  have hstr' : vk_R own is text sa s' := vk_R.warm hW0 hstr
  obtain ⟨U, hsteps, hrun, hend, hW, hsame, ce, hce, hO⟩ := X₁.ctorThrowS hexec htr (own := own) (cls := cls) (names := names) (ic := ic) hown' hcls hnames h (fun x hx => nomatch hx) hfX hkX hcellA (by rw [hhp, hT]; exact Nat.le_refl _) (msg := .ref sa) rfl
    (g := { method := m, pc := pc + 6, locals := ls, stack := .ref sa :: .ref T.heap.size :: .ref T.heap.size :: rest, locked := none }) rfl hsize rfl rfl (rest := rest) rfl
    (by rw [hb]; exact d6) (by rw [hb]; exact d9) hout hRframes (by simp only [List.map_cons, List.sum_cons, hcat]; omega) hlocks
  obtain ⟨f1, f2⟩ := vx_frame hsame
  rw [hhp] at f1 f2
  have hWs : s.WarmedH U.vm := State.WarmedH.trans hW0 hW
  have hcl : s.vm.findClass cls = some ce.cls := by
    have h9 := hO.cls
    rw [hvm] at h9
    exact h9
  have hall : s.sameButNew ({ U with vm := s.vm } : State) locs mc ms := by
    subst hA
    obtain ⟨e1, e2⟩ := hsame
    rw [State.setFrames_setFrames] at e1
    have h2 : (T.setVm s.vm).sameButNew ({ U with vm := s.vm } : State) [] (0 + 1) (0 + 6) := ⟨e1, e2⟩
    have h3 := X.same.trans h2
    rw [List.append_nil] at h3
    exact h3.mono hc hs
  refine ⟨U, ?_, .threw T.heap.size, hrun, hend, Or.inr ⟨T.heap.size, rfl, cls, ce, locs, hx U hWs.alike f1 (fun q hq => f2 q hq (fun z hz => nomatch hz)), hce, hO.vm, hcl, hWs, hall, hf⟩⟩
  refine st1 _ ?_
  show Steps p.tables e below (T1.setTop { method := m, pc := pc + 3, locals := ls, stack := .ref T.heap.size :: rest, locked := none }) _
  jvm_step X₁.here [X₁.here.top, hexec, d3', Value.category]
  exact X₁.ldcString hexec (own := own) (text := text) (index := is) (a := sa) hown' hstr'.1 hstr'.2
    (g := { method := m, pc := pc + 4, locals := ls, stack := .ref T.heap.size :: .ref T.heap.size :: rest, locked := none }) rfl d4' _ hsteps
/-- 'throw new E("text")', the text by a wide index -/
theorem vx_throwSW {cc : ByteArray} {pc : Nat} (hexec : p.tables.exec = Jvm.exec) (hb : c.code = cc) (hl : l.stackTraces = false) {own cls text : String} {names : List String} {ik is ic mc ms sa : Nat} {A : Nat → Prop}
    (hown : s.vm.findClass own = some m.cls) (hcls : Bundle.fit cls = true) (hnames : ∀ n ∈ names, Bundle.fit n = true)
    (hk : (Cond.classLink own ik cls).before args s = true) (hini : (Cond.initialized cls).before args s = true) (hstr : vk_R own is text sa s) (hat : ∀ w ∈ vx_atS own ic cls names, w.before args s = true)
    (hgood : ∀ w ∈ Cond.classLink own ik cls :: Cond.initialized cls :: vx_atS own ic cls names, vx_ot w = true)
    (hU : vx_Zq Bundle.tN "UNASSIGNED_STACK" Bundle.steD A s s.heap) (hN : vx_Zq Bundle.tN "SUPPRESSED_SENTINEL" Bundle.listD A s s.heap) (hS : va_S A s.heap H locs) (hsize : ls.size = c.maxLocals)
    (d0 : decode cc pc = .ok (.new ik, 3)) (d3 : decode cc (pc + 3) = .ok (.dup, 1)) (d4 : decode cc (pc + 4) = .ok (.ldc_w is, 3)) (d7 : decode cc (pc + 7) = .ok (.invokespecial ic, 3)) (d10 : decode cc (pc + 10) = .ok (.athrow, 1))
    (hout : ∀ x ∈ c.exceptionTable.toList, covers x (pc + 10) = false)
    (hRframes : names.length + 3 < R.frames) (hRlocals : (rest.map fun v => v.category).sum + (13 * (names.length + 1) + 43) ≤ R.locals) (hRcells : cells + 1 ≤ R.cells) (hRslots : slots + 6 ≤ R.slots) (hlocks : meth.locks = false)
    (hx : ∀ t : State, s.vm.Alike t.vm → H.size ≤ t.heap.size → (∀ q : Nat, q < H.size → t.heap[q]? = H[q]?) → XC cls s t)
    (hf : ∀ z ∈ locs, free z.base) (hc : cells + 1 ≤ mc) (hs : slots + 6 ≤ ms) :
    W p l e R s m args below meth c H locs cells slots (vx_MQ below Qc XC args s mc ms free) (F0 m pc ls rest) := by
  intro T hT X
  have htr : e.platform.stackTraces = false := (show e.platform.stackTraces = l.stackTraces by rw [X.admits.platform]).trans hl
  have Y := vx_rebase X (R' := { frames := R.frames, locals := R.locals, cells := 1, slots := 6 }) (Nat.le_refl _) (Nat.le_refl _) hRcells hRslots
  obtain ⟨s', hA⟩ : ∃ z, z = (T.setVm s.vm).setFrames (.invoking m args :: below) := ⟨_, rfl⟩
  rw [← hA] at Y
  have hvm : s'.vm = s.vm := by rw [hA]; rfl
  have hhp : s'.heap = H := by rw [hA]; exact hT
  have hW0 : s.WarmedH s'.vm := by rw [hvm]; exact State.WarmedH.refl s
  have hat' : ∀ w ∈ vx_atS own ic cls names, w.before args s' = true := fun w hw => vx_ot_at hW0 hvm.symm (hgood w (List.mem_cons_of_mem _ (List.mem_cons_of_mem _ hw))) (hat w hw)
  have hk' : (Cond.classLink own ik cls).before args s' = true := vx_ot_at hW0 hvm.symm (hgood _ List.mem_cons_self) hk
  have hini' : (Cond.initialized cls).before args s' = true := vx_ot_at hW0 hvm.symm (hgood _ (List.mem_cons_of_mem _ List.mem_cons_self)) hini
  have hU' : vx_Zq Bundle.tN "UNASSIGNED_STACK" Bundle.steD A s' s'.heap := by rw [hhp]; exact vx_Zq.moved hW0.alike (hU.kept hS.2.1)
  have hN' : vx_Zq Bundle.tN "SUPPRESSED_SENTINEL" Bundle.listD A s' s'.heap := by rw [hhp]; exact vx_Zq.moved hW0.alike (hN.kept hS.2.1)
  have h : ∀ w ∈ Bundle.ownAtoms own ic cls names, w.before args s' = true := vx_own hat' (vx_isRefq hU'.1) (vx_isRefq hN'.1) hU'.2.word hN'.2.word
  have hown' : s'.vm.findClass own = some m.cls := by rw [hvm]; exact hown
  have hins : (Cond.instantiable cls 6).before args s' = true := h _ (by simp [Bundle.ownAtoms])
  obtain ⟨vm₁, cX, kX, hfX, hkX, -, -, X₁, st1⟩ := Y.newCold hexec (own := own) (C := cls) (index := ik) (n := 6) hown' hk' hins hini'
    (g := F0 m pc ls rest) rfl (by rw [hb]; exact d0) (Nat.le_refl _) (Nat.le_refl _)
  generalize hT1 : (T.setVm vm₁).pushCell { cls := cX, slots := kX.instanceTypes.map defaultValue, vm := .none } = T1 at X₁ st1
  have hcat : (Value.ref T.heap.size).category = 1 := rfl
  have hcellA : T1.heap[T.heap.size]? = some (freshCell cX kX) := by rw [← hT1]; exact State.heap_pushCell_size _ _
  have d3' : decode c.code (pc + 3) = .ok (.dup, 1) := by rw [hb]; exact d3
  have d4' : decode c.code (pc + 4) = .ok (.ldc_w is, 3) := by rw [hb]; exact d4
  have hstr' : vk_R own is text sa s' := vk_R.warm hW0 hstr
  obtain ⟨U, hsteps, hrun, hend, hW, hsame, ce, hce, hO⟩ := X₁.ctorThrowS hexec htr (own := own) (cls := cls) (names := names) (ic := ic) hown' hcls hnames h (fun x hx => nomatch hx) hfX hkX hcellA (by rw [hhp, hT]; exact Nat.le_refl _) (msg := .ref sa) rfl
    (g := { method := m, pc := pc + 7, locals := ls, stack := .ref sa :: .ref T.heap.size :: .ref T.heap.size :: rest, locked := none }) rfl hsize rfl rfl (rest := rest) rfl
    (by rw [hb]; exact d7) (by rw [hb]; exact d10) hout hRframes (by simp only [List.map_cons, List.sum_cons, hcat]; omega) hlocks
  obtain ⟨f1, f2⟩ := vx_frame hsame
  rw [hhp] at f1 f2
  have hWs : s.WarmedH U.vm := State.WarmedH.trans hW0 hW
  have hcl : s.vm.findClass cls = some ce.cls := by
    have h9 := hO.cls
    rw [hvm] at h9
    exact h9
  have hall : s.sameButNew ({ U with vm := s.vm } : State) locs mc ms := by
    subst hA
    obtain ⟨e1, e2⟩ := hsame
    rw [State.setFrames_setFrames] at e1
    have h2 : (T.setVm s.vm).sameButNew ({ U with vm := s.vm } : State) [] (0 + 1) (0 + 6) := ⟨e1, e2⟩
    have h3 := X.same.trans h2
    rw [List.append_nil] at h3
    exact h3.mono hc hs
  refine ⟨U, ?_, .threw T.heap.size, hrun, hend, Or.inr ⟨T.heap.size, rfl, cls, ce, locs, hx U hWs.alike f1 (fun q hq => f2 q hq (fun z hz => nomatch hz)), hce, hO.vm, hcl, hWs, hall, hf⟩⟩
  refine st1 _ ?_
  show Steps p.tables e below (T1.setTop { method := m, pc := pc + 3, locals := ls, stack := .ref T.heap.size :: rest, locked := none }) _
  jvm_step X₁.here [X₁.here.top, hexec, d3', Value.category]
  exact X₁.ldcStringW hexec (own := own) (text := text) (index := is) (a := sa) hown' hstr'.1 hstr'.2
    (g := { method := m, pc := pc + 4, locals := ls, stack := .ref T.heap.size :: .ref T.heap.size :: rest, locked := none }) rfl d4' _ hsteps
end Ends
section Bodies
variable {l : Launch}
theorem vx_ofW {y : MethodName} {ws ws' : List Cond} {rm : Room} {Pc : Array Value → State → Prop} {Qc : Array Value → State → Outcome → State → Prop} {XC : String → State → State → Prop} {mc ms : Nat} {free : Addr → Prop} {cc : ByteArray} {maxL : Nat} {ret : Option FieldType}
    (hy : plainName y.cls = true) (hw : ws = Cond.code y cc maxL ret :: ws')
    (body : ∀ p e s m args below meth c s₁, BodyLoose p l y (headSpec ws rm) cc maxL ret e s m args below meth c s₁ → c.maxLocals = maxL → (∀ x ∈ c.exceptionTable.toList, False) → Pc args s →
      W p l e (headSpec ws rm).room s m args below meth c s.heap [] 0 0 (vx_MQ below Qc XC args s mc ms free) (entryFrame m args maxL)) : vx_Met l y ws rm Pc Qc XC mc ms free := by
  refine MetFree.of_bodyS (code := cc) (maxLocals := maxL) (ret := ret) hy ?_ ?_
  · intro args s m h hn
    obtain ⟨meth, c, h1, h2, h3, h4, h5, h6, -, -⟩ := Cond.code_spec hn (atoms_spec (ws := ws) h _ (by rw [hw]; exact List.mem_cons_self))
    exact ⟨meth, c, h1, h2, h3, h4, h5, h6⟩
  · intro p e s m args below meth c s₁ B hml hP _
    have hh0 : s₁.heap = s.heap := by rw [B.state]; rfl
    have ht : ∀ x ∈ c.exceptionTable.toList, False := by
      obtain ⟨meth9, c9, h1, h2, -, -, -, -, h7, -⟩ := Cond.code_spec B.named (atoms_spec (ws := ws) B.pre _ (by rw [hw]; exact List.mem_cons_self))
      cases Option.some.inj (h1.symm.trans B.method)
      cases Option.some.inj (h2.symm.trans (Stand.of_body B).code)
      intro x hx
      rw [Array.isEmpty_iff.mp h7] at hx
      cases hx
    obtain ⟨t, a1, o, b1, b2, b3⟩ := body p e s m args below meth c s₁ B hml ht hP s₁ hh0 (Stand.of_body B)
    exact ⟨t, o, a1, b1, b2, b3⟩
/-- the table of a body with handlers -/
theorem vx_table {p : Program} {x y : MethodName} {S : Spec} {cc bytes : ByteArray} {maxL maxL' : Nat} {ret ret' : Option FieldType} {e : Env} {s s₁ : State} {m : MethodId} {args : Array Value} {below : List Frame} {meth : Method} {c : Code} {hh : List (Nat × Nat × Nat × Nat)}
    (B : BodyLoose p l y S cc maxL ret e s m args below meth c s₁) (h : (Cond.codeWith y bytes maxL' ret' hh).before args s = true) : c.exceptionTable.toList = tableOf hh := by
  obtain ⟨m9, meth9, c9, hn9, h1, h2, -, -, h6, -⟩ := Cond.codeWith_spec h
  cases Option.some.inj (hn9.symm.trans B.named)
  cases Option.some.inj (h1.symm.trans B.method)
  cases Option.some.inj (h2.symm.trans (Stand.of_body B).code)
  rw [← h6, table_eq]
end Bodies
end VXA
/-! ===== END ===== -/
/-! ===== BEGIN a static call of a method with an exception table ===== -/
section VXS
variable {p : Program} {l : Launch} {e : Env} {R : Room} {s : State} {m : MethodId} {args : Array Value} {below : List Frame} {meth : Method} {c : Code} {T : State} {H : Heap} {locs : List Loc} {cells slots : Nat}
abbrev vx_CSW (R : Room) (s : State) (args : Array Value) (own : String) (index : Nat) (y : MethodName) (bytes : ByteArray) (maxL : Nat) (ret : Option FieldType) (hh : List (Nat × Nat × Nat × Nat)) (ws : List Cond) (rm : Room) (mc ms n : Nat) : Prop :=
  (rm.cells = mc ∧ rm.slots = ms ∧ rm.frames + 1 ≤ R.frames ∧ 8 + (maxL + 11) + rm.locals ≤ R.locals ∧ (∀ w ∈ ws, ∀ (a' : Array Value) (U : State), s.WarmedH U.vm → w.before a' U = true) ∧ Cond.codeWith y bytes maxL ret hh ∈ ws) ∧
  (Cond.codeWith y bytes maxL ret hh).before args s = true ∧ (Cond.initialized y.cls).before args s = true ∧ (y.cls ≠ "java/lang/invoke/MethodHandle" ∧ y.cls ≠ "java/lang/invoke/VarHandle") ∧
  (∀ sig, parseMethodDescriptor y.desc = some sig → n = sig.parameters.length) ∧ (Cond.methodLink own index y).before args s = true ∧ (Cond.static y).before args s = true
theorem vx_cwSW {own : String} {index maxL mc ms : Nat} {y : MethodName} {bytes : ByteArray} {ret : Option FieldType} {hh : List (Nat × Nat × Nat × Nat)} {Ts ws ws' : List Cond} {rm : Room} (n : Nat) (ht : ∀ w ∈ Ts, w.before args s = true) (hT : GoodIn Ts (va_wsS own index y ws)) (hw : ws = Cond.codeWith y bytes maxL ret hh :: ws') (hrc : rm.cells = mc) (hrs : rm.slots = ms)
    (hd : y.cls ≠ "java/lang/invoke/MethodHandle" ∧ y.cls ≠ "java/lang/invoke/VarHandle" ∧ (parseMethodDescriptor y.desc).map (fun d => d.parameters.length) = some n) (hR : rm.frames + 1 ≤ R.frames ∧ 8 + (maxL + 11) + rm.locals ≤ R.locals) :
    vx_CSW R s args own index y bytes maxL ret hh ws rm mc ms n := by
  have ok : ∀ w ∈ va_wsS own index y ws, w.before args s = true := fun w h => ht w (hT w h).1
  have hG : GoodIn Ts ws := fun w h => hT w (by unfold va_wsS; exact List.mem_append_right _ h)
  have hc : Cond.codeWith y bytes maxL ret hh ∈ ws := by rw [hw]; exact List.mem_cons_self
  refine ⟨⟨hrc, hrs, hR.1, hR.2, pay_in ht hG, hc⟩, ht _ (hG _ hc).1, ok _ (by simp [va_wsS]), ⟨hd.1, hd.2.1⟩, fun sig h => ?_, ok _ (by simp [va_wsS]), ok _ (by simp [va_wsS])⟩
  have h2 := hd.2.2
  rw [h] at h2
  exact (Option.some.inj h2).symm
theorem vx_callSW (X : Stand p l e R s m args below meth c T locs cells slots) (hexec : p.tables.exec = Jvm.exec) {own : String} {index : Nat} {y : MethodName} {bytes : ByteArray} {maxL : Nat} {ret : Option FieldType} {hh : List (Nat × Nat × Nat × Nat)}
    (hown : s.vm.findClass own = some m.cls) (hlink : (Cond.methodLink own index y).before args s = true) (hstat : (Cond.static y).before args s = true) (hinit : (Cond.initialized y.cls).before args s = true)
    (hcode : (Cond.codeWith y bytes maxL ret hh).before args s = true) (hy : y.cls ≠ "java/lang/invoke/MethodHandle" ∧ y.cls ≠ "java/lang/invoke/VarHandle")
    {W9 : Nat} {Pre : Pt → Array Value → Prop} {Post : Pt → Array Value → Option Value → Pt → Prop} (hK : Back l R p e below s args y 3 W9 Pre Post)
    {g : JFrame} (hg : g.method = m) (hsize : g.locals.size = c.maxLocals) {argsL rest : List Value} (hlen : ∀ sig, parseMethodDescriptor y.desc = some sig → argsL.length = sig.parameters.length)
    (hstack : g.stack = argsL.reverse ++ rest) (hW : 2 * g.monitorRoom + (rest.map fun v => v.category).sum ≤ W9) (hdg : decode c.code g.pc = .ok (.invokestatic index, 3))
    (hpre : ∀ vm₁, s.WarmedH vm₁ → Pre ⟨T.setVm vm₁, locs, cells, slots⟩ argsL.toArray) :
    ∃ (v : Option Value) (vm₁ : Vm) (B : Pt), s.WarmedH vm₁ ∧ Stand p l e R s m args below meth c B.U B.locs B.cells B.slots ∧ Post ⟨T.setVm vm₁, locs, cells, slots⟩ argsL.toArray v B ∧
      ∀ target, Steps p.tables e below (B.U.setTop { g with pc := g.pc + 3, stack := v.toList ++ rest }) target → Steps p.tables e below (T.setTop g) target := by
  obtain ⟨mk, methM, cM, hnamed, hmethM, -, -, -, -, -, -, hsigM⟩ := Cond.codeWith_spec hcode
  have hstatic : methM.isStatic = true := Cond.static_spec hnamed hmethM hstat
  obtain ⟨kP, hkP, -⟩ := className_of_methodNamed hnamed
  have hinitP : kP.init = .initialized := Cond.initialized_spec (findClass_of_methodNamed hnamed) hkP hinit
  obtain ⟨vm₁, X₁, hstep₁⟩ := X.invokestatic hexec hown hlink hnamed hmethM hstatic hkP hinitP hy (g := g) hg (argsL := argsL) (rest := rest) (hlen _ hsigM) hstack hdg
  obtain ⟨v, B, X', hpost, hsteps⟩ := hK m meth c ⟨T.setVm vm₁, locs, cells, slots⟩ { g with stack := rest } (.invokestatic index) mk argsL.toArray X₁ hg hsize hdg hW (X₁.named hnamed) (hpre vm₁ X₁.warmed)
  exact ⟨v, vm₁, B, X₁.warmed, X', hpost, fun target h => hstep₁ _ fun acts => by rw [doInvoke_state]; exact hsteps.trans h⟩
theorem vx_runSW {y : MethodName} {bytes cc : ByteArray} {maxL nL mc ms n index : Nat} {ret : Option FieldType} {hh : List (Nat × Nat × Nat × Nat)} {ws : List Cond} {rm : Room} {Pc : Array Value → State → Prop} {Qc : Array Value → State → Outcome → State → Prop} {free : Addr → Prop} {Ts : List Cond} {own : String} {As rest : List Value} {g : JFrame}
    (S : CallFix p m c cc nL s args Ts own) (hM : Met l y ws rm Pc Qc mc ms free) (cw : vx_CSW R s args own index y bytes maxL ret hh ws rm mc ms n) (hp : PreS s H Pc As)
    (hg : g.method = m) (hn : As.length = n) (hsize : g.locals.size = nL) (hstack : g.stack = As.reverse ++ rest) (hW : 2 * g.monitorRoom + (rest.map fun v => v.category).sum ≤ 8) (hdg : decode cc g.pc = .ok (.invokestatic index, 3)) (hf : cells + mc ≤ R.cells ∧ slots + ms ≤ R.slots) :
    va_Run p l e R s m args below meth c H locs cells slots mc ms g rest (Qc As.toArray) (free) := by
  obtain ⟨⟨hrc, hrs, hfr, hlo, hws, hcw⟩, hcode, hini, hy, hlen, hl, hstt⟩ := cw
  have hK : Back l R p e below s args y 3 8 (PreOf R mc ms Pc) (PostOf Qc mc ms free) := va_backW (hh := hh) (bytes := bytes) (maxL := maxL) (ret := ret) hM hp.1 hrc hrs hfr hlo hws hcw (fun a' U hW => word_at hW (Or.inl (by first | rfl | simp [Cond.onTables, Cond.keeps, Cond.steady])) hini)
  obtain ⟨hx, hb, hml, ho, -⟩ := S
  intro T hT X
  obtain ⟨v, vm₁, ⟨U', l2, c2, s2⟩, hW₁, X', ⟨g', mk, t, L, e1, e2, hq, h1, hL, h2, h3⟩, st⟩ := vx_callSW X hx (hh := hh) (bytes := bytes) (maxL := maxL) (ret := ret) ho hl hstt hini hcode hy hK hg (hsize.trans hml.symm) (argsL := As) (rest := rest) (fun sig h => hn.trans (hlen sig h)) hstack hW (by rw [hb]; exact hdg)
    (fun vm₁ hW₁ => ⟨hf.1, hf.2, hp.2 (T.setVm vm₁) hT hW₁⟩)
  dsimp only [Pt.U, Pt.locs, Pt.cells, Pt.slots] at X' e1 e2 h1 h2 h3 st
  subst h1; subst h2; subst h3
  exact ⟨v, (T.setVm vm₁).calling g' mk As.toArray, t, U', L, hT, X', hL, e1, e2, hq, st⟩
/-- not caught here, past rows that name other classes: it goes on to the caller -/
theorem vx_outP {p : Program} {l : Launch} {e : Env} {R : Room} {s : State} {m : MethodId} {args : Array Value} {below : List Frame} {meth : Method} {c : Code} {H : Heap} {locs : List Loc} {cells slots : Nat} {free : Addr → Prop} {ls : Array Slot} {rest : List Value} {Qc : Array Value → State → Outcome → State → Prop} {XC : String → State → State → Prop}
    {pc : Nat} {own E : String} {ce : Cell} {q : Addr} {mc ms : Nat} (hown : s.vm.findClass own = some m.cls) (hlocks : meth.locks = false)
    (hpass : ∀ z ∈ c.exceptionTable.toList, covers z pc = false ∨ (z.catchType ≠ 0 ∧ ∃ nm : String, (Cond.classLink own z.catchType nm).before args s = true ∧ va_Nc E nm s)) (hcell : H[q]? = some ce) (hv : ce.vm = .none) (hcl : s.vm.findClass E = some ce.cls)
    (hx : ∀ t : State, t.heap = H → s.vm.Alike t.vm → XC E s t) (hf : ∀ z ∈ locs, free z.base) (hc : cells ≤ mc) (hs : slots ≤ ms) :
    vx_W p l e R s m args below meth c H locs cells slots (vx_MQ below Qc XC args s mc ms free) (F0 m pc ls rest) q := by
  intro T hT X
  have hpl : e.platform.magicAccessors = ({} : Platform).magicAccessors := by rw [X.admits.platform]
  obtain ⟨vm', hW', X', st⟩ := X.outThrough hlocks q (g := F0 m pc ls rest) rfl rfl rfl (cell := ce) (by rw [hT]; exact hcell) (by rw [hv]; rfl)
    (by obtain ⟨k9, h9, -⟩ := Vm.findClass_spec hcl; exact ⟨k9, h9⟩) (fun z hz => by
      rcases hpass z hz with h | ⟨hz0, nm, hl1, hn1⟩
      · exact Or.inl h
      · obtain ⟨c6, hc6, hcl6⟩ := Cond.classLink_spec hown hl1 e.platform hpl
        obtain ⟨a8, b8, h1, h2, h3⟩ := hn1
        cases Option.some.inj (h1.symm.trans hcl)
        cases Option.some.inj (h2.symm.trans hc6)
        exact Or.inr ⟨hz0, _, hcl6, h3⟩)
  obtain ⟨g₀, hfr⟩ := X'.frames_eq
  have hcell9 : ((T.setVm vm').setFrames (.throwing q :: below)).heap[q]? = some ce := by
    show T.heap[q]? = some ce
    rw [hT]; exact hcell
  have hend : Ended ((T.setVm vm').setFrames (.throwing q :: below)) below (.threw q) := State.frames_setFrames _ (State.cur_lt_of_frames hfr)
  refine ⟨(T.setVm vm').setFrames (.throwing q :: below), ?_, .threw q, X'.here.running, hend, Or.inr ⟨q, rfl, E, ce, locs, hx _ hT (X'.ends _).1.alike, hcell9, hv, hcl, (X'.ends _).1, (X'.ends _).2.mono hc hs, hf⟩⟩
  rw [X.pushThrowing_eq]
  exact st
/-- a thing of a world lies in the heap -/
theorem vx_lt {D : va_G} {cl : List vw_C} {ws : va_W} {H1 : Heap} (h : va_P D cl ws H1) {k : Nat} {q : Nat × va_E} (hk : ws[k]? = some q) : q.1 < H1.size := (h k q hk).lt
end VXS
/-! ===== END ===== -/
/-! ===== BEGIN methods with a table of their own: called by a name, returning or throwing ===== -/
section VXH
/-! vx_backW, vx_callVX, vx_callSX, vx_callVW, vx_runVW, vx_runVX, vx_runSX, vx_ofWH follow the same proofs as their sisters above (Free/Laws.lean, Shelf42/LK1.lean); vx_outP calls Shelf42/NT130.lean (outThrough). -/
section
variable {l : Launch} {R : Room} {p : Program} {e : Env} {below : List Frame} {s : State} {sargs : Array Value} {y : MethodName} {len W9 : Nat}
theorem vx_backW {ws : List Cond} {rm : Room} {Pc : Array Value → State → Prop} {Qc : Array Value → State → Outcome → State → Prop} {XC : String → State → State → Prop} {mc ms : Nat} {free : Addr → Prop} {bytes : ByteArray} {maxL : Nat} {ret : Option FieldType} {hh : List (Nat × Nat × Nat × Nat)}
    (hM : vx_Met l y ws rm Pc Qc XC mc ms free) (hblind : FrameBlind Pc) (hrc : rm.cells = mc) (hrs : rm.slots = ms)
    (hframes : rm.frames + 1 ≤ R.frames) (hlocals : W9 + (maxL + 11) + rm.locals ≤ R.locals)
    (hws : ∀ w ∈ ws, ∀ a' U, s.WarmedH U.vm → w.before a' U = true) (hcode : Cond.codeWith y bytes maxL ret hh ∈ ws) (hinit : ∀ a' U, s.WarmedH U.vm → (Cond.initialized y.cls).before a' U = true) :
    vx_Back l R p e below s sargs y len W9 (PreOf R mc ms Pc) (PostOf Qc mc ms free) (vx_Post XC mc ms free) := by
  intro m meth c A g ig mk a X hg hsize hdg hW hn hp
  have h1 : (headSpec ws rm).pre.before a A.U = true := atoms_intro fun w hw => hws w hw _ _ X.warmed
  have h2 : (Cond.codeWith y bytes maxL ret hh).before a A.U = true := hws _ hcode _ _ X.warmed
  have h3 : (Cond.initialized y.cls).before a A.U = true := hinit _ _ X.warmed
  have h4 : A.cells + (headSpec ws rm).room.cells ≤ R.cells := by rw [show (headSpec ws rm).room.cells = mc from hrc]; exact hp.1
  have h5 : A.slots + (headSpec ws rm).room.slots ≤ R.slots := by rw [show (headSpec ws rm).room.slots = ms from hrs]; exact hp.2.1
  have hPc : Pc a (A.U.calling g mk a) := hblind _ _ _ _ hp.2.2
  obtain ⟨U, Ls, c0, s0⟩ := A
  dsimp only [Pt.U, Pt.locs, Pt.cells, Pt.slots] at h1 h2 h3 h4 h5 X hn hPc ⊢
  obtain ⟨m9, methY, cY, hn9, hmY, hcY, -, hlY, -⟩ := Cond.codeWith_spec h2
  cases Option.some.inj (hn9.symm.trans hn)
  obtain ⟨kY, hkY, -⟩ := className_of_methodNamed hn
  have hinitY : kY.init = .initialized := Cond.initialized_spec (findClass_of_methodNamed hn) hkY h3
  have h : At U g.method c below := by rw [hg]; exact X.here
  have hlocals9 : W9 + (maxL + 11) + (headSpec ws rm).room.locals ≤ R.locals := hlocals
  have happ : (headSpec ws rm).appliesLoose y e.platform (U.calling g mk a) = true :=
    Spec.appliesLoose_calling (g := g) h hdg hn hkY hinitY
      (X.room_calling (g := g) (R' := (headSpec ws rm).room) hsize hmY hcY hframes (by rw [hlY]; omega) h4 h5) h1
  obtain ⟨mid, hmid⟩ := h.above
  have hfr : (U.setTop g).frames = (.java g :: mid) ++ below := by rw [State.frames_setTop' g h.top, hmid]; rfl
  obtain ⟨o, s₂, hsteps, -, hend, hq⟩ := Steps.callFree hM p X.admits X.cas X.clock (acts := []) hfr happ hPc trivial
  have hq' : vx_Q Qc XC mc ms free a (U.calling g mk a) o s₂ := hq
  rw [State.frames_setTop' g h.top] at hend
  obtain ⟨g₀, hg0⟩ := Option.isSome_iff_exists.mp h.top
  obtain ⟨r, hr⟩ := State.topJava?_eq_some.mp hg0
  have hr' : (({ U with heap := s₂.heap, slotsUsed := s₂.slotsUsed } : State).setVm s₂.vm).frames = .java g₀ :: r := hr
  rcases hq' with ⟨hqc, L, hfe, hL⟩ | ⟨q, rfl, E, ce, L, hx, hce, hcv, hcl, hW₂, hsm, hL⟩
  · obtain ⟨⟨v, rfl⟩, hW₂, e2, q2, q3, q4, q5, q6⟩ := id hfe
    have e3 : s₂ = ({ (U.calling g mk a).setFrames s₂.frames with heap := s₂.heap, slotsUsed := s₂.slotsUsed } : State).setVm s₂.vm := by
      have : s₂ = ({ s₂ with vm := (U.calling g mk a).vm } : State).setVm s₂.vm := rfl
      rw [e2] at this
      exact this
    obtain ⟨c₂, i₂, len₂, hc₂, hd₂, hf₂⟩ := hend
    have hW' : U.WarmedH s₂.vm := hW₂
    have hcc : c₂ = c := by
      have h1 : s₂.code? g.method = U.code? g.method := by
        rw [State.code?_eq, State.code?_eq, hW'.alike.method?]
      exact Option.some.inj (hc₂.symm.trans (h1.trans h.code))
    subst hcc
    have hlen : len₂ = len := by rw [hdg] at hd₂; cases hd₂; rfl
    subst hlen
    have hs₂ : s₂ = (({ U with heap := s₂.heap, slotsUsed := s₂.slotsUsed } : State).setVm s₂.vm).setTop { g with pc := g.pc + len₂, stack := v.toList ++ g.stack } := by
      refine e3.trans ?_
      rw [hf₂, State.calling_eq h.top, State.setFrames_setFrames, State.setTop_of_frames _ hr', hr]
      rfl
    have hsame : U.sameButNew ({ U with heap := s₂.heap, slotsUsed := s₂.slotsUsed } : State) L mc ms := by
      refine ⟨?_, q2, q3, q4, q5, q6⟩
      obtain ⟨t, ht, -⟩ := State.frames_cons hr
      show ({ U with heap := s₂.heap, slotsUsed := s₂.slotsUsed } : State) = { U.setFrames U.frames with heap := s₂.heap, slotsUsed := s₂.slotsUsed }
      rw [State.setFrames_self ht]
    subst hg
    refine Or.inl ⟨v, ⟨(({ U with heap := s₂.heap, slotsUsed := s₂.slotsUsed } : State).setVm s₂.vm), Ls ++ L, c0 + mc, s0 + ms⟩,
      ⟨X.admits, X.cas, X.clock, X.frames, X.room, X.hears, X.method, X.code, (X.here.setHeapUsed s₂.heap s₂.slotsUsed).setVm hW'.alike, X.tail, State.WarmedH.trans X.warmed hW', X.limits, X.bytes, X.same.trans (hsame.setVm s.vm)⟩,
      ⟨g, mk, s₂, L, rfl, rfl, hqc, rfl, hL, rfl, rfl⟩, ?_⟩
    show Steps p.tables e below _ ((({ U with heap := s₂.heap, slotsUsed := s₂.slotsUsed } : State).setVm s₂.vm).setTop { g with pc := g.pc + len₂, stack := v.toList ++ g.stack })
    rw [← hs₂]
    exact hsteps
  · obtain ⟨e2, q2, q3, q4, q5, q6⟩ := id hsm
    have e3 : s₂ = ({ (U.calling g mk a).setFrames s₂.frames with heap := s₂.heap, slotsUsed := s₂.slotsUsed } : State).setVm s₂.vm := by
      have : s₂ = ({ s₂ with vm := (U.calling g mk a).vm } : State).setVm s₂.vm := rfl
      rw [e2] at this
      exact this
    have hf₂ : s₂.frames = .throwing q :: .java g :: U.frames.tail := hend
    have hW' : U.WarmedH s₂.vm := hW₂
    have hs₂ : s₂ = ((({ U with heap := s₂.heap, slotsUsed := s₂.slotsUsed } : State).setVm s₂.vm).setTop g).pushFrame (.throwing q) := by
      refine e3.trans ?_
      rw [hf₂, State.calling_eq h.top, State.setFrames_setFrames, State.pushFrame, State.frames_setTop _ hr', State.setTop_of_frames _ hr', State.setFrames_setFrames, hr]
      rfl
    have hsame : U.sameButNew ({ U with heap := s₂.heap, slotsUsed := s₂.slotsUsed } : State) L mc ms := by
      refine ⟨?_, q2, q3, q4, q5, q6⟩
      obtain ⟨t, ht, -⟩ := State.frames_cons hr
      show ({ U with heap := s₂.heap, slotsUsed := s₂.slotsUsed } : State) = { U.setFrames U.frames with heap := s₂.heap, slotsUsed := s₂.slotsUsed }
      rw [State.setFrames_self ht]
    subst hg
    refine Or.inr ⟨q, ⟨(({ U with heap := s₂.heap, slotsUsed := s₂.slotsUsed } : State).setVm s₂.vm), Ls ++ L, c0 + mc, s0 + ms⟩,
      ⟨X.admits, X.cas, X.clock, X.frames, X.room, X.hears, X.method, X.code, (X.here.setHeapUsed s₂.heap s₂.slotsUsed).setVm hW'.alike, X.tail, State.WarmedH.trans X.warmed hW', X.limits, X.bytes, X.same.trans (hsame.setVm s.vm)⟩,
      ⟨g, mk, s₂, L, E, ce, rfl, rfl, hx, hce, hcv, hcl, rfl, hL, rfl, rfl⟩, ?_⟩
    show Steps p.tables e below _ (((({ U with heap := s₂.heap, slotsUsed := s₂.slotsUsed } : State).setVm s₂.vm).setTop g).pushFrame (.throwing q))
    rw [← hs₂]
    exact hsteps
end
variable {p : Program} {l : Launch} {e : Env} {R : Room} {s : State} {m : MethodId} {args : Array Value} {below : List Frame} {meth : Method} {c : Code} {T : State} {H : Heap} {locs : List Loc} {cells slots : Nat}
theorem vx_callVX (X : Stand p l e R s m args below meth c T locs cells slots) (hexec : p.tables.exec = Jvm.exec) {own C : String} {index : Nat} {y : MethodName} {bytes : ByteArray} {maxL : Nat} {ret : Option FieldType} {hh : List (Nat × Nat × Nat × Nat)}
    (hown : s.vm.findClass own = some m.cls) (hlink : (Cond.methodLink own index y).before args s = true) (hinst : (Cond.instanceMethod y).before args s = true) (hsel : (Cond.selects C y y).before args s = true)
    (hcode : (Cond.codeWith y bytes maxL ret hh).before args s = true) (hy : y.cls ≠ "java/lang/invoke/MethodHandle" ∧ y.cls ≠ "java/lang/invoke/VarHandle")
    {W9 : Nat} {Pre : Pt → Array Value → Prop} {Post : Pt → Array Value → Option Value → Pt → Prop} {PostX : Pt → Array Value → Addr → Pt → Prop} (hK : vx_Back l R p e below s args y 3 W9 Pre Post PostX)
    {b : Addr} {cellB : Cell} (hcell : T.heap[b]? = some cellB) (hobj : cellB.vm.isStatics = false) (hcls : s.vm.findClass C = some cellB.cls)
    {g : JFrame} (hg : g.method = m) (hsize : g.locals.size = c.maxLocals) {argsL rest : List Value} (hlen : ∀ sig, parseMethodDescriptor y.desc = some sig → argsL.length = sig.parameters.length)
    (hstack : g.stack = argsL.reverse ++ .ref b :: rest) (hW : 2 * g.monitorRoom + (rest.map fun v => v.category).sum ≤ W9) (hdg : decode c.code g.pc = .ok (.invokevirtual index, 3))
    (hpre : ∀ vm₁, s.WarmedH vm₁ → Pre ⟨T.setVm vm₁, locs, cells, slots⟩ (Value.ref b :: argsL).toArray) :
    (∃ (v : Option Value) (vm₁ : Vm) (B : Pt), s.WarmedH vm₁ ∧ Stand p l e R s m args below meth c B.U B.locs B.cells B.slots ∧ Post ⟨T.setVm vm₁, locs, cells, slots⟩ (Value.ref b :: argsL).toArray v B ∧
      ∀ target, Steps p.tables e below (B.U.setTop { g with pc := g.pc + 3, stack := v.toList ++ rest }) target → Steps p.tables e below (T.setTop g) target) ∨
    (∃ (q : Addr) (vm₁ : Vm) (B : Pt), s.WarmedH vm₁ ∧ Stand p l e R s m args below meth c B.U B.locs B.cells B.slots ∧ PostX ⟨T.setVm vm₁, locs, cells, slots⟩ (Value.ref b :: argsL).toArray q B ∧
      Steps p.tables e below (T.setTop g) ((B.U.setTop { g with stack := rest }).pushFrame (.throwing q))) := by
  obtain ⟨mk, methM, hnamed, hmethM, hstM, habM⟩ := Cond.instanceMethod_spec hinst
  obtain ⟨m8, methM', cM, hn8, hmethM', -, -, -, -, -, -, hsigM⟩ := Cond.codeWith_spec hcode
  cases Option.some.inj (hn8.symm.trans hnamed)
  cases hmethM.symm.trans hmethM'
  obtain ⟨c2, r2, m2, q1, q2, q3, q4, kP, hkP, hkPi⟩ := Cond.selects_spec hsel
  cases hcls.symm.trans q1
  cases (State.methodFound?_of_named hnamed hy).symm.trans q2
  cases hnamed.symm.trans q3
  have hselP : selectMethod e.platform s.vm cellB.cls mk = .method mk := by rw [Launch.admits_selectMethod X.admits]; exact q4
  obtain ⟨vm₁, X₁, hstep₁⟩ := X.invokevirtual hexec hown hlink hnamed hmethM hstM hkP hkPi hy (a := b) (cell := cellB) hcell
    (fun z h => by rw [h] at hobj; cases hobj) hselP hmethM habM hkP hkPi (g := g) hg (argsL := argsL) (rest := rest) (hlen _ hsigM) hstack hdg
  rcases hK m meth c ⟨T.setVm vm₁, locs, cells, slots⟩ { g with stack := rest } (.invokevirtual index) mk (Value.ref b :: argsL).toArray X₁ hg hsize hdg hW (X₁.named hnamed) (hpre vm₁ X₁.warmed) with ⟨v, B, X', hpost, hsteps⟩ | ⟨q, B, X', hpost, hsteps⟩
  · exact Or.inl ⟨v, vm₁, B, X₁.warmed, X', hpost, fun target h => hstep₁ _ fun acts => by rw [doInvoke_state]; exact hsteps.trans h⟩
  · exact Or.inr ⟨q, vm₁, B, X₁.warmed, X', hpost, hstep₁ _ fun acts => by rw [doInvoke_state]; exact hsteps⟩
theorem vx_callSX (X : Stand p l e R s m args below meth c T locs cells slots) (hexec : p.tables.exec = Jvm.exec) {own : String} {index : Nat} {y : MethodName} {bytes : ByteArray} {maxL : Nat} {ret : Option FieldType} {hh : List (Nat × Nat × Nat × Nat)}
    (hown : s.vm.findClass own = some m.cls) (hlink : (Cond.methodLink own index y).before args s = true) (hstat : (Cond.static y).before args s = true) (hinit : (Cond.initialized y.cls).before args s = true)
    (hcode : (Cond.codeWith y bytes maxL ret hh).before args s = true) (hy : y.cls ≠ "java/lang/invoke/MethodHandle" ∧ y.cls ≠ "java/lang/invoke/VarHandle")
    {W9 : Nat} {Pre : Pt → Array Value → Prop} {Post : Pt → Array Value → Option Value → Pt → Prop} {PostX : Pt → Array Value → Addr → Pt → Prop} (hK : vx_Back l R p e below s args y 3 W9 Pre Post PostX)
    {g : JFrame} (hg : g.method = m) (hsize : g.locals.size = c.maxLocals) {argsL rest : List Value} (hlen : ∀ sig, parseMethodDescriptor y.desc = some sig → argsL.length = sig.parameters.length)
    (hstack : g.stack = argsL.reverse ++ rest) (hW : 2 * g.monitorRoom + (rest.map fun v => v.category).sum ≤ W9) (hdg : decode c.code g.pc = .ok (.invokestatic index, 3))
    (hpre : ∀ vm₁, s.WarmedH vm₁ → Pre ⟨T.setVm vm₁, locs, cells, slots⟩ argsL.toArray) :
    (∃ (v : Option Value) (vm₁ : Vm) (B : Pt), s.WarmedH vm₁ ∧ Stand p l e R s m args below meth c B.U B.locs B.cells B.slots ∧ Post ⟨T.setVm vm₁, locs, cells, slots⟩ argsL.toArray v B ∧
      ∀ target, Steps p.tables e below (B.U.setTop { g with pc := g.pc + 3, stack := v.toList ++ rest }) target → Steps p.tables e below (T.setTop g) target) ∨
    (∃ (q : Addr) (vm₁ : Vm) (B : Pt), s.WarmedH vm₁ ∧ Stand p l e R s m args below meth c B.U B.locs B.cells B.slots ∧ PostX ⟨T.setVm vm₁, locs, cells, slots⟩ argsL.toArray q B ∧
      Steps p.tables e below (T.setTop g) ((B.U.setTop { g with stack := rest }).pushFrame (.throwing q))) := by
  obtain ⟨mk, methM, cM, hnamed, hmethM, -, -, -, -, -, -, hsigM⟩ := Cond.codeWith_spec hcode
  have hstatic : methM.isStatic = true := Cond.static_spec hnamed hmethM hstat
  obtain ⟨kP, hkP, -⟩ := className_of_methodNamed hnamed
  have hinitP : kP.init = .initialized := Cond.initialized_spec (findClass_of_methodNamed hnamed) hkP hinit
  obtain ⟨vm₁, X₁, hstep₁⟩ := X.invokestatic hexec hown hlink hnamed hmethM hstatic hkP hinitP hy (g := g) hg (argsL := argsL) (rest := rest) (hlen _ hsigM) hstack hdg
  rcases hK m meth c ⟨T.setVm vm₁, locs, cells, slots⟩ { g with stack := rest } (.invokestatic index) mk argsL.toArray X₁ hg hsize hdg hW (X₁.named hnamed) (hpre vm₁ X₁.warmed) with ⟨v, B, X', hpost, hsteps⟩ | ⟨q, B, X', hpost, hsteps⟩
  · exact Or.inl ⟨v, vm₁, B, X₁.warmed, X', hpost, fun target h => hstep₁ _ fun acts => by rw [doInvoke_state]; exact hsteps.trans h⟩
  · exact Or.inr ⟨q, vm₁, B, X₁.warmed, X', hpost, hstep₁ _ fun acts => by rw [doInvoke_state]; exact hsteps⟩
theorem vx_callVW (X : Stand p l e R s m args below meth c T locs cells slots) (hexec : p.tables.exec = Jvm.exec) {own C : String} {index : Nat} {y : MethodName} {bytes : ByteArray} {maxL : Nat} {ret : Option FieldType} {hh : List (Nat × Nat × Nat × Nat)}
    (hown : s.vm.findClass own = some m.cls) (hlink : (Cond.methodLink own index y).before args s = true) (hinst : (Cond.instanceMethod y).before args s = true) (hsel : (Cond.selects C y y).before args s = true)
    (hcode : (Cond.codeWith y bytes maxL ret hh).before args s = true) (hy : y.cls ≠ "java/lang/invoke/MethodHandle" ∧ y.cls ≠ "java/lang/invoke/VarHandle")
    {W9 : Nat} {Pre : Pt → Array Value → Prop} {Post : Pt → Array Value → Option Value → Pt → Prop} (hK : Back l R p e below s args y 3 W9 Pre Post)
    {b : Addr} {cellB : Cell} (hcell : T.heap[b]? = some cellB) (hobj : cellB.vm.isStatics = false) (hcls : s.vm.findClass C = some cellB.cls)
    {g : JFrame} (hg : g.method = m) (hsize : g.locals.size = c.maxLocals) {argsL rest : List Value} (hlen : ∀ sig, parseMethodDescriptor y.desc = some sig → argsL.length = sig.parameters.length)
    (hstack : g.stack = argsL.reverse ++ .ref b :: rest) (hW : 2 * g.monitorRoom + (rest.map fun v => v.category).sum ≤ W9) (hdg : decode c.code g.pc = .ok (.invokevirtual index, 3))
    (hpre : ∀ vm₁, s.WarmedH vm₁ → Pre ⟨T.setVm vm₁, locs, cells, slots⟩ (Value.ref b :: argsL).toArray) :
    ∃ (v : Option Value) (vm₁ : Vm) (B : Pt), s.WarmedH vm₁ ∧ Stand p l e R s m args below meth c B.U B.locs B.cells B.slots ∧ Post ⟨T.setVm vm₁, locs, cells, slots⟩ (Value.ref b :: argsL).toArray v B ∧
      ∀ target, Steps p.tables e below (B.U.setTop { g with pc := g.pc + 3, stack := v.toList ++ rest }) target → Steps p.tables e below (T.setTop g) target := by
  obtain ⟨mk, methM, hnamed, hmethM, hstM, habM⟩ := Cond.instanceMethod_spec hinst
  obtain ⟨m8, methM', cM, hn8, hmethM', -, -, -, -, -, -, hsigM⟩ := Cond.codeWith_spec hcode
  cases Option.some.inj (hn8.symm.trans hnamed)
  cases hmethM.symm.trans hmethM'
  obtain ⟨c2, r2, m2, q1, q2, q3, q4, kP, hkP, hkPi⟩ := Cond.selects_spec hsel
  cases hcls.symm.trans q1
  cases (State.methodFound?_of_named hnamed hy).symm.trans q2
  cases hnamed.symm.trans q3
  have hselP : selectMethod e.platform s.vm cellB.cls mk = .method mk := by rw [Launch.admits_selectMethod X.admits]; exact q4
  obtain ⟨vm₁, X₁, hstep₁⟩ := X.invokevirtual hexec hown hlink hnamed hmethM hstM hkP hkPi hy (a := b) (cell := cellB) hcell
    (fun z h => by rw [h] at hobj; cases hobj) hselP hmethM habM hkP hkPi (g := g) hg (argsL := argsL) (rest := rest) (hlen _ hsigM) hstack hdg
  obtain ⟨v, B, X', hpost, hsteps⟩ := hK m meth c ⟨T.setVm vm₁, locs, cells, slots⟩ { g with stack := rest } (.invokevirtual index) mk (Value.ref b :: argsL).toArray X₁ hg hsize hdg hW (X₁.named hnamed) (hpre vm₁ X₁.warmed)
  exact ⟨v, vm₁, B, X₁.warmed, X', hpost, fun target h => hstep₁ _ fun acts => by rw [doInvoke_state]; exact hsteps.trans h⟩
abbrev vx_CVW (R : Room) (s : State) (args : Array Value) (own C : String) (index : Nat) (y : MethodName) (bytes : ByteArray) (maxL : Nat) (ret : Option FieldType) (hh : List (Nat × Nat × Nat × Nat)) (ws : List Cond) (rm : Room) (mc ms n : Nat) : Prop :=
  (rm.cells = mc ∧ rm.slots = ms ∧ rm.frames + 1 ≤ R.frames ∧ 8 + (maxL + 11) + rm.locals ≤ R.locals ∧ (∀ w ∈ ws, ∀ (a' : Array Value) (U : State), s.WarmedH U.vm → w.before a' U = true) ∧ Cond.codeWith y bytes maxL ret hh ∈ ws) ∧
  (Cond.codeWith y bytes maxL ret hh).before args s = true ∧ (Cond.initialized y.cls).before args s = true ∧ (y.cls ≠ "java/lang/invoke/MethodHandle" ∧ y.cls ≠ "java/lang/invoke/VarHandle") ∧
  (∀ sig, parseMethodDescriptor y.desc = some sig → n = sig.parameters.length) ∧ (Cond.methodLink own index y).before args s = true ∧ (Cond.instanceMethod y).before args s = true ∧ (Cond.selects C y y).before args s = true
theorem vx_cwVW {own C : String} {index maxL mc ms : Nat} {y : MethodName} {bytes : ByteArray} {ret : Option FieldType} {hh : List (Nat × Nat × Nat × Nat)} {Ts ws ws' : List Cond} {rm : Room} (n : Nat) (ht : ∀ w ∈ Ts, w.before args s = true) (hT : GoodIn Ts (wsV own index C y ws)) (hw : ws = Cond.codeWith y bytes maxL ret hh :: ws') (hrc : rm.cells = mc) (hrs : rm.slots = ms)
    (hd : y.cls = C ∧ y.cls ≠ "java/lang/invoke/MethodHandle" ∧ y.cls ≠ "java/lang/invoke/VarHandle" ∧ (parseMethodDescriptor y.desc).map (fun d => d.parameters.length) = some n) (hR : rm.frames + 1 ≤ R.frames ∧ 8 + (maxL + 11) + rm.locals ≤ R.locals) :
    vx_CVW R s args own C index y bytes maxL ret hh ws rm mc ms n := by
  obtain ⟨hC, hd⟩ := hd
  subst hC
  have ok : ∀ w ∈ wsV own index y.cls y ws, w.before args s = true := fun w h => ht w (hT w h).1
  have hG : GoodIn Ts ws := fun w h => hT w (by unfold wsV; exact List.mem_append_right _ h)
  have hc : Cond.codeWith y bytes maxL ret hh ∈ ws := by rw [hw]; exact List.mem_cons_self
  refine ⟨⟨hrc, hrs, hR.1, hR.2, pay_in ht hG, hc⟩, ht _ (hG _ hc).1, ok _ (by simp [wsV]), ⟨hd.1, hd.2.1⟩, fun sig h => ?_, ok _ (by simp [wsV]), ok _ (by simp [wsV]), ok _ (by simp [wsV])⟩
  have h2 := hd.2.2
  rw [h] at h2
  exact (Option.some.inj h2).symm
theorem vx_runVW {y : MethodName} {bytes cc : ByteArray} {maxL nL mc ms n index : Nat} {ret : Option FieldType} {hh : List (Nat × Nat × Nat × Nat)} {ws : List Cond} {rm : Room} {Pc : Array Value → State → Prop} {Qc : Array Value → State → Outcome → State → Prop} {free : Addr → Prop} {Ts : List Cond} {own C : String} {b : Addr} {As rest : List Value} {g : JFrame}
    (S : CallFix p m c cc nL s args Ts own) (hM : Met l y ws rm Pc Qc mc ms free) (cw : vx_CVW R s args own C index y bytes maxL ret hh ws rm mc ms n) (hp : PreV s H C b Pc As)
    (hg : g.method = m) (hn : As.length = n) (hsize : g.locals.size = nL) (hstack : g.stack = As.reverse ++ .ref b :: rest) (hW : 2 * g.monitorRoom + (rest.map fun v => v.category).sum ≤ 8) (hdg : decode cc g.pc = .ok (.invokevirtual index, 3)) (hf : cells + mc ≤ R.cells ∧ slots + ms ≤ R.slots) :
    va_Run p l e R s m args below meth c H locs cells slots mc ms g rest (Qc (Value.ref b :: As).toArray) free := by
  obtain ⟨⟨hrc, hrs, hfr, hlo, hws, hcw⟩, hcode, hini, hy, hlen, hl, hin, hse⟩ := cw
  have hK : Back l R p e below s args y 3 8 (PreOf R mc ms Pc) (PostOf Qc mc ms free) := va_backW (hh := hh) (bytes := bytes) (maxL := maxL) (ret := ret) hM hp.1 hrc hrs hfr hlo hws hcw (fun a' U hW => word_at hW (Or.inl (by first | rfl | simp [Cond.onTables, Cond.keeps, Cond.steady])) hini)
  obtain ⟨hx, hb, hml, ho, -⟩ := S
  obtain ⟨-, ⟨cellB, hcB, hoB, hclB⟩, hPc⟩ := hp
  intro T hT X
  obtain ⟨v, vm₁, ⟨U', l2, c2, s2⟩, hW₁, X', ⟨g', mk, t, L, e1, e2, hq, h1, hL, h2, h3⟩, st⟩ := vx_callVW X hx (C := C) (hh := hh) (bytes := bytes) (maxL := maxL) (ret := ret) ho hl hin hse hcode hy hK (by rw [hT]; exact hcB) hoB hclB hg (hsize.trans hml.symm) (argsL := As) (rest := rest) (fun sig h => hn.trans (hlen sig h)) hstack hW (by rw [hb]; exact hdg)
    (fun vm₁ hW₁ => ⟨hf.1, hf.2, hPc (T.setVm vm₁) hT hW₁⟩)
  dsimp only [Pt.U, Pt.locs, Pt.cells, Pt.slots] at X' e1 e2 h1 h2 h3 st
  subst h1; subst h2; subst h3
  exact ⟨v, (T.setVm vm₁).calling g' mk (Value.ref b :: As).toArray, t, U', L, hT, X', hL, e1, e2, hq, st⟩
section
variable {y : MethodName} {bytes cc : ByteArray} {maxL nL mc ms n index : Nat} {ret : Option FieldType} {ws : List Cond} {rm : Room} {Pc : Array Value → State → Prop} {Qc : Array Value → State → Outcome → State → Prop} {XC : String → State → State → Prop} {free : Addr → Prop} {Ts : List Cond} {own C : String} {b : Addr} {As rest : List Value} {g : JFrame}
theorem vx_runVX {hh : List (Nat × Nat × Nat × Nat)} (S : CallFix p m c cc nL s args Ts own) (hM : vx_Met l y ws rm Pc Qc XC mc ms free) (cw : vx_CVW R s args own C index y bytes maxL ret hh ws rm mc ms n) (hp : PreV s H C b Pc As)
    (hg : g.method = m) (hn : As.length = n) (hsize : g.locals.size = nL) (hstack : g.stack = As.reverse ++ .ref b :: rest) (hW : 2 * g.monitorRoom + (rest.map fun v => v.category).sum ≤ 8) (hdg : decode cc g.pc = .ok (.invokevirtual index, 3)) (hf : cells + mc ≤ R.cells ∧ slots + ms ≤ R.slots) :
    vx_Run p l e R s m args below meth c H locs cells slots mc ms g rest (Qc (Value.ref b :: As).toArray) XC free := by
  obtain ⟨⟨hrc, hrs, hfr, hlo, hws, hcw⟩, hcode, hini, hy, hlen, hl, hin, hse⟩ := cw
  have hK : vx_Back l R p e below s args y 3 8 (PreOf R mc ms Pc) (PostOf Qc mc ms free) (vx_Post XC mc ms free) := vx_backW (hh := hh) (bytes := bytes) (maxL := maxL) (ret := ret) hM hp.1 hrc hrs hfr hlo hws hcw (fun a' U hW => word_at hW (Or.inl (by first | rfl | simp [Cond.onTables, Cond.keeps, Cond.steady])) hini)
  obtain ⟨hx, hb, hml, ho, -⟩ := S
  obtain ⟨-, ⟨cellB, hcB, hoB, hclB⟩, hPc⟩ := hp
  intro T hT X
  rcases vx_callVX X hx (C := C) (hh := hh) (bytes := bytes) (maxL := maxL) (ret := ret) ho hl hin hse hcode hy hK (by rw [hT]; exact hcB) hoB hclB hg (hsize.trans hml.symm) (argsL := As) (rest := rest) (fun sig h => hn.trans (hlen sig h)) hstack hW (by rw [hb]; exact hdg)
    (fun vm₁ hW₁ => ⟨hf.1, hf.2, hPc (T.setVm vm₁) hT hW₁⟩) with ⟨v, vm₁, ⟨U', l2, c2, s2⟩, hW₁, X', ⟨g', mk, t, L, e1, e2, hq, h1, hL, h2, h3⟩, st⟩ | ⟨q, vm₁, ⟨U', l2, c2, s2⟩, hW₁, X', ⟨g', mk, t, L, E, ce, e1, e2, hq, hce, hcv, hcl, h1, hL, h2, h3⟩, st⟩
  · dsimp only [Pt.U, Pt.locs, Pt.cells, Pt.slots] at X' e1 e2 h1 h2 h3 st
    subst h1; subst h2; subst h3
    exact Or.inl ⟨v, (T.setVm vm₁).calling g' mk (Value.ref b :: As).toArray, t, U', L, hT, X', hL, e1, e2, hq, st⟩
  · dsimp only [Pt.U, Pt.locs, Pt.cells, Pt.slots] at X' e1 e2 h1 h2 h3 st hcl
    subst h1; subst h2; subst h3
    exact Or.inr ⟨q, (T.setVm vm₁).calling g' mk (Value.ref b :: As).toArray, t, U', L, E, ce, hT, X', hL, e1, e2, hq, hce, hcv, vx_cls hW₁ hcl, st⟩
theorem vx_runSX {hh : List (Nat × Nat × Nat × Nat)} (S : CallFix p m c cc nL s args Ts own) (hM : vx_Met l y ws rm Pc Qc XC mc ms free) (cw : vx_CSW R s args own index y bytes maxL ret hh ws rm mc ms n) (hp : PreS s H Pc As)
    (hg : g.method = m) (hn : As.length = n) (hsize : g.locals.size = nL) (hstack : g.stack = As.reverse ++ rest) (hW : 2 * g.monitorRoom + (rest.map fun v => v.category).sum ≤ 8) (hdg : decode cc g.pc = .ok (.invokestatic index, 3)) (hf : cells + mc ≤ R.cells ∧ slots + ms ≤ R.slots) :
    vx_Run p l e R s m args below meth c H locs cells slots mc ms g rest (Qc As.toArray) XC free := by
  obtain ⟨⟨hrc, hrs, hfr, hlo, hws, hcw⟩, hcode, hini, hy, hlen, hl, hstt⟩ := cw
  have hK : vx_Back l R p e below s args y 3 8 (PreOf R mc ms Pc) (PostOf Qc mc ms free) (vx_Post XC mc ms free) := vx_backW (hh := hh) (bytes := bytes) (maxL := maxL) (ret := ret) hM hp.1 hrc hrs hfr hlo hws hcw (fun a' U hW => word_at hW (Or.inl (by first | rfl | simp [Cond.onTables, Cond.keeps, Cond.steady])) hini)
  obtain ⟨hx, hb, hml, ho, -⟩ := S
  intro T hT X
  rcases vx_callSX X hx (hh := hh) (bytes := bytes) (maxL := maxL) (ret := ret) ho hl hstt hini hcode hy hK hg (hsize.trans hml.symm) (argsL := As) (rest := rest) (fun sig h => hn.trans (hlen sig h)) hstack hW (by rw [hb]; exact hdg)
    (fun vm₁ hW₁ => ⟨hf.1, hf.2, hp.2 (T.setVm vm₁) hT hW₁⟩) with ⟨v, vm₁, ⟨U', l2, c2, s2⟩, hW₁, X', ⟨g', mk, t, L, e1, e2, hq, h1, hL, h2, h3⟩, st⟩ | ⟨q, vm₁, ⟨U', l2, c2, s2⟩, hW₁, X', ⟨g', mk, t, L, E, ce, e1, e2, hq, hce, hcv, hcl, h1, hL, h2, h3⟩, st⟩
  · dsimp only [Pt.U, Pt.locs, Pt.cells, Pt.slots] at X' e1 e2 h1 h2 h3 st
    subst h1; subst h2; subst h3
    exact Or.inl ⟨v, (T.setVm vm₁).calling g' mk As.toArray, t, U', L, hT, X', hL, e1, e2, hq, st⟩
  · dsimp only [Pt.U, Pt.locs, Pt.cells, Pt.slots] at X' e1 e2 h1 h2 h3 st hcl
    subst h1; subst h2; subst h3
    exact Or.inr ⟨q, (T.setVm vm₁).calling g' mk As.toArray, t, U', L, E, ce, hT, X', hL, e1, e2, hq, hce, hcv, vx_cls hW₁ hcl, st⟩
end
end VXH
theorem vx_ofWH {l : Launch} {y : MethodName} {ws ws' : List Cond} {rm : Room} {Pc : Array Value → State → Prop} {Qc : Array Value → State → Outcome → State → Prop} {XC : String → State → State → Prop} {mc ms : Nat} {free : Addr → Prop} {cc : ByteArray} {maxL : Nat} {ret : Option FieldType} {hh : List (Nat × Nat × Nat × Nat)}
    (hy : plainName y.cls = true) (hw : ws = Cond.codeWith y cc maxL ret hh :: ws')
    (body : ∀ p e s m args below meth c s₁, BodyLoose p l y (headSpec ws rm) cc maxL ret e s m args below meth c s₁ → c.maxLocals = maxL → Pc args s →
      W p l e (headSpec ws rm).room s m args below meth c s.heap [] 0 0 (vx_MQ below Qc XC args s mc ms free) (entryFrame m args maxL)) : vx_Met l y ws rm Pc Qc XC mc ms free := by
  refine MetFree.of_bodyS (code := cc) (maxLocals := maxL) (ret := ret) hy ?_ ?_
  · intro args s m h hn
    obtain ⟨m9, meth, c, hn9, h1, h2, h3, h4, -, h5, h6, -⟩ := Cond.codeWith_spec (atoms_spec (ws := ws) h _ (by rw [hw]; exact List.mem_cons_self))
    cases hn.symm.trans hn9
    exact ⟨meth, c, h1, h2, h3, h4, h5, h6⟩
  · intro p e s m args below meth c s₁ B hml hP _
    have hh0 : s₁.heap = s.heap := by rw [B.state]; rfl
    obtain ⟨t, a1, o, b1, b2, b3⟩ := body p e s m args below meth c s₁ B hml hP s₁ hh0 (Stand.of_body B)
    exact ⟨t, o, a1, b1, b2, b3⟩
/-! ===== END ===== -/
end
section
def RX0 : String := "RootCompass$Cut"
def TX0 : u_T := fun k => match k with
  | 0 => ("RootCompass$Cut", "a", "I", false)
  | 1 => ("RootCompass$Cut", "b", "I", false)
  | 2 => ("RootCompass$Cut", "c", "I", false)
  | 3 => ("RootCompass$Cut", "x", "I", false)
  | 4 => ("RootCompass$Cut", "y", "I", false)
  | 5 => ("RootCompass$Cut", "e", "I", false)
  | _ => ("RootCompass$Cut", "m", "I", false)
def tyX0 : Nat → FieldType := fun k => match k with
  | 0 => .int
  | 1 => .int
  | 2 => .int
  | 3 => .int
  | 4 => .int
  | 5 => .int
  | _ => .int
abbrev wsX00 : List Cond := u_ws RX0 TX0 7
theorem nmX0 : ∀ a, a < 7 → ∀ b, b < 7 → a ≠ b → (TX0 a).2.1 ≠ (TX0 b).2.1 := by decide +kernel
theorem tyX0_ok : ∀ k, k < 7 → parseFieldDescriptor (TX0 k).2.2.1 = some (tyX0 k) := by decide +kernel
def RX1 : String := "RootCompass$Numbers"
def TX1 : u_T := fun k => match k with
  | 0 => ("RootCompass$Numbers", "over", "[I", true)
  | 1 => ("RootCompass$Numbers", "under", "[I", true)
  | 2 => ("RootCompass$Numbers", "work", "I", true)
  | 3 => ("RootCompass$Numbers", "next", "I", false)
  | 4 => ("RootCompass$Numbers", "depth", "I", false)
  | _ => ("RootCompass$Numbers", "failed", "Z", false)
def tyX1 : Nat → FieldType := fun k => match k with
  | 0 => .array .int
  | 1 => .array .int
  | 2 => .int
  | 3 => .int
  | 4 => .int
  | _ => .boolean
abbrev wsX10 : List Cond := u_ws RX1 TX1 6
theorem nmX1 : ∀ a, a < 6 → ∀ b, b < 6 → a ≠ b → (TX1 a).2.1 ≠ (TX1 b).2.1 := by decide +kernel
theorem tyX1_ok : ∀ k, k < 6 → parseFieldDescriptor (TX1 k).2.2.1 = some (tyX1 k) := by decide +kernel
def RX2 : String := "RootCompass"
def TX2 : u_T := fun k => match k with
  | 0 => ("RootCompass", "numbers", "LRootCompass$Numbers;", true)
  | 1 => ("RootCompass", "cut", "LRootCompass$Cut;", true)
  | 2 => ("RootCompass", "step", "[I", true)
  | 3 => ("RootCompass", "first", "[I", true)
  | 4 => ("RootCompass", "second", "[I", true)
  | 5 => ("RootCompass", "third", "[I", true)
  | 6 => ("RootCompass", "depthBefore", "[I", true)
  | _ => ("RootCompass", "count", "I", false)
def tyX2 : Nat → FieldType := fun k => match k with
  | 0 => .object "RootCompass$Numbers"
  | 1 => .object "RootCompass$Cut"
  | 2 => .array .int
  | 3 => .array .int
  | 4 => .array .int
  | 5 => .array .int
  | 6 => .array .int
  | _ => .int
abbrev wsX20 : List Cond := u_ws RX2 TX2 8
theorem nmX2 : ∀ a, a < 8 → ∀ b, b < 8 → a ≠ b → (TX2 a).2.1 ≠ (TX2 b).2.1 := by decide +kernel
theorem tyX2_ok : ∀ k, k < 8 → parseFieldDescriptor (TX2 k).2.2.1 = some (tyX2 k) := by decide +kernel
end
section
/-! THE SMALL MACHINE: it runs the same instructions over a world whose cells have numbers (places) in the stead of addresses; mm_sound (part 03) says once and for all that what it does the machine does. -/
abbrev mm_M : Type := List va_E
abbrev mm_L : Type := List (Nat × Value)
/-- pc, locals, operand stack, world, cells made by throws so far -/
abbrev mm_St : Type := Nat × mm_L × List Value × mm_M × Nat
/-- an end: an answer, or the name of what was thrown -/
abbrev mm_R : Type := Option Value ⊕ String
/-- a step: goes on; goes on if something holds; several ways, each with its condition; the end; a call -/
abbrev mm_N : Type := mm_St ⊕ (Prop × mm_St) ⊕ List (Prop × mm_St) ⊕ (Prop × mm_R × mm_M × Nat) ⊕ (Nat × List Value × mm_M × (Option Value → mm_M → mm_St) × Nat)
/-- a method: code (pc, instruction, length); fields (pool entry, class, slot, 0 an int, 1 a boolean, 2 only read); constants (pool entry, value); calls (pool entry, method, values taken, class of the receiver or 99); throws (pc, exception) -/
abbrev mm_P : Type := List (Nat × Instr × Nat) × List (Nat × Nat × Nat × Nat) × List (Nat × Value) × List (Nat × Nat × Nat × Nat) × List (Nat × String)
def mm_lk {α : Type} : List (Nat × α) → Nat → Option α
  | [], _ => none
  | (a, b) :: t, k => cond (Nat.beq a k) (some b) (mm_lk t k)
def mm_s1 (L : mm_L) (i : Nat) (v : Value) : mm_L := (i, v) :: L.filter (fun q => !(q.1 == i) && !(q.1 + 1 == i && q.2.category == 2))
def mm_s2 (L : mm_L) (i : Nat) (v : Value) : mm_L := (i, v) :: L.filter (fun q => !(q.1 == i) && (!(q.1 == i + 1) && !(q.1 + 1 == i && q.2.category == 2)))
def mm_tg (pc : Nat) (off : Int) : Option Nat := match (pc : Int) + off with
  | .ofNat t => some t
  | .negSucc _ => none
def mm_g (s : mm_St) : Option mm_N := some (.inl s)
def mm_n (c : Prop) (s : mm_St) : Option mm_N := some (.inr (.inl (c, s)))
def mm_b (c : Prop) (s t : mm_St) : Option mm_N := some (.inr (.inr (.inl [(c, s), (¬ c, t)])))
def mm_e (c : Prop) (r : mm_R) (M : mm_M) (u : Nat) : Option mm_N := some (.inr (.inr (.inr (.inl (c, r, M, u)))))
/-- the ways of a tableswitch -/
def mm_tw (x : Int32) (pc : Nat) (L : mm_L) (r : List Value) (M : mm_M) (u : Nat) : Int → List Int → Option (List (Prop × mm_St))
  | _, [] => some []
  | k, o :: os => (mm_tg pc o).bind fun t => (mm_tw x pc L r M u (k + 1) os).map fun w => (x.toInt = k, (t, L, r, M, u)) :: w
def mm_i1 (S : List Value) (f : Int32 → List Value → Option mm_N) : Option mm_N := match S with
  | .int x :: r => f x r
  | _ => none
def mm_i2 (S : List Value) (f : Int32 → Int32 → List Value → Option mm_N) : Option mm_N := match S with
  | .int y :: .int x :: r => f y x r
  | _ => none
def mm_l1 (S : List Value) (f : Int64 → List Value → Option mm_N) : Option mm_N := match S with
  | .long x :: r => f x r
  | _ => none
def mm_l2 (S : List Value) (f : Int64 → Int64 → List Value → Option mm_N) : Option mm_N := match S with
  | .long y :: .long x :: r => f y x r
  | _ => none
def mm_li (L : mm_L) (i : Nat) (f : Int32 → Option mm_N) : Option mm_N := match mm_lk L i with
  | some (.int x) => f x
  | _ => none
def mm_ll (L : mm_L) (i : Nat) (f : Int64 → Option mm_N) : Option mm_N := match mm_lk L i with
  | some (.long x) => f x
  | _ => none
def mm_la (L : mm_L) (i : Nat) (f : Nat → Option mm_N) : Option mm_N := match mm_lk L i with
  | some (.ref x) => f x
  | _ => none
/-- an array of ints, of longs, at a place; an object of a class -/
def mm_ai (M : mm_M) (a : Nat) (f : Nat → (Nat → Int32) → Option mm_N) : Option mm_N := match M[a]? with
  | some (.inl (0, n, .inl z)) => f n z
  | _ => none
def mm_al (M : mm_M) (a : Nat) (f : Nat → (Nat → Int64) → Option mm_N) : Option mm_N := match M[a]? with
  | some (.inl (1, n, .inr (.inl z))) => f n z
  | _ => none
def mm_ob (M : mm_M) (a ci : Nat) (f : List Value → Option mm_N) : Option mm_N := match M[a]? with
  | some (.inr (c, fs)) => cond (Nat.beq c ci) (f fs) none
  | _ => none
def mm_bc (k : Jvm.ClassFile.Cond) (x y : Int32) (s t : mm_St) : Option mm_N := match k with
  | .eq => mm_b (x = y) s t
  | .ne => mm_b (x = y) t s
  | .lt => mm_b (x < y) s t
  | .ge => mm_b (y ≤ x) s t
  | .gt => mm_b (y < x) s t
  | .le => mm_b (x ≤ y) s t
/-- what a boolean cell or answer may hold -/
def mm_z (x : Int32) : Prop := x = 0 ∨ x = 1
def mm_put (P : mm_P) (k pc : Nat) (L : mm_L) (S : List Value) (M : mm_M) (u : Nat) : Option mm_N := match S with
  | .int x :: .ref a :: r => match mm_lk P.2.1 k with
    | some (ci, i, z) => mm_ob M a ci fun fs => cond (Nat.blt i fs.length)
        (match z with
          | 0 => mm_g (pc + 3, L, r, M.set a (.inr (ci, fs.set i (.int x))), u)
          | 1 => mm_n (mm_z x) (pc + 3, L, r, M.set a (.inr (ci, fs.set i (.int x))), u)
          | _ => none) none
    | none => none
  | _ => none
def mm_get (P : mm_P) (k pc : Nat) (L : mm_L) (S : List Value) (M : mm_M) (u : Nat) : Option mm_N := match S with
  | .ref a :: r => match mm_lk P.2.1 k with
    | some (ci, i, _) => mm_ob M a ci fun fs => match fs[i]? with
      | some v => mm_g (pc + 3, L, v :: r, M, u)
      | none => none
    | none => none
  | _ => none
def mm_cat (S : List Value) : Nat := (S.map fun v => v.category).sum
/-- System.arraycopy within or between int arrays -/
def mm_cp (pc : Nat) (L : mm_L) (S : List Value) (M : mm_M) (u : Nat) : Option mm_N := match S with
  | .int n :: .int dp :: .ref a :: .int sp :: .ref a0 :: r => mm_ai M a0 fun n0 f => mm_ai M a fun n1 g =>
      cond (Nat.ble (mm_cat r) 8) (mm_n (¬ sp < 0 ∧ ¬ dp < 0 ∧ ¬ n < 0 ∧ sp.toNatClampNeg + n.toNatClampNeg ≤ n0 ∧ dp.toNatClampNeg + n.toNatClampNeg ≤ n1)
        (pc + 3, L, r, M.set a (.inl (0, n1, .inl (va_cpy f g sp.toNatClampNeg dp.toNatClampNeg n.toNatClampNeg))), u)) none
  | _ => none
/-- a call: 98 is System.arraycopy -/
def mm_cl (P : mm_P) (bt : Nat → Nat) (st : Bool) (k pc : Nat) (L : mm_L) (S : List Value) (M : mm_M) (u : Nat) : Option mm_N := match mm_lk P.2.2.2.1 k with
  | none => none
  | some (j, n, ci) => cond (Nat.beq ci 98) (cond st (mm_cp pc L S M u) none)
      (cond (Nat.ble n S.length && Nat.ble (mm_cat (S.drop n)) 8 && (cond st (Nat.beq ci 99) (!(Nat.beq ci 99) && match (S.take n).reverse with
        | .ref a :: _ => match M[a]? with
          | some (.inr (c, _)) => Nat.beq c ci
          | _ => false
        | _ => false)))
        (some (.inr (.inr (.inr (.inr (j, (S.take n).reverse, M, (fun v M' => (pc + 3, L, v.toList ++ S.drop n, M', u + bt j)), u + bt j)))))) none)
def mm_do (P : mm_P) (bt : Nat → Nat) (ret : Option FieldType) (nL pc : Nat) (L : mm_L) (S : List Value) (M : mm_M) (u : Nat) (i : Instr) : Option mm_N := match i with
  | .iconst n => mm_g (pc + 1, L, .int (Int32.ofInt n) :: S, M, u)
  | .bipush n => mm_g (pc + 2, L, .int (Int8.ofInt n).toInt32 :: S, M, u)
  | .sipush n => mm_g (pc + 3, L, .int (Int16.ofInt n).toInt32 :: S, M, u)
  | .lconst n => mm_g (pc + 1, L, .long (Int64.ofNat (n : Nat)) :: S, M, u)
  | .ldc k => match mm_lk P.2.2.1 k with
    | some (.int x) => mm_g (pc + 2, L, .int x :: S, M, u)
    | _ => none
  | .ldc2_w k => match mm_lk P.2.2.1 k with
    | some (.long x) => mm_g (pc + 3, L, .long x :: S, M, u)
    | _ => none
  | .iload_n k => mm_li L k.val fun x => mm_g (pc + 1, L, .int x :: S, M, u)
  | .iload k => mm_li L k fun x => mm_g (pc + 2, L, .int x :: S, M, u)
  | .lload_n k => mm_ll L k.val fun x => mm_g (pc + 1, L, .long x :: S, M, u)
  | .lload k => mm_ll L k fun x => mm_g (pc + 2, L, .long x :: S, M, u)
  | .aload_n k => mm_la L k.val fun x => mm_g (pc + 1, L, .ref x :: S, M, u)
  | .aload k => mm_la L k fun x => mm_g (pc + 2, L, .ref x :: S, M, u)
  | .istore_n k => mm_i1 S fun x r => cond (Nat.blt k.val nL) (mm_g (pc + 1, mm_s1 L k.val (.int x), r, M, u)) none
  | .istore k => mm_i1 S fun x r => cond (Nat.blt k nL) (mm_g (pc + 2, mm_s1 L k (.int x), r, M, u)) none
  | .lstore_n k => mm_l1 S fun x r => cond (Nat.blt (k.val + 1) nL) (mm_g (pc + 1, mm_s2 L k.val (.long x), r, M, u)) none
  | .lstore k => mm_l1 S fun x r => cond (Nat.blt (k + 1) nL) (mm_g (pc + 2, mm_s2 L k (.long x), r, M, u)) none
  | .iinc k n => mm_li L k fun x => cond (Nat.blt k nL) (mm_g (pc + 3, mm_s1 L k (.int (x + Int32.ofInt n)), S, M, u)) none
  | .iadd => mm_i2 S fun y x r => mm_g (pc + 1, L, .int (x + y) :: r, M, u)
  | .isub => mm_i2 S fun y x r => mm_g (pc + 1, L, .int (x - y) :: r, M, u)
  | .imul => mm_i2 S fun y x r => mm_g (pc + 1, L, .int (x * y) :: r, M, u)
  | .iand => mm_i2 S fun y x r => mm_g (pc + 1, L, .int (x &&& y) :: r, M, u)
  | .ishl => mm_i2 S fun y x r => mm_g (pc + 1, L, .int (x <<< (y &&& 31)) :: r, M, u)
  | .ishr => mm_i2 S fun y x r => mm_g (pc + 1, L, .int (x >>> (y &&& 31)) :: r, M, u)
  | .ineg => mm_i1 S fun x r => mm_g (pc + 1, L, .int (-x) :: r, M, u)
  | .ladd => mm_l2 S fun y x r => mm_g (pc + 1, L, .long (x + y) :: r, M, u)
  | .lsub => mm_l2 S fun y x r => mm_g (pc + 1, L, .long (x - y) :: r, M, u)
  | .lmul => mm_l2 S fun y x r => mm_g (pc + 1, L, .long (x * y) :: r, M, u)
  | .lneg => mm_l1 S fun x r => mm_g (pc + 1, L, .long (-x) :: r, M, u)
  | .ldiv => mm_l2 S fun y x r => mm_n (¬ y = 0) (pc + 1, L, .long (x / y) :: r, M, u)
  | .lrem => mm_l2 S fun y x r => mm_n (¬ y = 0) (pc + 1, L, .long (x - x / y * y) :: r, M, u)
  | .lcmp => mm_l2 S fun y x r => mm_g (pc + 1, L, .int (lg_cmp x y) :: r, M, u)
  | .i2l => mm_i1 S fun x r => mm_g (pc + 1, L, .long x.toInt64 :: r, M, u)
  | .l2i => mm_l1 S fun x r => mm_g (pc + 1, L, .int x.toInt32 :: r, M, u)
  | .dup => match S with
    | .int x :: r => mm_g (pc + 1, L, .int x :: .int x :: r, M, u)
    | .ref x :: r => mm_g (pc + 1, L, .ref x :: .ref x :: r, M, u)
    | _ => none
  | .pop => mm_i1 S fun _ r => mm_g (pc + 1, L, r, M, u)
  | .ifCond k o => mm_i1 S fun x r => (mm_tg pc o).bind fun t => mm_bc k x 0 (t, L, r, M, u) (pc + 3, L, r, M, u)
  | .if_icmp k o => mm_i2 S fun y x r => (mm_tg pc o).bind fun t => mm_bc k x y (t, L, r, M, u) (pc + 3, L, r, M, u)
  | .goto o => (mm_tg pc o).bind fun t => mm_g (t, L, S, M, u)
  | .tableswitch d lo hi os => mm_i1 S fun x r => cond (decide (hi = lo + (os.size : Int) - 1)) ((mm_tg pc d).bind fun t => (mm_tw x pc L r M u lo os.toList).bind fun w =>
      some (.inr (.inr (.inl (w ++ [((x.toInt < lo ∨ hi < x.toInt), (t, L, r, M, u))]))))) none
  | .getfield k => mm_get P k pc L S M u
  | .putfield k => mm_put P k pc L S M u
  | .iaload => match S with
    | .int x :: .ref a :: r => mm_ai M a fun n f => mm_n (vp_in x n) (pc + 1, L, .int (f x.toNatClampNeg) :: r, M, u)
    | _ => none
  | .laload => match S with
    | .int x :: .ref a :: r => mm_al M a fun n f => mm_n (vp_in x n) (pc + 1, L, .long (f x.toNatClampNeg) :: r, M, u)
    | _ => none
  | .iastore => match S with
    | .int v :: .int x :: .ref a :: r => mm_ai M a fun n f => mm_n (vp_in x n) (pc + 1, L, r, M.set a (.inl (0, n, .inl (upd f x.toNatClampNeg v))), u)
    | _ => none
  | .lastore => match S with
    | .long v :: .int x :: .ref a :: r => mm_al M a fun n f => mm_n (vp_in x n) (pc + 1, L, r, M.set a (.inl (1, n, .inr (.inl (vp_updL f x.toNatClampNeg v)))), u)
    | _ => none
  | .arraylength => match S with
    | .ref a :: r => mm_ai M a fun n _ => mm_g (pc + 1, L, .int (Int32.ofNat n) :: r, M, u)
    | _ => none
  | .invokevirtual k => mm_cl P bt false k pc L S M u
  | .invokestatic k => mm_cl P bt true k pc L S M u
  | .ireturn => match S with
    | [.int x] => match ret with
      | some .int => mm_e True (.inl (some (.int x))) M u
      | some .boolean => mm_e (mm_z x) (.inl (some (.int x))) M u
      | _ => none
    | _ => none
  | .lreturn => match S, ret with
    | [.long x], some .long => mm_e True (.inl (some (.long x))) M u
    | _, _ => none
  | .return_ => match S, ret with
    | [], none => mm_e True (.inl none) M u
    | _, _ => none
  | .new _ => match S, mm_lk P.2.2.2.2 pc with
    | [], some E => mm_e True (.inr E) M (u + 1)
    | _, _ => none
  | _ => none
def mm_next (P : mm_P) (bt : Nat → Nat) (ret : Option FieldType) (nL : Nat) (q : mm_St) : Option mm_N := match mm_lk P.1 q.1 with
  | none => none
  | some i => mm_do P bt ret nL q.1 q.2.1 q.2.2.1 q.2.2.2.1 q.2.2.2.2 i.1
/-- every way whose condition holds -/
def mm_all (X : mm_St → Prop) : List (Prop × mm_St) → Prop
  | [] => True
  | q :: t => (q.1 → X q.2) ∧ mm_all X t
abbrev mm_K : Type := Nat → List Value → mm_M → (mm_R → mm_M → Prop) → Prop
def mm_go (K : mm_K) (b : Nat) (Q : mm_R → mm_M → Prop) (X : mm_St → Prop) : Option mm_N → Prop
  | none => False
  | some (.inl s) => X s
  | some (.inr (.inl q)) => q.1 ∧ X q.2
  | some (.inr (.inr (.inl l))) => mm_all X l
  | some (.inr (.inr (.inr (.inl q)))) => q.1 ∧ q.2.2.2 ≤ b ∧ Q q.2.1 q.2.2.1
  | some (.inr (.inr (.inr (.inr q)))) => q.2.2.2.2 ≤ b ∧ K q.1 q.2.1 q.2.2.1 (fun r M' => match r with
      | .inl v => X (q.2.2.2.1 v M')
      | .inr E => Q (.inr E) M')
/-- from st the small machine comes to an end, and it is one of Q -/
def mm_W (K : mm_K) (P : mm_P) (bt : Nat → Nat) (b : Nat) (ret : Option FieldType) (nL : Nat) (Q : mm_R → mm_M → Prop) (st : mm_St) : Prop :=
  ∀ X : mm_St → Prop, (∀ s, mm_go K b Q X (mm_next P bt ret nL s) → X s) → X st
def mm_mono (K : mm_K) : Prop := ∀ (j : Nat) (a : List Value) (M : mm_M) (Q Q' : mm_R → mm_M → Prop), (∀ r M', Q r M' → Q' r M') → K j a M Q → K j a M Q'
theorem mm_all_mono {X Y : mm_St → Prop} (h : ∀ s, X s → Y s) : ∀ l, mm_all X l → mm_all Y l
  | [], _ => trivial
  | _ :: t, ⟨a, b⟩ => ⟨fun c => h _ (a c), mm_all_mono h t b⟩
theorem mm_go_mono {K : mm_K} (hK : mm_mono K) {b : Nat} {Q Q' : mm_R → mm_M → Prop} {X Y : mm_St → Prop} (hQ : ∀ r M', Q r M' → Q' r M') (h : ∀ s, X s → Y s) : ∀ o, mm_go K b Q X o → mm_go K b Q' Y o
  | none, a => a
  | some (.inl _), a => h _ a
  | some (.inr (.inl _)), a => ⟨a.1, h _ a.2⟩
  | some (.inr (.inr (.inl l))), a => mm_all_mono h l a
  | some (.inr (.inr (.inr (.inl _)))), a => ⟨a.1, a.2.1, hQ _ _ a.2.2⟩
  | some (.inr (.inr (.inr (.inr _)))), a => ⟨a.1, hK _ _ _ _ _ (fun r M' q => by
      cases r with
      | inl v => exact h _ q
      | inr E => exact hQ _ _ q) a.2⟩
section MMW
variable {K : mm_K} {P : mm_P} {bt : Nat → Nat} {b : Nat} {ret : Option FieldType} {nL : Nat} {Q : mm_R → mm_M → Prop}
theorem mm_fold (hK : mm_mono K) {st : mm_St} (h : mm_go K b Q (mm_W K P bt b ret nL Q) (mm_next P bt ret nL st)) : mm_W K P bt b ret nL Q st :=
  fun X hX => hX st (mm_go_mono hK (fun _ _ q => q) (fun _ hs => hs X hX) _ h)
theorem mm_W_mono (hK : mm_mono K) {Q' : mm_R → mm_M → Prop} (hQ : ∀ r M', Q r M' → Q' r M') {st : mm_St} (h : mm_W K P bt b ret nL Q st) : mm_W K P bt b ret nL Q' st :=
  h _ (fun _ q => mm_fold hK (mm_go_mono hK hQ (fun _ z => z) _ q))
/-- the straight way on, at most n steps -/
def mm_sk (P : mm_P) (bt : Nat → Nat) (ret : Option FieldType) (nL : Nat) : Nat → mm_St → mm_St
  | 0, s => s
  | n + 1, s => match mm_next P bt ret nL s with
    | some (.inl t) => mm_sk P bt ret nL n t
    | _ => s
theorem mm_skip (hK : mm_mono K) : ∀ (n : Nat) {st st' : mm_St}, mm_sk P bt ret nL n st = st' → mm_W K P bt b ret nL Q st' → mm_W K P bt b ret nL Q st
  | 0, _, _, e, h => by cases e; exact h
  | n + 1, st, st', e, h => by
    cases hn : mm_next P bt ret nL st with
    | none => rw [mm_sk, hn] at e; cases e; exact h
    | some q =>
      cases q with
      | inl t =>
        rw [mm_sk, hn] at e
        exact mm_fold hK (by rw [hn]; exact mm_skip hK n e h)
      | inr t => rw [mm_sk, hn] at e; cases e; exact h
end MMW
/-- a method's row in the table: name, code, locals, answer, budget, the small machine's program -/
abbrev mm_T : Type := MethodName × ByteArray × Nat × Option FieldType × Nat × mm_P
def mm_bt (T : List mm_T) (j : Nat) : Nat := match T[j]? with
  | some t => t.2.2.2.2.1
  | none => 0
/-- method j, with at most d calls open above one another -/
def mm_call (T : List mm_T) : Nat → mm_K
  | 0, _, _, _, _ => False
  | d + 1, j, a, M, Q => match T[j]? with
    | none => False
    | some t => (lg_sl a).length ≤ t.2.2.1 ∧ mm_W (mm_call T d) t.2.2.2.2.2 (mm_bt T) t.2.2.2.2.1 t.2.2.2.1 t.2.2.1 Q (0, lv_args 0 a, [], M, 0)
theorem mm_call_mono (T : List mm_T) : ∀ d, mm_mono (mm_call T d)
  | 0 => fun _ _ _ _ _ _ h => h
  | d + 1 => fun j a M Q Q' hQ h => by
    unfold mm_call at h ⊢
    split at h
    · exact h
    · next t ht => exact ⟨h.1, mm_W_mono (mm_call_mono T d) hQ h.2⟩
theorem mm_call_up (T : List mm_T) : ∀ d j a M Q, mm_call T d j a M Q → mm_call T (d + 1) j a M Q
  | 0, _, _, _, _, h => h.elim
  | d + 1, j, a, M, Q, h => by
    unfold mm_call at h ⊢
    split at h
    · exact h
    · next t ht =>
      refine ⟨h.1, h.2 _ (fun s q => ?_)⟩
      refine mm_fold (mm_call_mono T (d + 1)) ?_
      revert q
      cases mm_next t.2.2.2.2.2 (mm_bt T) t.2.2.2.1 t.2.2.1 s with
      | none => exact id
      | some o =>
        rcases o with o | o | o | o | o
        · exact id
        · exact id
        · exact id
        · exact id
        · exact fun q => ⟨q.1, mm_call_up T d _ _ _ _ q.2⟩
theorem mm_call_le (T : List mm_T) {d d' : Nat} (h : d ≤ d') {j : Nat} {a : List Value} {M : mm_M} {Q : mm_R → mm_M → Prop} (q : mm_call T d j a M Q) : mm_call T d' j a M Q := by
  induction h with
  | refl => exact q
  | step _ ih => exact mm_call_up T _ _ _ _ _ ih
/-- the world with addresses: ad gives each place's, aC the classes of int[] and long[] -/
def mm_v (ad : Nat → Nat) : Value → Value
  | .ref k => .ref (ad k)
  | v => v
def mm_en (ad aC : Nat → Nat) : va_E → va_E
  | .inl a => .inl (aC a.1, a.2)
  | .inr o => .inr (o.1, o.2.map (mm_v ad))
def mm_w (ad aC : Nat → Nat) : Nat → mm_M → va_W
  | _, [] => []
  | k, x :: M => (ad k, mm_en ad aC x) :: mm_w ad aC (k + 1) M
def mm_ty (aC : Nat → Nat) : List (ClassId × FieldType) := [(aC 0, .int), (aC 1, .long)]
end
section
/-! what the small machine does, the machine does -/
theorem mm_v_cat (ad : Nat → Nat) (v : Value) : (mm_v ad v).category = v.category := by cases v <;> rfl
theorem mm_lk_mem {α : Type} : ∀ {l : List (Nat × α)} {k : Nat} {v : α}, mm_lk l k = some v → (k, v) ∈ l
  | [], _, _, h => by cases h
  | (a, b) :: t, k, v, h => by
    unfold mm_lk at h
    cases hb : Nat.beq a k with
    | true =>
      rw [hb] at h
      have e1 : b = v := by simpa using h
      have e2 : a = k := Nat.eq_of_beq_eq_true hb
      subst e1; subst e2
      exact List.mem_cons_self
    | false =>
      rw [hb] at h
      exact List.mem_cons_of_mem _ (mm_lk_mem h)
abbrev mm_lm (ad : Nat → Nat) (L : mm_L) : mm_L := L.map fun q => (q.1, mm_v ad q.2)
theorem mm_filter (ad : Nat → Nat) (f : Nat → Nat → Bool) (L : mm_L) : (mm_lm ad L).filter (fun q => f q.1 q.2.category) = mm_lm ad (L.filter fun q => f q.1 q.2.category) := by
  unfold mm_lm
  rw [List.filter_map]
  congr 1
  apply List.filter_congr
  intro q _
  simp only [Function.comp, mm_v_cat]
theorem mm_s1_map (ad : Nat → Nat) (L : mm_L) (i : Nat) (v : Value) : (i, mm_v ad v) :: (mm_lm ad L).filter (fun q => !(q.1 == i) && !(q.1 + 1 == i && q.2.category == 2)) = mm_lm ad (mm_s1 L i v) := by
  have h := mm_filter ad (fun a b => !(a == i) && !(a + 1 == i && b == 2)) L
  exact congrArg _ h
theorem mm_s2_map (ad : Nat → Nat) (L : mm_L) (i : Nat) (v : Value) : (i, mm_v ad v) :: (mm_lm ad L).filter (fun q => !(q.1 == i) && (!(q.1 == i + 1) && !(q.1 + 1 == i && q.2.category == 2))) = mm_lm ad (mm_s2 L i v) := by
  have h := mm_filter ad (fun a b => !(a == i) && (!(a == i + 1) && !(a + 1 == i && b == 2))) L
  exact congrArg _ h
theorem mm_lm_at {ad : Nat → Nat} {ls : Array Slot} {nL : Nat} {L : mm_L} (h : lv_has ls nL (mm_lm ad L)) {i : Nat} {v : Value} (hk : mm_lk L i = some v) : ls[i]? = some (.val (mm_v ad v)) :=
  h.2.2 (i, mm_v ad v) (List.mem_map.mpr ⟨(i, v), mm_lk_mem hk, rfl⟩)
theorem mm_tg_eq {pc t : Nat} {off : Int} (h : mm_tg pc off = some t) : (pc : Int) + off = (t : Int) := by
  unfold mm_tg at h
  split at h
  · next x e => cases h; exact e
  · cases h
theorem mm_w_get (ad aC : Nat → Nat) : ∀ (M : mm_M) (k i : Nat), (mm_w ad aC k M)[i]? = (M[i]?).map (fun x => (ad (k + i), mm_en ad aC x))
  | [], _, _ => by simp [mm_w]
  | x :: M, k, 0 => by simp [mm_w]
  | x :: M, k, i + 1 => by
    have h := mm_w_get ad aC M (k + 1) i
    simp only [mm_w, List.getElem?_cons_succ]
    rw [h]
    rw [show k + 1 + i = k + (i + 1) by omega]
theorem mm_w_set (ad aC : Nat → Nat) : ∀ (M : mm_M) (k i : Nat) (x : va_E), mm_w ad aC k (M.set i x) = (mm_w ad aC k M).set i (ad (k + i), mm_en ad aC x)
  | [], _, _, _ => by simp [mm_w]
  | y :: M, k, 0, x => by simp [mm_w]
  | y :: M, k, i + 1, x => by
    have h := mm_w_set ad aC M (k + 1) i x
    simp only [mm_w, List.set_cons_succ]
    rw [h, show k + 1 + i = k + (i + 1) by omega]
theorem mm_w_at {ad aC : Nat → Nat} {M : mm_M} {i : Nat} {x : va_E} (h : M[i]? = some x) : (mm_w ad aC 0 M)[i]? = some (ad i, mm_en ad aC x) := by
  rw [mm_w_get, h, Nat.zero_add]; rfl
theorem mm_w_set0 (ad aC : Nat → Nat) (M : mm_M) (i : Nat) (x : va_E) : mm_w ad aC 0 (M.set i x) = (mm_w ad aC 0 M).set i (ad i, mm_en ad aC x) := by
  rw [mm_w_set, Nat.zero_add]
theorem mm_lv_args (ad : Nat → Nat) : ∀ (a : List Value) (i : Nat), lv_args i (a.map (mm_v ad)) = mm_lm ad (lv_args i a)
  | [], _ => rfl
  | v :: t, i => by
    simp only [List.map_cons, lv_args, mm_v_cat]
    rw [mm_lv_args ad t]
/-- the lengths of the instructions that the small machine knows; 0: any -/
def mm_len : Instr → Nat
  | .iconst _ | .lconst _ | .iload_n _ | .lload_n _ | .aload_n _ | .istore_n _ | .lstore_n _ | .iadd | .isub | .imul | .iand | .ishl | .ishr | .ineg | .ladd | .lsub | .lmul | .lneg | .ldiv | .lrem | .lcmp | .i2l | .l2i | .dup | .pop | .iaload | .laload | .iastore | .lastore | .arraylength | .ireturn | .lreturn | .return_ => 1
  | .bipush _ | .ldc _ | .iload _ | .lload _ | .aload _ | .istore _ | .lstore _ => 2
  | .sipush _ | .ldc2_w _ | .iinc _ _ | .ifCond _ _ | .if_icmp _ _ | .goto _ | .getfield _ | .putfield _ | .invokevirtual _ | .invokestatic _ => 3
  | _ => 0
/-- what isn't of the words: texts (owner, pool entry, text), links to a nest mate's fields, exceptions that are of their own kind -/
abbrev mm_Sx : Type := List (String × Nat × String) × List (String × Nat × String × String × String × String) × List String
def mm_nw (q : String × Nat × String × String × String × String) : Cond := .fieldLinkNest q.1 q.2.1 q.2.2.1 q.2.2.2.1 q.2.2.2.2.1 q.2.2.2.2.2
/-- what the tables must say of a method's fields, constants, calls -/
def mm_okF (Z : mm_Sx) (G : List Cond) (cl : List vw_C) (own : String) (q : Nat × Nat × Nat × Nat) : Prop :=
  ∃ (C : String) (T : u_T) (N : Nat) (ty0 : Nat → FieldType), cl[q.2.1]? = some (C, T, N) ∧ q.2.2.1 < N ∧ (∀ w ∈ u_ws C T N, w ∈ G) ∧ (∀ k, k < N → parseFieldDescriptor (T k).2.2.1 = some (ty0 k)) ∧ (∀ a, a < N → ∀ b, b < N → a ≠ b → (T a).2.1 ≠ (T b).2.1) ∧
    (Cond.fieldLink own q.1 (T q.2.2.1).1 (T q.2.2.1).2.1 (T q.2.2.1).2.2.1 ∈ G ∨ ∃ host, (own, q.1, (T q.2.2.1).1, (T q.2.2.1).2.1, (T q.2.2.1).2.2.1, host) ∈ Z.2.1) ∧
    (q.2.2.2 = 0 → (T q.2.2.1).2.2.2 = false ∧ ty0 q.2.2.1 = .int) ∧ (q.2.2.2 = 1 → (T q.2.2.1).2.2.2 = false ∧ ty0 q.2.2.1 = .boolean)
def mm_okK (G : List Cond) (own : String) (q : Nat × Value) : Prop := match q.2 with
  | .int x => Cond.constant own q.1 x ∈ G
  | .long x => Cond.constantLong own q.1 x ∈ G
  | _ => False
def mm_cd (t : mm_T) : Cond := .code t.1 t.2.1 t.2.2.1 t.2.2.2.1
def mm_okC (G : List Cond) (cl : List vw_C) (T : List mm_T) (own : String) (q : Nat × Nat × Nat × Nat) : Prop :=
  (q.2.2.2 = 98 → Cond.methodLink own q.1 arraycopyName ∈ G ∧ Cond.native arraycopyName ∈ G ∧ Cond.static arraycopyName ∈ G ∧ Cond.initialized "java/lang/System" ∈ G) ∧
  (q.2.2.2 ≠ 98 → ∃ t : mm_T, T[q.2.1]? = some t ∧ mm_cd t ∈ G ∧ Cond.methodLink own q.1 t.1 ∈ G ∧ Cond.initialized t.1.cls ∈ G ∧ t.2.2.1 ≤ 40 ∧ (t.1.cls ≠ "java/lang/invoke/MethodHandle" ∧ t.1.cls ≠ "java/lang/invoke/VarHandle") ∧
    (q.2.2.2 = 99 → Cond.static t.1 ∈ G ∧ (parseMethodDescriptor t.1.desc).map (fun d => d.parameters.length) = some q.2.2.1) ∧
    (q.2.2.2 ≠ 99 → Cond.instanceMethod t.1 ∈ G ∧ Cond.selects t.1.cls t.1 t.1 ∈ G ∧ (∃ z, cl[q.2.2.2]? = some z ∧ z.1 = t.1.cls) ∧ ∃ n, q.2.2.1 = n + 1 ∧ (parseMethodDescriptor t.1.desc).map (fun d => d.parameters.length) = some n))
def mm_ok (Z : mm_Sx) (G : List Cond) (cl : List vw_C) (T : List mm_T) (own : String) (cc : ByteArray) (P : mm_P) : Prop :=
  (∀ q ∈ P.1, decode cc q.1 = .ok (q.2.1, q.2.2) ∧ (mm_len q.2.1 = 0 ∨ q.2.2 = mm_len q.2.1)) ∧ (∀ q ∈ P.2.1, mm_okF Z G cl own q) ∧ (∀ q ∈ P.2.2.1, mm_okK G own q) ∧ ∀ q ∈ P.2.2.2.1, mm_okC G cl T own q
def mm_room (d b : Nat) : Room := { frames := 8 + d, cells := b, slots := 6 * b, locals := 300 + 64 * d }
/-- what throws need of the start -/
def mm_Th (Z : mm_Sx) (A : Nat → Prop) (U : State) (H : Heap) : Prop :=
  vx_Zq Bundle.tN "UNASSIGNED_STACK" Bundle.steD A U H ∧ vx_Zq Bundle.tN "SUPPRESSED_SENTINEL" Bundle.listD A U H ∧ (∀ q ∈ Z.1, ∃ sa, vk_R q.1 q.2.1 q.2.2 sa U) ∧ (∀ q ∈ Z.2.1, va_Nw (mm_nw q) U) ∧ ∀ E ∈ Z.2.2, va_Nw (.castable E E) U
def mm_Pw (Z : mm_Sx) (D : va_G) (cl : List vw_C) (ad aC : Nat → Nat) (sz : Nat) (M : mm_M) (U : State) : Prop :=
  U.heap.size = sz ∧ va_P D cl (mm_w ad aC 0 M) U.heap ∧ va_K D cl (mm_ty aC) U ∧ va_D (fun _ => True) (mm_w ad aC 0 M) ∧ mm_Th Z (va_A (mm_w ad aC 0 M) sz) U U.heap
def mm_B (D : va_G) (cl : List vw_C) (ad aC : Nat → Nat) (A : Nat → Prop) (M : mm_M) (t : State) : Prop := va_P D cl (mm_w ad aC 0 M) t.heap ∧ va_K D cl (mm_ty aC) t ∧ va_D A (mm_w ad aC 0 M)
def mm_Qc (D : va_G) (cl : List vw_C) (ad aC : Nat → Nat) (A : Nat → Prop) (Q : mm_R → mm_M → Prop) : Array Value → State → Outcome → State → Prop := fun _ st oc t =>
  ∃ (v : Option Value) (M : mm_M), oc = .returned (v.map (mm_v ad)) ∧ Q (.inl v) M ∧ mm_B D cl ad aC A M t ∧ va_F A st t
def mm_XC (D : va_G) (cl : List vw_C) (ad aC : Nat → Nat) (A : Nat → Prop) (Q : mm_R → mm_M → Prop) : String → State → State → Prop := fun E st t =>
  ∃ M : mm_M, Q (.inr E) M ∧ mm_B D cl ad aC A M t ∧ va_F A st t
end
section
section MMC
variable {p : Program} {l : Launch} {e : Env} {R : Room} {s : State} {m : MethodId} {args : Array Value} {below : List Frame} {meth : Method} {c : Code} {H : Heap} {locs : List Loc} {cells slots : Nat} {QQ : State → Prop}
variable {D : va_G} {cl : List vw_C} {ad aC : Nat → Nat} {A0 A1 : Nat → Prop} {H0 : Heap} {mc ms : Nat} {free : Addr → Prop} {a : Array Value} {pc : Nat} {ls : Array Slot} {st0 rest : List Value} {Q : mm_R → mm_M → Prop}
/-- behind a call -/
theorem mm_callrow (hr : vx_Run p l e R s m args below meth c H locs cells slots mc ms (F0 m pc ls st0) rest (mm_Qc D cl ad aC A1 Q a) (mm_XC D cl ad aC A1 Q) free) (hS : va_S A0 H0 H locs) (hA : ∀ q, q < H.size → A1 q → A0 q) (hf : ∀ q, free q → A0 q)
    (kx : ∀ (E : String) (ce : Cell) (q9 : Addr) (M : mm_M) (t : State) (H1 : Heap) (locs1 : List Loc), t.heap = H1 → s.vm.Alike t.vm → Q (.inr E) M → mm_B D cl ad aC A1 M t → H.size ≤ H1.size → (∀ q : Nat, q < H.size → ¬ A1 q → H1[q]? = H[q]?) → va_S A0 H0 H1 locs1 → H1[q9]? = some ce → ce.vm = .none → s.vm.findClass E = some ce.cls → vx_W p l e R s m args below meth c H1 locs1 (cells + mc) (slots + ms) QQ (F0 m pc ls rest) q9)
    (kk : ∀ (v : Option Value) (M : mm_M) (t : State) (H1 : Heap) (locs1 : List Loc), t.heap = H1 → s.vm.Alike t.vm → Q (.inl v) M → mm_B D cl ad aC A1 M t → H.size ≤ H1.size → (∀ q : Nat, q < H.size → ¬ A1 q → H1[q]? = H[q]?) → va_S A0 H0 H1 locs1 → W p l e R s m args below meth c H1 locs1 (cells + mc) (slots + ms) QQ (F0 m (pc + 3) ls ((v.map (mm_v ad)).toList ++ rest))) :
    W p l e R s m args below meth c H locs cells slots QQ (F0 m pc ls st0) := by
  intro T hT X
  rcases hr T hT X with ⟨v, st₀, t, T', L, h0, X', hL, e1, e2, ⟨v', M, hv, hq, hB, hF⟩, st⟩ | ⟨q, st₀, t, T', L, E, ce, h0, X', hL, e1, e2, ⟨M, hq, hB, hF⟩, hce, hcv, hcl, st⟩
  · cases hv
    obtain ⟨k1, k2, k3⟩ := vx_keep h0 e1 hS hA hf hL hF
    obtain ⟨t2, a1, b1⟩ := kk v' M t T'.heap (locs ++ L) e1.symm (by rw [← e2]; exact X'.warmed.alike) hq hB k1 k2 k3 T' rfl X'
    exact ⟨t2, st t2 a1, b1⟩
  · obtain ⟨k1, k2, k3⟩ := vx_keep h0 e1 hS hA hf hL hF
    obtain ⟨t2, a1, b1⟩ := kx E ce q M t T'.heap (locs ++ L) e1.symm (by rw [← e2]; exact X'.warmed.alike) hq hB k1 k2 k3 (by rw [e1]; exact hce) hcv hcl T' rfl X'
    exact ⟨t2, st.trans a1, b1⟩
end MMC
/-- the machine stands where the small one does, and comes to QQ -/
def mm_X (p : Program) (l : Launch) (e : Env) (R : Room) (s : State) (m : MethodId) (args : Array Value) (below : List Frame) (meth : Method) (c : Code) (D : va_G) (cl : List vw_C) (ad aC : Nat → Nat) (A : Nat → Prop) (nL : Nat) (QQ : State → Prop) (st : mm_St) : Prop :=
  ∀ (ls : Array Slot) (H : Heap) (locs : List Loc), lv_has ls nL (mm_lm ad st.2.1) → va_P D cl (mm_w ad aC 0 st.2.2.2.1) H → va_D A (mm_w ad aC 0 st.2.2.2.1) → va_S A s.heap H locs → W p l e R s m args below meth c H locs st.2.2.2.2 (6 * st.2.2.2.2) QQ (F0 m st.1 ls (st.2.2.1.map (mm_v ad)))
def mm_Cx (Z : mm_Sx) (p : Program) (s : State) (m : MethodId) (args : Array Value) (meth : Method) (c : Code) (D : va_G) (cl : List vw_C) (aC : Nat → Nat) (A : Nat → Prop) (G : List Cond) (own : String) (cc : ByteArray) (nL : Nat) (ret : Option FieldType) : Prop :=
  p.tables.exec = Jvm.exec ∧ c.code = cc ∧ c.maxLocals = nL ∧ s.vm.findClass own = some m.cls ∧ (∀ w ∈ G, w.before args s = true) ∧ meth.sig.returnType = ret ∧ meth.locks = false ∧ (∀ x ∈ c.exceptionTable.toList, False) ∧ va_K D cl (mm_ty aC) s ∧ (∀ q, s.heap.size ≤ q → A q) ∧ ∀ q ∈ Z.2.1, va_Nw (mm_nw q) s
theorem mm_l {a b n : Nat} (h : a = 0 ∨ b = a) (e : a = n + 1) : b = n + 1 := by omega
section MMI
variable {K : mm_K} {b : Nat} {Q : mm_R → mm_M → Prop} {X : mm_St → Prop}
theorem mm_i1_inv {S : List Value} {f : Int32 → List Value → Option mm_N} (h : mm_go K b Q X (mm_i1 S f)) : ∃ x r, S = .int x :: r ∧ mm_go K b Q X (f x r) := by
  unfold mm_i1 at h
  split at h
  · exact ⟨_, _, rfl, h⟩
  · exact h.elim
theorem mm_i2_inv {S : List Value} {f : Int32 → Int32 → List Value → Option mm_N} (h : mm_go K b Q X (mm_i2 S f)) : ∃ y x r, S = .int y :: .int x :: r ∧ mm_go K b Q X (f y x r) := by
  unfold mm_i2 at h
  split at h
  · exact ⟨_, _, _, rfl, h⟩
  · exact h.elim
theorem mm_l1_inv {S : List Value} {f : Int64 → List Value → Option mm_N} (h : mm_go K b Q X (mm_l1 S f)) : ∃ x r, S = .long x :: r ∧ mm_go K b Q X (f x r) := by
  unfold mm_l1 at h
  split at h
  · exact ⟨_, _, rfl, h⟩
  · exact h.elim
theorem mm_l2_inv {S : List Value} {f : Int64 → Int64 → List Value → Option mm_N} (h : mm_go K b Q X (mm_l2 S f)) : ∃ y x r, S = .long y :: .long x :: r ∧ mm_go K b Q X (f y x r) := by
  unfold mm_l2 at h
  split at h
  · exact ⟨_, _, _, rfl, h⟩
  · exact h.elim
theorem mm_li_inv {L : mm_L} {i : Nat} {f : Int32 → Option mm_N} (h : mm_go K b Q X (mm_li L i f)) : ∃ x, mm_lk L i = some (.int x) ∧ mm_go K b Q X (f x) := by
  unfold mm_li at h
  split at h
  · next hq => exact ⟨_, hq, h⟩
  · exact h.elim
theorem mm_ll_inv {L : mm_L} {i : Nat} {f : Int64 → Option mm_N} (h : mm_go K b Q X (mm_ll L i f)) : ∃ x, mm_lk L i = some (.long x) ∧ mm_go K b Q X (f x) := by
  unfold mm_ll at h
  split at h
  · next hq => exact ⟨_, hq, h⟩
  · exact h.elim
theorem mm_la_inv {L : mm_L} {i : Nat} {f : Nat → Option mm_N} (h : mm_go K b Q X (mm_la L i f)) : ∃ x, mm_lk L i = some (.ref x) ∧ mm_go K b Q X (f x) := by
  unfold mm_la at h
  split at h
  · next hq => exact ⟨_, hq, h⟩
  · exact h.elim
theorem mm_ai_inv {M : mm_M} {a : Nat} {f : Nat → (Nat → Int32) → Option mm_N} (h : mm_go K b Q X (mm_ai M a f)) : ∃ n z, M[a]? = some (.inl (0, n, .inl z)) ∧ mm_go K b Q X (f n z) := by
  unfold mm_ai at h
  split at h
  · next hq => exact ⟨_, _, hq, h⟩
  · exact h.elim
theorem mm_al_inv {M : mm_M} {a : Nat} {f : Nat → (Nat → Int64) → Option mm_N} (h : mm_go K b Q X (mm_al M a f)) : ∃ n z, M[a]? = some (.inl (1, n, .inr (.inl z))) ∧ mm_go K b Q X (f n z) := by
  unfold mm_al at h
  split at h
  · next hq => exact ⟨_, _, hq, h⟩
  · exact h.elim
theorem mm_cond_inv {t : Bool} {o : Option mm_N} (h : mm_go K b Q X (cond t o none)) : t = true ∧ mm_go K b Q X o := by
  cases t with
  | true => exact ⟨rfl, h⟩
  | false => exact h.elim
theorem mm_ob_inv {M : mm_M} {a ci : Nat} {f : List Value → Option mm_N} (h : mm_go K b Q X (mm_ob M a ci f)) : ∃ fs, M[a]? = some (.inr (ci, fs)) ∧ mm_go K b Q X (f fs) := by
  unfold mm_ob at h
  split at h
  · next c fs hq =>
    obtain ⟨hc, h9⟩ := mm_cond_inv h
    have e := Nat.eq_of_beq_eq_true hc
    exact ⟨fs, by rw [← e]; exact hq, h9⟩
  · exact h.elim
theorem mm_bind_inv {o : Option Nat} {f : Nat → Option mm_N} (h : mm_go K b Q X (o.bind f)) : ∃ t, o = some t ∧ mm_go K b Q X (f t) := by
  cases o with
  | none => exact h.elim
  | some t => exact ⟨t, rfl, h⟩
theorem mm_bc_eq {x y : Int32} {s t : mm_St} (h : mm_go K b Q X (mm_bc .eq x y s t)) : (x = y → X s) ∧ (¬ x = y → X t) := ⟨h.1, h.2.1⟩
theorem mm_bc_ne {x y : Int32} {s t : mm_St} (h : mm_go K b Q X (mm_bc .ne x y s t)) : (¬ x = y → X s) ∧ (x = y → X t) := ⟨h.2.1, h.1⟩
theorem mm_bc_lt {x y : Int32} {s t : mm_St} (h : mm_go K b Q X (mm_bc .lt x y s t)) : (x < y → X s) ∧ (¬ x < y → X t) := ⟨h.1, h.2.1⟩
theorem mm_bc_ge {x y : Int32} {s t : mm_St} (h : mm_go K b Q X (mm_bc .ge x y s t)) : (y ≤ x → X s) ∧ (¬ y ≤ x → X t) := ⟨h.1, h.2.1⟩
theorem mm_bc_gt {x y : Int32} {s t : mm_St} (h : mm_go K b Q X (mm_bc .gt x y s t)) : (y < x → X s) ∧ (¬ y < x → X t) := ⟨h.1, h.2.1⟩
theorem mm_bc_le {x y : Int32} {s t : mm_St} (h : mm_go K b Q X (mm_bc .le x y s t)) : (x ≤ y → X s) ∧ (¬ x ≤ y → X t) := ⟨h.1, h.2.1⟩
end MMI
theorem mm_w_obj (ad aC : Nat → Nat) (M : mm_M) (a ci i : Nat) (fs : List Value) (v : Value) : mm_w ad aC 0 (M.set a (.inr (ci, fs.set i v))) = (mm_w ad aC 0 M).set a (ad a, .inr (ci, (fs.map (mm_v ad)).set i (mm_v ad v))) := by
  rw [mm_w_set0]
  simp only [mm_en, List.map_set]
theorem mm_w_arr (ad aC : Nat → Nat) (M : mm_M) (a k : Nat) (x : vp_A) : mm_w ad aC 0 (M.set a (.inl (k, x))) = (mm_w ad aC 0 M).set a (ad a, .inl (aC k, x)) := by
  rw [mm_w_set0]; rfl
theorem mm_cat_map (ad : Nat → Nat) : ∀ S : List Value, ((S.map (mm_v ad)).map fun v => v.category).sum = mm_cat S
  | [] => rfl
  | v :: S => by
    have h := mm_cat_map ad S
    simp only [mm_cat, List.map_cons, List.sum_cons, mm_v_cat] at h ⊢
    rw [h]
theorem mm_narZ {x : Int32} (h : mm_z x) : narrow .boolean (.int x) = .int x ∧ fits .boolean (.int x) = true := by
  rcases h with rfl | rfl
  · exact ⟨by decide +kernel, by decide +kernel⟩
  · exact ⟨by decide +kernel, by decide +kernel⟩
section MMJ
variable {K : mm_K} {b : Nat} {Q : mm_R → mm_M → Prop} {X : mm_St → Prop}
theorem mm_bindL_inv {o : Option (List (Prop × mm_St))} {f : List (Prop × mm_St) → Option mm_N} (h : mm_go K b Q X (o.bind f)) : ∃ t, o = some t ∧ mm_go K b Q X (f t) := by
  cases o with
  | none => exact h.elim
  | some t => exact ⟨t, rfl, h⟩
theorem mm_all_app : ∀ {w v : List (Prop × mm_St)}, mm_all X (w ++ v) → mm_all X w ∧ mm_all X v
  | [], _, h => ⟨trivial, h⟩
  | _ :: w, v, h => ⟨⟨h.1, (mm_all_app (w := w) h.2).1⟩, (mm_all_app (w := w) h.2).2⟩
theorem mm_all_last {w : List (Prop × mm_St)} {c : Prop} {s : mm_St} (h : mm_go K b Q X (some (.inr (.inr (.inl (w ++ [(c, s)])))))) (hc : c) : X s := (mm_all_app (w := w) h).2.1 hc
theorem mm_all_left {w : List (Prop × mm_St)} {c : Prop} {s : mm_St} (h : mm_go K b Q X (some (.inr (.inr (.inl (w ++ [(c, s)])))))) : mm_all X w := (mm_all_app (w := w) h).1
theorem mm_tw_at {x : Int32} {pc : Nat} {L : mm_L} {r : List Value} {M : mm_M} {u : Nat} : ∀ {os : List Int} {k : Int} {w : List (Prop × mm_St)} {n : Nat} {o : Int}, mm_tw x pc L r M u k os = some w → os[n]? = some o → x.toInt = k + (n : Int) → mm_all X w → ∃ t, mm_tg pc o = some t ∧ X (t, L, r, M, u)
  | [], _, _, n, _, _, ho, _, _ => by simp at ho
  | o1 :: os, k, w, n, o, hw, ho, hx, hX => by
    unfold mm_tw at hw
    cases ht : mm_tg pc o1 with
    | none => rw [ht] at hw; cases hw
    | some t =>
      rw [ht] at hw
      cases hw2 : mm_tw x pc L r M u (k + 1) os with
      | none => rw [hw2] at hw; cases hw
      | some w2 =>
        rw [hw2] at hw
        cases hw
        cases n with
        | zero =>
          simp at ho
          subst ho
          exact ⟨t, ht, hX.1 (by simpa using hx)⟩
        | succ n =>
          rw [List.getElem?_cons_succ] at ho
          exact mm_tw_at (k := k + 1) hw2 ho (by rw [hx]; push_cast; omega) hX.2
end MMJ
end
section
set_option maxHeartbeats 4000000 in
set_option maxRecDepth 100000 in
/-- one step of the small machine is a stretch of the machine's -/
theorem mm_close {p : Program} {l : Launch} {e : Env} {s : State} {m : MethodId} {args : Array Value} {below : List Frame} {meth : Method} {c : Code} {D : va_G} {cl : List vw_C} {ad aC : Nat → Nat} {A : Nat → Prop} {Z : mm_Sx} {G : List Cond} {T : List mm_T} {own : String} {cc : ByteArray} {nL b d : Nat} {ret : Option FieldType} {P : mm_P} {K : mm_K} {Q : mm_R → mm_M → Prop} {QQ : State → Prop}
    (C : mm_Cx Z p s m args meth c D cl aC A G own cc nL ret) (ok : mm_ok Z G cl T own cc P)
    (hthr : ∀ pc E, mm_lk P.2.2.2.2 pc = some E → ∀ L M u, u + 1 ≤ b → Q (.inr E) M → mm_X p l e (mm_room (d + 1) b) s m args below meth c D cl ad aC A nL QQ (pc, L, [], M, u))
    (hrt : ∀ (r : Option Value) (M : mm_M) (u : Nat), u ≤ b → Q (.inl r) M → ∀ (i : Instr) (pc : Nat), decode cc pc = .ok (i, 1) → (∀ x, r = some (.int x) → i = .ireturn ∧ (ret = some .int ∨ (ret = some .boolean ∧ mm_z x))) → (∀ x, r = some (.long x) → i = .lreturn ∧ ret = some .long) → (r = none → i = .return_ ∧ ret = none) → (∀ v, r = some v → (∃ x, v = .int x) ∨ ∃ x, v = .long x) → ∀ L, mm_X p l e (mm_room (d + 1) b) s m args below meth c D cl ad aC A nL QQ (pc, L, r.toList, M, u))
    (hcl : ∀ (k j n ci : Nat), mm_lk P.2.2.2.1 k = some (j, n, ci) → ci ≠ 98 → ∀ (st : Bool) (pc : Nat) (L : mm_L) (S : List Value) (M : mm_M) (u : Nat), decode cc pc = .ok (if st then .invokestatic k else .invokevirtual k, 3) → n ≤ S.length → mm_cat (S.drop n) ≤ 8 → (st = true → ci = 99) → (st = false → ci ≠ 99 ∧ ∃ a t fs, (S.take n).reverse = .ref a :: t ∧ M[a]? = some (.inr (ci, fs))) → u + mm_bt T j ≤ b →
      K j (S.take n).reverse M (fun r M' => match r with
        | .inl v => mm_X p l e (mm_room (d + 1) b) s m args below meth c D cl ad aC A nL QQ (pc + 3, L, v.toList ++ S.drop n, M', u + mm_bt T j)
        | .inr E => Q (.inr E) M') → mm_X p l e (mm_room (d + 1) b) s m args below meth c D cl ad aC A nL QQ (pc, L, S, M, u)) :
    ∀ st, mm_go K b Q (mm_X p l e (mm_room (d + 1) b) s m args below meth c D cl ad aC A nL QQ) (mm_next P (mm_bt T) ret nL st) → mm_X p l e (mm_room (d + 1) b) s m args below meth c D cl ad aC A nL QQ st := by
  intro st h
  obtain ⟨pc, L, S, M, u⟩ := st
  obtain ⟨hx, hb, hml, hown, hts, hr, hlk, htab, hK0, hA, hnest⟩ := C
  obtain ⟨okc, okf, okk, okm⟩ := ok
  unfold mm_next at h
  dsimp only at h
  split at h
  · exact h.elim
  next i hc =>
  obtain ⟨i, len⟩ := i
  obtain ⟨hd, hlen⟩ := okc _ (mm_lk_mem hc)
  dsimp only at hd hlen h
  cases i with
  | iconst n =>
    obtain rfl := mm_l hlen (n := 0) rfl
    intro ls H locs hl hP hD hS
    exact lv_iconst hx hb hd rfl (h ls H locs hl hP hD hS)
  | lconst n =>
    obtain rfl := mm_l hlen (n := 0) rfl
    intro ls H locs hl hP hD hS
    exact lv_lconst hx hb hd rfl (h ls H locs hl hP hD hS)
  | bipush n =>
    obtain rfl := mm_l hlen (n := 1) rfl
    intro ls H locs hl hP hD hS
    exact lv_bipush hx hb hd rfl (h ls H locs hl hP hD hS)
  | sipush n =>
    obtain rfl := mm_l hlen (n := 2) rfl
    intro ls H locs hl hP hD hS
    exact lv_sipush hx hb hd rfl (h ls H locs hl hP hD hS)
  | ldc k =>
    obtain rfl := mm_l hlen (n := 1) rfl
    unfold mm_do at h
    dsimp only at h
    split at h
    · next x hk =>
      have hw := okk _ (mm_lk_mem hk)
      intro ls H locs hl hP hD hS
      exact lv_ldc hx hb hown (hts _ hw) hd (h ls H locs hl hP hD hS)
    · exact h.elim
  | ldc2_w k =>
    obtain rfl := mm_l hlen (n := 2) rfl
    unfold mm_do at h
    dsimp only at h
    split at h
    · next x hk =>
      have hw := okk _ (mm_lk_mem hk)
      intro ls H locs hl hP hD hS
      exact lv_ldc2 hx hb hown (hts _ hw) hd (h ls H locs hl hP hD hS)
    · exact h.elim
  | iload_n k =>
    obtain rfl := mm_l hlen (n := 0) rfl
    obtain ⟨x, hk, h⟩ := mm_li_inv h
    intro ls H locs hl hP hD hS
    exact lv_iload_n hx hb hd rfl (mm_lm_at hl hk) (h ls H locs hl hP hD hS)
  | iload k =>
    obtain rfl := mm_l hlen (n := 1) rfl
    obtain ⟨x, hk, h⟩ := mm_li_inv h
    intro ls H locs hl hP hD hS
    exact lv_iload hx hb hd (mm_lm_at hl hk) (h ls H locs hl hP hD hS)
  | lload_n k =>
    obtain rfl := mm_l hlen (n := 0) rfl
    obtain ⟨x, hk, h⟩ := mm_ll_inv h
    intro ls H locs hl hP hD hS
    exact lv_lload_n hx hb hd rfl (mm_lm_at hl hk) (h ls H locs hl hP hD hS)
  | lload k =>
    obtain rfl := mm_l hlen (n := 1) rfl
    obtain ⟨x, hk, h⟩ := mm_ll_inv h
    intro ls H locs hl hP hD hS
    exact lv_lload hx hb hd (mm_lm_at hl hk) (h ls H locs hl hP hD hS)
  | aload_n k =>
    obtain rfl := mm_l hlen (n := 0) rfl
    obtain ⟨x, hk, h⟩ := mm_la_inv h
    intro ls H locs hl hP hD hS
    exact lv_aload_n hx hb hd rfl (mm_lm_at hl hk) (h ls H locs hl hP hD hS)
  | aload k =>
    obtain rfl := mm_l hlen (n := 1) rfl
    obtain ⟨x, hk, h⟩ := mm_la_inv h
    intro ls H locs hl hP hD hS
    exact lv_aload hx hb hd (mm_lm_at hl hk) (h ls H locs hl hP hD hS)
  | istore_n k =>
    obtain rfl := mm_l hlen (n := 0) rfl
    obtain ⟨x, r, rfl, h⟩ := mm_i1_inv h
    obtain ⟨hn, h⟩ := mm_cond_inv h
    have hn := Nat.le_of_ble_eq_true hn
    intro ls H locs hl hP hD hS
    exact lv_istore_n hx hb hd rfl hl hn (mm_s1_map ad L _ (.int x)) (fun ls' hl' => h ls' H locs hl' hP hD hS)
  | istore k =>
    obtain rfl := mm_l hlen (n := 1) rfl
    obtain ⟨x, r, rfl, h⟩ := mm_i1_inv h
    obtain ⟨hn, h⟩ := mm_cond_inv h
    have hn := Nat.le_of_ble_eq_true hn
    intro ls H locs hl hP hD hS
    exact lv_istore hx hb hd hl hn (mm_s1_map ad L _ (.int x)) (fun ls' hl' => h ls' H locs hl' hP hD hS)
  | lstore_n k =>
    obtain rfl := mm_l hlen (n := 0) rfl
    obtain ⟨x, r, rfl, h⟩ := mm_l1_inv h
    obtain ⟨hn, h⟩ := mm_cond_inv h
    have hn := Nat.le_of_ble_eq_true hn
    intro ls H locs hl hP hD hS
    exact lv_lstore_n hx hb hd rfl hl hn (mm_s2_map ad L _ (.long x)) (fun ls' hl' => h ls' H locs hl' hP hD hS)
  | lstore k =>
    obtain rfl := mm_l hlen (n := 1) rfl
    obtain ⟨x, r, rfl, h⟩ := mm_l1_inv h
    obtain ⟨hn, h⟩ := mm_cond_inv h
    have hn := Nat.le_of_ble_eq_true hn
    intro ls H locs hl hP hD hS
    exact lv_lstore hx hb hd hl hn (mm_s2_map ad L _ (.long x)) (fun ls' hl' => h ls' H locs hl' hP hD hS)
  | iinc k n =>
    obtain rfl := mm_l hlen (n := 2) rfl
    obtain ⟨x, hk, h⟩ := mm_li_inv h
    obtain ⟨hn, h⟩ := mm_cond_inv h
    have hn := Nat.le_of_ble_eq_true hn
    intro ls H locs hl hP hD hS
    obtain ⟨z, hz⟩ := List.getElem?_of_mem (List.mem_map.mpr ⟨(k, .int x), mm_lk_mem hk, rfl⟩ : (k, mm_v ad (.int x)) ∈ mm_lm ad L)
    exact lv_iinc hx hb hd hl hz rfl hn (mm_s1_map ad L k (.int (x + Int32.ofInt n))) (fun ls' hl' => h ls' H locs hl' hP hD hS)
  | iadd =>
    obtain rfl := mm_l hlen (n := 0) rfl
    obtain ⟨y, x, r, rfl, h⟩ := mm_i2_inv h
    intro ls H locs hl hP hD hS
    exact lv_iadd hx hb hd (h ls H locs hl hP hD hS)
  | isub =>
    obtain rfl := mm_l hlen (n := 0) rfl
    obtain ⟨y, x, r, rfl, h⟩ := mm_i2_inv h
    intro ls H locs hl hP hD hS
    exact lv_isub hx hb hd (h ls H locs hl hP hD hS)
  | imul =>
    obtain rfl := mm_l hlen (n := 0) rfl
    obtain ⟨y, x, r, rfl, h⟩ := mm_i2_inv h
    intro ls H locs hl hP hD hS
    exact lv_imul hx hb hd (h ls H locs hl hP hD hS)
  | iand =>
    obtain rfl := mm_l hlen (n := 0) rfl
    obtain ⟨y, x, r, rfl, h⟩ := mm_i2_inv h
    intro ls H locs hl hP hD hS
    exact lv_iand hx hb hd (h ls H locs hl hP hD hS)
  | ishl =>
    obtain rfl := mm_l hlen (n := 0) rfl
    obtain ⟨y, x, r, rfl, h⟩ := mm_i2_inv h
    intro ls H locs hl hP hD hS
    exact lv_ishl hx hb hd (h ls H locs hl hP hD hS)
  | ishr =>
    obtain rfl := mm_l hlen (n := 0) rfl
    obtain ⟨y, x, r, rfl, h⟩ := mm_i2_inv h
    intro ls H locs hl hP hD hS
    exact lv_ishr hx hb hd (h ls H locs hl hP hD hS)
  | ladd =>
    obtain rfl := mm_l hlen (n := 0) rfl
    obtain ⟨y, x, r, rfl, h⟩ := mm_l2_inv h
    intro ls H locs hl hP hD hS
    exact lv_ladd hx hb hd (h ls H locs hl hP hD hS)
  | lsub =>
    obtain rfl := mm_l hlen (n := 0) rfl
    obtain ⟨y, x, r, rfl, h⟩ := mm_l2_inv h
    intro ls H locs hl hP hD hS
    exact lv_lsub hx hb hd (h ls H locs hl hP hD hS)
  | lmul =>
    obtain rfl := mm_l hlen (n := 0) rfl
    obtain ⟨y, x, r, rfl, h⟩ := mm_l2_inv h
    intro ls H locs hl hP hD hS
    exact lv_lmul hx hb hd (h ls H locs hl hP hD hS)
  | lcmp =>
    obtain rfl := mm_l hlen (n := 0) rfl
    obtain ⟨y, x, r, rfl, h⟩ := mm_l2_inv h
    intro ls H locs hl hP hD hS
    exact W.lcmp hx hb hd (h ls H locs hl hP hD hS)
  | ldiv =>
    obtain rfl := mm_l hlen (n := 0) rfl
    obtain ⟨y, x, r, rfl, h⟩ := mm_l2_inv h
    obtain ⟨hne, h⟩ := h
    intro ls H locs hl hP hD hS
    exact lv_ldiv hx hb hd hne (h ls H locs hl hP hD hS)
  | lrem =>
    obtain rfl := mm_l hlen (n := 0) rfl
    obtain ⟨y, x, r, rfl, h⟩ := mm_l2_inv h
    obtain ⟨hne, h⟩ := h
    intro ls H locs hl hP hD hS
    exact lv_lrem hx hb hd hne (h ls H locs hl hP hD hS)
  | ineg =>
    obtain rfl := mm_l hlen (n := 0) rfl
    obtain ⟨x, r, rfl, h⟩ := mm_i1_inv h
    intro ls H locs hl hP hD hS
    exact lv_ineg hx hb hd (h ls H locs hl hP hD hS)
  | lneg =>
    obtain rfl := mm_l hlen (n := 0) rfl
    obtain ⟨x, r, rfl, h⟩ := mm_l1_inv h
    intro ls H locs hl hP hD hS
    exact lv_lneg hx hb hd (h ls H locs hl hP hD hS)
  | i2l =>
    obtain rfl := mm_l hlen (n := 0) rfl
    obtain ⟨x, r, rfl, h⟩ := mm_i1_inv h
    intro ls H locs hl hP hD hS
    exact lv_i2l hx hb hd rfl (h ls H locs hl hP hD hS)
  | l2i =>
    obtain rfl := mm_l hlen (n := 0) rfl
    obtain ⟨x, r, rfl, h⟩ := mm_l1_inv h
    intro ls H locs hl hP hD hS
    exact lv_l2i hx hb hd rfl (h ls H locs hl hP hD hS)
  | dup =>
    obtain rfl := mm_l hlen (n := 0) rfl
    unfold mm_do at h
    dsimp only at h
    split at h
    · intro ls H locs hl hP hD hS
      exact lv_dup hx hb hd rfl (h ls H locs hl hP hD hS)
    · intro ls H locs hl hP hD hS
      exact lv_dup hx hb hd rfl (h ls H locs hl hP hD hS)
    · exact h.elim
  | pop =>
    obtain rfl := mm_l hlen (n := 0) rfl
    obtain ⟨x, r, rfl, h⟩ := mm_i1_inv h
    intro ls H locs hl hP hD hS
    exact lv_pop hx hb hd rfl (h ls H locs hl hP hD hS)
  | ifCond k o =>
    obtain rfl := mm_l hlen (n := 2) rfl
    obtain ⟨x, r, rfl, h⟩ := mm_i1_inv h
    obtain ⟨t, ht, h⟩ := mm_bind_inv h
    have ht := mm_tg_eq ht
    intro ls H locs hl hP hD hS
    cases k with
    | eq =>
      have h := mm_bc_eq h
      exact lv_if_eq hx hb hd ht (fun z => h.1 z ls H locs hl hP hD hS) (fun z => h.2 z ls H locs hl hP hD hS)
    | ne =>
      have h := mm_bc_ne h
      exact lv_if_ne hx hb hd ht (fun z => h.1 z ls H locs hl hP hD hS) (fun z => h.2 z ls H locs hl hP hD hS)
    | lt =>
      have h := mm_bc_lt h
      exact lv_if_lt hx hb hd ht (fun z => h.1 z ls H locs hl hP hD hS) (fun z => h.2 z ls H locs hl hP hD hS)
    | ge =>
      have h := mm_bc_ge h
      exact lv_if_ge hx hb hd ht (fun z => h.1 z ls H locs hl hP hD hS) (fun z => h.2 z ls H locs hl hP hD hS)
    | gt =>
      have h := mm_bc_gt h
      exact lv_if_gt hx hb hd ht (fun z => h.1 z ls H locs hl hP hD hS) (fun z => h.2 z ls H locs hl hP hD hS)
    | le =>
      have h := mm_bc_le h
      exact lv_if_le hx hb hd ht (fun z => h.1 z ls H locs hl hP hD hS) (fun z => h.2 z ls H locs hl hP hD hS)
  | if_icmp k o =>
    obtain rfl := mm_l hlen (n := 2) rfl
    obtain ⟨y, x, r, rfl, h⟩ := mm_i2_inv h
    obtain ⟨t, ht, h⟩ := mm_bind_inv h
    have ht := mm_tg_eq ht
    intro ls H locs hl hP hD hS
    cases k with
    | eq =>
      have h := mm_bc_eq h
      exact lv_icmp_eq hx hb hd ht (fun z => h.1 z ls H locs hl hP hD hS) (fun z => h.2 z ls H locs hl hP hD hS)
    | ne =>
      have h := mm_bc_ne h
      exact lv_icmp_ne hx hb hd ht (fun z => h.1 z ls H locs hl hP hD hS) (fun z => h.2 z ls H locs hl hP hD hS)
    | lt =>
      have h := mm_bc_lt h
      exact lv_icmp_lt hx hb hd ht (fun z => h.1 z ls H locs hl hP hD hS) (fun z => h.2 z ls H locs hl hP hD hS)
    | ge =>
      have h := mm_bc_ge h
      exact lv_icmp_ge hx hb hd ht (fun z => h.1 z ls H locs hl hP hD hS) (fun z => h.2 z ls H locs hl hP hD hS)
    | gt =>
      have h := mm_bc_gt h
      exact lv_icmp_gt hx hb hd ht (fun z => h.1 z ls H locs hl hP hD hS) (fun z => h.2 z ls H locs hl hP hD hS)
    | le =>
      have h := mm_bc_le h
      exact lv_icmp_le hx hb hd ht (fun z => h.1 z ls H locs hl hP hD hS) (fun z => h.2 z ls H locs hl hP hD hS)
  | goto o =>
    obtain rfl := mm_l hlen (n := 2) rfl
    obtain ⟨t, ht, h⟩ := mm_bind_inv h
    have ht := mm_tg_eq ht
    intro ls H locs hl hP hD hS
    exact lv_goto hx hb hd ht (h ls H locs hl hP hD hS)
  | tableswitch df lo hi os =>
    obtain ⟨x, r, rfl, h⟩ := mm_i1_inv h
    obtain ⟨hsz, h⟩ := mm_cond_inv h
    have hsz : hi = lo + (os.size : Int) - 1 := of_decide_eq_true hsz
    obtain ⟨t, ht, h⟩ := mm_bind_inv h
    have ht := mm_tg_eq ht
    obtain ⟨wl, hw, h⟩ := mm_bindL_inv h
    intro ls H locs hl hP hD hS
    by_cases h1 : x.toInt < lo ∨ hi < x.toInt
    · exact lv_tableOut hx hb hd h1 ht (mm_all_last h h1 ls H locs hl hP hD hS)
    · have h2 : ¬ x.toInt < lo := fun z => h1 (Or.inl z)
      have h3 : ¬ hi < x.toInt := fun z => h1 (Or.inr z)
      have hlt : (x.toInt - lo).toNat < os.toList.length := by rw [Array.length_toList]; omega
      obtain ⟨o, ho⟩ : ∃ o, os.toList[(x.toInt - lo).toNat]? = some o := ⟨_, List.getElem?_eq_getElem hlt⟩
      obtain ⟨t2, ht2, hX⟩ := mm_tw_at hw ho (by omega) (mm_all_left h)
      exact lv_tableIn hx hb hd h2 h3 (by rw [← Array.getElem?_toList]; exact ho) (mm_tg_eq ht2) (hX ls H locs hl hP hD hS)
  | getfield k =>
    obtain rfl := mm_l hlen (n := 2) rfl
    replace h : mm_go K b Q (mm_X p l e (mm_room (d + 1) b) s m args below meth c D cl ad aC A nL QQ) (mm_get P k pc L S M u) := h
    unfold mm_get at h
    split at h
    · next a r =>
      split at h
      · next ci i z hf =>
        obtain ⟨fs, hM, h⟩ := mm_ob_inv h
        split at h
        · next v hv =>
          obtain ⟨C, Tt, N, ty0, hcl2, hkN, hws, hty, hnm, hlink, -, -⟩ := okf _ (mm_lk_mem hf)
          have he := mm_w_at (ad := ad) (aC := aC) hM
          have hv2 : (fs.map (mm_v ad))[i]? = some (mm_v ad v) := by rw [List.getElem?_map, hv]; rfl
          intro ls H locs hl hP hD hS
          rcases hlink with hlink | ⟨host, hlink⟩
          · exact va_get hx hb hts hws hown hK0 hP a he hcl2 i hkN (hts _ hlink) (fun _ z => z) hv2 hd (h ls H locs hl hP hD hS)
          · exact va_getN hx hb hts hws hown hK0 hP a he hcl2 i hkN (va_Nw.use rfl (hnest _ hlink)) (fun _ z => z) hv2 hd (h ls H locs hl hP hD hS)
        · exact h.elim
      · exact h.elim
    · exact h.elim
  | putfield k =>
    obtain rfl := mm_l hlen (n := 2) rfl
    replace h : mm_go K b Q (mm_X p l e (mm_room (d + 1) b) s m args below meth c D cl ad aC A nL QQ) (mm_put P k pc L S M u) := h
    unfold mm_put at h
    split at h
    · next x a r =>
      split at h
      · next ci i z hf =>
        obtain ⟨fs, hM, h⟩ := mm_ob_inv h
        obtain ⟨hlt, h⟩ := mm_cond_inv h
        have hlt := Nat.le_of_ble_eq_true hlt
        obtain ⟨C, Tt, N, ty0, hcl2, hkN, hws, hty, hnm, hlink, hz0, hz1⟩ := okf _ (mm_lk_mem hf)
        have he := mm_w_at (ad := ad) (aC := aC) hM
        have hlt2 : i < (fs.map (mm_v ad)).length := by rw [List.length_map]; exact hlt
        have hg : ((Tt i).2.2.2 = false ∧ ∃ ty, parseFieldDescriptor (Tt i).2.2.1 = some ty ∧ narrow ty (.int x) = .int x ∧ fits ty (.int x) = true) ∧ mm_X p l e (mm_room (d + 1) b) s m args below meth c D cl ad aC A nL QQ (pc + 3, L, r, M.set a (.inr (ci, fs.set i (.int x))), u) := by
          split at h
          · obtain ⟨h1, h2⟩ := hz0 rfl
            exact ⟨⟨h1, _, (hty i hkN).trans (congrArg some h2), rfl, rfl⟩, h⟩
          · obtain ⟨h1, h2⟩ := hz1 rfl
            obtain ⟨hzx, h⟩ := h
            exact ⟨⟨h1, _, (hty i hkN).trans (congrArg some h2), (mm_narZ hzx).1, (mm_narZ hzx).2⟩, h⟩
          · exact h.elim
        obtain ⟨⟨hfin, ty, hpt, hnr, hft⟩, h⟩ := hg
        intro ls H locs hl hP hD hS
        rcases hlink with hlink | ⟨host, hlink⟩
        · exact va_put hx hb hts hws ty0 hty hnm hown hK0 hP hD hS a he hcl2 i hkN (hts _ hlink) (fun _ z => z) hfin hpt hnr hft hlt2 hd (fun H1 locs1 hP1 hD1 hS1 => h ls H1 locs1 hl (by dsimp only; rw [mm_w_obj]; exact hP1) (by dsimp only; rw [mm_w_obj]; exact hD1) hS1)
        · exact va_putN hx hb hts hws ty0 hty hnm hown hK0 hP hD hS a he hcl2 i hkN (va_Nw.use rfl (hnest _ hlink)) (fun _ z => z) hfin hpt hnr hft hlt2 hd (fun H1 locs1 hP1 hD1 hS1 => h ls H1 locs1 hl (by dsimp only; rw [mm_w_obj]; exact hP1) (by dsimp only; rw [mm_w_obj]; exact hD1) hS1)
      · exact h.elim
    · exact h.elim
  | iaload =>
    obtain rfl := mm_l hlen (n := 0) rfl
    unfold mm_do at h
    dsimp only at h
    split at h
    · next x a r =>
      obtain ⟨n, f, hM, h⟩ := mm_ai_inv h
      obtain ⟨hin, h⟩ := h
      intro ls H locs hl hP hD hS
      exact va_iald hx hb hK0 hP a 0 (mm_w_at hM) rfl hin hd (h ls H locs hl hP hD hS)
    · exact h.elim
  | laload =>
    obtain rfl := mm_l hlen (n := 0) rfl
    unfold mm_do at h
    dsimp only at h
    split at h
    · next x a r =>
      obtain ⟨n, f, hM, h⟩ := mm_al_inv h
      obtain ⟨hin, h⟩ := h
      intro ls H locs hl hP hD hS
      exact va_lald hx hb hK0 hP a 1 (mm_w_at hM) rfl hin hd (h ls H locs hl hP hD hS)
    · exact h.elim
  | iastore =>
    obtain rfl := mm_l hlen (n := 0) rfl
    unfold mm_do at h
    dsimp only at h
    split at h
    · next v x a r =>
      obtain ⟨n, f, hM, h⟩ := mm_ai_inv h
      obtain ⟨hin, h⟩ := h
      intro ls H locs hl hP hD hS
      exact va_iast hx hb hK0 hP hD hS a 0 (mm_w_at hM) rfl hin hd (fun H1 locs1 hP1 hD1 hS1 => h ls H1 locs1 hl (by dsimp only; rw [mm_w_arr]; exact hP1) (by dsimp only; rw [mm_w_arr]; exact hD1) hS1)
    · exact h.elim
  | lastore =>
    obtain rfl := mm_l hlen (n := 0) rfl
    unfold mm_do at h
    dsimp only at h
    split at h
    · next v x a r =>
      obtain ⟨n, f, hM, h⟩ := mm_al_inv h
      obtain ⟨hin, h⟩ := h
      intro ls H locs hl hP hD hS
      exact va_last hx hb hK0 hP hD hS a 1 (mm_w_at hM) rfl hin hd (fun H1 locs1 hP1 hD1 hS1 => h ls H1 locs1 hl (by dsimp only; rw [mm_w_arr]; exact hP1) (by dsimp only; rw [mm_w_arr]; exact hD1) hS1)
    · exact h.elim
  | arraylength =>
    obtain rfl := mm_l hlen (n := 0) rfl
    unfold mm_do at h
    dsimp only at h
    split at h
    · next a r =>
      obtain ⟨n, f, hM, h⟩ := mm_ai_inv h
      intro ls H locs hl hP hD hS
      exact va_alen hx hb hK0 hP a 0 (mm_w_at hM) (ty := .int) rfl rfl hd (h ls H locs hl hP hD hS)
    · exact h.elim
  | invokevirtual k =>
    obtain rfl := mm_l hlen (n := 2) rfl
    replace h : mm_go K b Q (mm_X p l e (mm_room (d + 1) b) s m args below meth c D cl ad aC A nL QQ) (mm_cl P (mm_bt T) false k pc L S M u) := h
    unfold mm_cl at h
    split at h
    · exact h.elim
    next j n ci hf =>
    cases h98 : Nat.beq ci 98 with
    | true =>
      rw [h98] at h
      exact h.elim
    | false =>
      rw [h98] at h
      obtain ⟨hq, h⟩ := mm_cond_inv h
      rw [Bool.and_eq_true, Bool.and_eq_true] at hq
      obtain ⟨⟨q1, q2⟩, q3⟩ := hq
      refine hcl k j n ci hf (fun z => by rw [z] at h98; cases h98) false pc L S M u hd (Nat.le_of_ble_eq_true q1) (Nat.le_of_ble_eq_true q2) ?_ ?_ h.1 h.2
      · exact fun z => by cases z
      · intro _
        have q3 : (!(Nat.beq ci 99) && match (S.take n).reverse with
          | .ref a :: _ => match M[a]? with
            | some (.inr (c, _)) => Nat.beq c ci
            | _ => false
          | _ => false) = true := q3
        rw [Bool.and_eq_true] at q3
        obtain ⟨q4, q3⟩ := q3
        refine ⟨fun e9 => (by rw [e9] at q4; cases q4), ?_⟩
        split at q3
        · next a t heq =>
          split at q3
          · next c2 fs hM =>
            have e9 := Nat.eq_of_beq_eq_true q3
            subst e9
            exact ⟨a, t, fs, heq, hM⟩
          · cases q3
        · cases q3
  | invokestatic k =>
    obtain rfl := mm_l hlen (n := 2) rfl
    replace h : mm_go K b Q (mm_X p l e (mm_room (d + 1) b) s m args below meth c D cl ad aC A nL QQ) (mm_cl P (mm_bt T) true k pc L S M u) := h
    unfold mm_cl at h
    split at h
    · exact h.elim
    next j n ci hf =>
    cases h98 : Nat.beq ci 98 with
    | true =>
      rw [h98] at h
      replace h : mm_go K b Q (mm_X p l e (mm_room (d + 1) b) s m args below meth c D cl ad aC A nL QQ) (mm_cp pc L S M u) := h
      obtain ⟨hm1, hm2, hm3, hm4⟩ := (okm _ (mm_lk_mem hf)).1 (Nat.eq_of_beq_eq_true h98)
      unfold mm_cp at h
      split at h
      · next nn dp a sp a0 r =>
        obtain ⟨n0, f, hM0, h⟩ := mm_ai_inv h
        obtain ⟨n1, g, hM1, h⟩ := mm_ai_inv h
        obtain ⟨hrm, h⟩ := mm_cond_inv h
        have hrm : mm_cat r ≤ 8 := Nat.le_of_ble_eq_true hrm
        obtain ⟨⟨g1, g2, g3, g4, g5⟩, h⟩ := h
        intro ls H locs hl hP hD hS
        exact va_copyi hx hb (hml.trans hl.1.symm) hown (hts _ hm1) (hts _ hm2) (hts _ hm3) (hts _ hm4) hK0 hP hD hS a0 a 0 0 (mm_w_at hM0) (mm_w_at hM1) rfl rfl rfl g1 g2 g3 g4 g5 (fun _ _ => rfl) (show 1 ≤ 8 + (d + 1) by omega) (by
            rw [mm_cat_map]
            have hnf : nativeFrameWords "java/lang/System" "arraycopy" 5 ≤ 200 := by decide +kernel
            show mm_cat r + _ ≤ 300 + 64 * (d + 1)
            omega) hd (fun H1 locs1 hP1 hD1 hS1 => h ls H1 locs1 hl (by dsimp only; rw [mm_w_arr]; exact hP1) (by dsimp only; rw [mm_w_arr]; exact hD1) hS1)
      · exact h.elim
    | false =>
      rw [h98] at h
      obtain ⟨hq, h⟩ := mm_cond_inv h
      rw [Bool.and_eq_true, Bool.and_eq_true] at hq
      obtain ⟨⟨q1, q2⟩, q3⟩ := hq
      refine hcl k j n ci hf (fun z => by rw [z] at h98; cases h98) true pc L S M u hd (Nat.le_of_ble_eq_true q1) (Nat.le_of_ble_eq_true q2) ?_ ?_ h.1 h.2
      · exact fun _ => Nat.eq_of_beq_eq_true q3
      · exact fun z => by cases z
  | ireturn =>
    obtain rfl := mm_l hlen (n := 0) rfl
    unfold mm_do at h
    dsimp only at h
    split at h
    · next x =>
      split at h
      · exact hrt (some (.int x)) M u h.2.1 h.2.2 .ireturn pc hd (fun y e9 => by cases e9; exact ⟨rfl, Or.inl rfl⟩) (fun y e9 => by cases e9) (fun e9 => by cases e9) (fun v e9 => by cases e9; exact Or.inl ⟨_, rfl⟩) L
      · exact hrt (some (.int x)) M u h.2.1 h.2.2 .ireturn pc hd (fun y e9 => by cases e9; exact ⟨rfl, Or.inr ⟨rfl, h.1⟩⟩) (fun y e9 => by cases e9) (fun e9 => by cases e9) (fun v e9 => by cases e9; exact Or.inl ⟨_, rfl⟩) L
      · exact h.elim
    · exact h.elim
  | lreturn =>
    obtain rfl := mm_l hlen (n := 0) rfl
    unfold mm_do at h
    dsimp only at h
    split at h
    · next x => exact hrt (some (.long x)) M u h.2.1 h.2.2 .lreturn pc hd (fun y e9 => by cases e9) (fun y e9 => by cases e9; exact ⟨rfl, rfl⟩) (fun e9 => by cases e9) (fun v e9 => by cases e9; exact Or.inr ⟨_, rfl⟩) L
    · exact h.elim
  | return_ =>
    obtain rfl := mm_l hlen (n := 0) rfl
    unfold mm_do at h
    dsimp only at h
    split at h
    · exact hrt none M u h.2.1 h.2.2 .return_ pc hd (fun y e9 => by cases e9) (fun y e9 => by cases e9) (fun _ => ⟨rfl, rfl⟩) (fun v e9 => by cases e9) L
    · exact h.elim
  | new k =>
    unfold mm_do at h
    dsimp only at h
    split at h
    · next E hE => exact hthr pc E hE L M u h.2.1 h.2.2
    · exact h.elim
  | _ => exact h.elim
end
section
theorem mm_lg (ad : Nat → Nat) : ∀ a : List Value, (lg_sl (a.map (mm_v ad))).length = (lg_sl a).length
  | [] => rfl
  | v :: a => by
    have h := mm_lg ad a
    simp only [lg_sl, List.map_cons, List.flatMap_cons, List.length_append, mm_v_cat] at h ⊢
    rw [h]
    congr 1
    split <;> rfl
theorem mm_blind (Z : mm_Sx) (D : va_G) (cl : List vw_C) (ad aC : Nat → Nat) (sz : Nat) (M : mm_M) (av : List Value) : FrameBlind (va_Pc av (mm_Pw Z D cl ad aC sz M)) := by
  intro a U g mk q
  obtain ⟨q0, q1, qP, qK, qD, q3, q4, q5, q6, q7⟩ := q
  exact ⟨q0, q1, qP, va_K.moved (u := U) (U := U.calling g mk a) (Vm.Alike.refl U.vm) qK, qD, vx_Zq.moved (u := U) (U := U.calling g mk a) (Vm.Alike.refl U.vm) q3, vx_Zq.moved (u := U) (U := U.calling g mk a) (Vm.Alike.refl U.vm) q4, fun z hz => by
    obtain ⟨sa, h⟩ := q5 z hz
    exact ⟨sa, vk_R.same (u := U) (U := U.calling g mk a) rfl h⟩, fun z hz => va_Nw.same (u := U) (U := U.calling g mk a) rfl rfl (q6 z hz), fun z hz => va_Nw.same (u := U) (U := U.calling g mk a) rfl rfl (q7 z hz)⟩
theorem mm_stk (ad : Nat → Nat) (S : List Value) (n : Nat) : S.map (mm_v ad) = (((S.take n).reverse).map (mm_v ad)).reverse ++ (S.drop n).map (mm_v ad) := by
  rw [← List.map_reverse, List.reverse_reverse, ← List.map_append, List.take_append_drop]
theorem mm_goodS {G : List Cond} (hG : ∀ w ∈ G, goodWord w = true) {ws : List Cond} (h : ∀ w ∈ ws, w ∈ G) : GoodIn G ws := fun w hw => ⟨h w hw, good_of_word (hG w (h w hw))⟩
/-- what the tables must say of all methods -/
def mm_okT (Z : mm_Sx) (G : List Cond) (cl : List vw_C) (T : List mm_T) : Prop := (∀ w ∈ G, goodWord w = true) ∧ ∀ (j : Nat) (t : mm_T), T[j]? = some t → plainName t.1.cls = true ∧ mm_cd t ∈ G ∧ mm_ok Z G cl T t.1.cls t.2.1 t.2.2.2.2.2
/-- the throws of a method, each by a row of its own -/
def mm_okX (l : Launch) (Z : mm_Sx) (G : List Cond) (cl : List vw_C) (t : mm_T) : Prop :=
  ∀ (pc : Nat) (E : String), mm_lk t.2.2.2.2.2.2.2.2.2 pc = some E → ∀ (p : Program) (e : Env) (s : State) (m : MethodId) (args : Array Value) (below : List Frame) (meth : Method) (c : Code) (D : va_G) (ad aC : Nat → Nat) (A : Nat → Prop) (d : Nat) (Q : mm_R → mm_M → Prop),
    mm_Cx Z p s m args meth c D cl aC A G t.1.cls t.2.1 t.2.2.1 t.2.2.2.1 → mm_Th Z A s s.heap → ∀ L M u, u + 1 ≤ t.2.2.2.2.1 → Q (.inr E) M →
    mm_X p l e (mm_room (d + 1) t.2.2.2.2.1) s m args below meth c D cl ad aC A t.2.2.1 (vx_MQ below (mm_Qc D cl ad aC A Q) (mm_XC D cl ad aC A Q) args s t.2.2.2.2.1 (6 * t.2.2.2.2.1) A) (pc, L, [], M, u)
set_option maxHeartbeats 4000000 in
set_option maxRecDepth 100000 in
theorem mm_sound (l : Launch) (Z : mm_Sx) (G : List Cond) (cl : List vw_C) (T : List mm_T) (hT : mm_okT Z G cl T) (hXs : ∀ (j : Nat) (t : mm_T), T[j]? = some t → mm_okX l Z G cl t) :
    ∀ (d j : Nat) (a : List Value) (M : mm_M) (Q : mm_R → mm_M → Prop), mm_call T d j a M Q → ∀ t, T[j]? = some t → ∀ (D : va_G) (ad aC : Nat → Nat) (sz : Nat),
      vx_Met l t.1 (mm_cd t :: G) (mm_room d t.2.2.2.2.1) (va_Pc (a.map (mm_v ad)) (mm_Pw Z D cl ad aC sz M)) (mm_Qc D cl ad aC (va_A (mm_w ad aC 0 M) sz) Q) (mm_XC D cl ad aC (va_A (mm_w ad aC 0 M) sz) Q) t.2.2.2.2.1 (6 * t.2.2.2.2.1) (va_A (mm_w ad aC 0 M) sz)
  | 0, _, _, _, _, h, _, _, _, _, _, _ => h.elim
  | d + 1, j, a, M, Q, h, t, ht, D, ad, aC, sz => by
    obtain ⟨hG, hall⟩ := hT
    obtain ⟨hpl, hcd, hok⟩ := hall j t ht
    unfold mm_call at h
    rw [ht] at h
    obtain ⟨hlen, h⟩ := h
    refine vx_ofW (cc := t.2.1) (maxL := t.2.2.1) (ret := t.2.2.2.1) hpl rfl ?_
    intro p e s m args below meth c s₁ B hml htab hv
    obtain ⟨rfl, hsz, hP, hK, hD0, hTh⟩ := hv
    subst hsz
    have hts0 := atoms_spec (ws := mm_cd t :: G) B.pre
    have hts : ∀ w ∈ G, w.before (a.map (mm_v ad)).toArray s = true := fun w hw => hts0 w (List.mem_cons_of_mem _ hw)
    have hD := hD0.self (sz := s.heap.size)
    obtain ⟨A, hAe⟩ : ∃ z, z = va_A (mm_w ad aC 0 M) s.heap.size := ⟨_, rfl⟩
    rw [← hAe] at hD hTh ⊢
    have hA : ∀ q : Nat, s.heap.size ≤ q → A q := fun q h => by rw [hAe]; exact Or.inr h
    have C : mm_Cx Z p s m (a.map (mm_v ad)).toArray meth c D cl aC A G t.1.cls t.2.1 t.2.2.1 t.2.2.2.1 := ⟨B.exec, B.bytes, hml, findClass_of_methodNamed B.named, hts, B.returns, B.notSynchronized, htab, hK, hA, hTh.2.2.2.1⟩
    have hx := B.exec
    have hb := B.bytes
    have hr := B.returns
    have hlocks := B.notSynchronized
    have hown := findClass_of_methodNamed B.named
    have key := h _ (mm_close (l := l) (e := e) (below := below) (ad := ad) (d := d) (K := mm_call T d) (Q := Q) (b := t.2.2.2.2.1) (QQ := vx_MQ below (mm_Qc D cl ad aC A Q) (mm_XC D cl ad aC A Q) (a.map (mm_v ad)).toArray s t.2.2.2.2.1 (6 * t.2.2.2.2.1) A) C hok
      (fun pc E hE L M u hu hq => hXs j t ht pc E hE p e s m _ below meth c D ad aC A d Q C hTh L M u hu hq) ?_ ?_)
    · have hl := lv_entry (a.map (mm_v ad)) (n := t.2.2.1) (by rw [mm_lg]; exact hlen)
      rw [mm_lv_args] at hl
      rw [lg_entry_eq]
      exact key _ s.heap [] hl hP hD va_S.rf
    · intro r M1 u hu hq i pc hd h1 h2 h3 h4 L ls H locs hl hP1 hD1 hS1
      refine W.widen (k := t.2.2.2.2.1) (n := 6 * t.2.2.2.2.1) hu (Nat.mul_le_mul_left 6 hu) ?_
      have hend : ∀ t1 : State, t1.heap = H → s.WarmedH t1.vm → mm_Qc D cl ad aC A Q (a.map (mm_v ad)).toArray s (.returned (r.map (mm_v ad))) t1 := fun t1 ht1 hW => ⟨r, M1, rfl, hq, ⟨by rw [ht1]; exact hP1, va_K.moved hW.alike hK, hD1⟩, hS1.F ht1⟩
      cases r with
      | none =>
        obtain ⟨rfl, hret⟩ := h3 rfl
        exact vx_ret (W.vret hx hb (hr.trans hret) hend hS1.2.2 hd hlocks)
      | some v =>
        rcases h4 v rfl with ⟨x, rfl⟩ | ⟨x, rfl⟩
        · obtain ⟨rfl, hret | ⟨hret, hz⟩⟩ := h1 x rfl
          · exact vx_ret (W.iret hx hb (hr.trans hret) hend hS1.2.2 hd hlocks)
          · exact vx_ret (W.zret hx hb (hr.trans hret) (mm_narZ hz).1 hend hS1.2.2 hd hlocks)
        · obtain ⟨rfl, hret⟩ := h2 x rfl
          exact vx_ret (W.lret hx hb (hr.trans hret) hend hS1.2.2 hd hlocks)
    · intro k j1 n ci hf h98 st pc L S M1 u hd hn hcat hst hsv hu hK1 ls H locs hl hP1 hD1 hS1
      obtain ⟨t1, ht1, w1, w2, w3, hmx, hmh, hs9, hv9⟩ := (hok.2.2.2 _ (mm_lk_mem hf)).2 h98
      dsimp only at ht1 w2 hs9 hv9
      have hbt : mm_bt T j1 = t1.2.2.2.2.1 := by unfold mm_bt; rw [ht1]
      have hM := mm_sound l Z G cl T ⟨hG, hall⟩ hXs d j1 _ M1 _ hK1 t1 ht1 D ad aC H.size
      have hfr : ∀ q, va_A (mm_w ad aC 0 M1) H.size q → A q := fun q hq => by
        rcases hq with ⟨k9, e9, h9⟩ | h9
        · exact hD1.2 k9 (q, e9) h9
        · exact hA q (Nat.le_trans hS1.1 h9)
      have hpre : ∀ U : State, U.heap = H → s.WarmedH U.vm → mm_Pw Z D cl ad aC H.size M1 U := fun U hU hW =>
        ⟨by rw [hU], by rw [hU]; exact hP1, va_K.moved hW.alike hK, hD1.weaken (fun _ _ _ _ => trivial),
          by rw [hU]; exact vx_Zq.moved hW.alike ((hTh.1.kept hS1.2.1).narrow hfr), by rw [hU]; exact vx_Zq.moved hW.alike ((hTh.2.1.kept hS1.2.1).narrow hfr), fun z hz => by
            obtain ⟨sa, h9⟩ := hTh.2.2.1 z hz
            exact ⟨sa, vk_R.warm hW h9⟩, fun z hz => va_Nw.warmF hW (hTh.2.2.2.1 z hz), fun z hz => va_Nw.warmC hW (hTh.2.2.2.2 z hz)⟩
      have hroom : (mm_room d t1.2.2.2.2.1).frames + 1 ≤ (mm_room (d + 1) t.2.2.2.2.1).frames ∧ 8 + (t1.2.2.1 + 11) + (mm_room d t1.2.2.2.2.1).locals ≤ (mm_room (d + 1) t.2.2.2.2.1).locals := by
        constructor
        · show 8 + d + 1 ≤ 8 + (d + 1)
          omega
        · show 8 + (t1.2.2.1 + 11) + (300 + 64 * d) ≤ 300 + 64 * (d + 1)
          omega
      have hcells : u + t1.2.2.2.2.1 ≤ (mm_room (d + 1) t.2.2.2.2.1).cells ∧ 6 * u + 6 * t1.2.2.2.2.1 ≤ (mm_room (d + 1) t.2.2.2.2.1).slots := by
        rw [hbt] at hu
        constructor
        · exact hu
        · show 6 * u + 6 * t1.2.2.2.2.1 ≤ 6 * t.2.2.2.2.1
          omega
      have hcw : ∀ w ∈ mm_cd t1 :: G, w ∈ G := fun w hw => (List.mem_cons.mp hw).elim (fun e9 => by rw [e9]; exact w1) id
      have hrun : vx_Run p l e (mm_room (d + 1) t.2.2.2.2.1) s m (a.map (mm_v ad)).toArray below meth c H locs u (6 * u) t1.2.2.2.2.1 (6 * t1.2.2.2.2.1) (F0 m pc ls (S.map (mm_v ad))) ((S.drop n).map (mm_v ad)) (mm_Qc D cl ad aC (va_A (mm_w ad aC 0 M1) H.size) (fun r M' => match r with
          | .inl v => mm_X p l e (mm_room (d + 1) t.2.2.2.2.1) s m (a.map (mm_v ad)).toArray below meth c D cl ad aC A t.2.2.1 (vx_MQ below (mm_Qc D cl ad aC A Q) (mm_XC D cl ad aC A Q) (a.map (mm_v ad)).toArray s t.2.2.2.2.1 (6 * t.2.2.2.2.1) A) (pc + 3, L, v.toList ++ S.drop n, M', u + mm_bt T j1)
          | .inr E => Q (.inr E) M') (((S.take n).reverse).map (mm_v ad)).toArray) (mm_XC D cl ad aC (va_A (mm_w ad aC 0 M1) H.size) (fun r M' => match r with
          | .inl v => mm_X p l e (mm_room (d + 1) t.2.2.2.2.1) s m (a.map (mm_v ad)).toArray below meth c D cl ad aC A t.2.2.1 (vx_MQ below (mm_Qc D cl ad aC A Q) (mm_XC D cl ad aC A Q) (a.map (mm_v ad)).toArray s t.2.2.2.2.1 (6 * t.2.2.2.2.1) A) (pc + 3, L, v.toList ++ S.drop n, M', u + mm_bt T j1)
          | .inr E => Q (.inr E) M')) (va_A (mm_w ad aC 0 M1) H.size) := by
        cases st with
        | true =>
          obtain ⟨w4, hpar⟩ := hs9 (hst rfl)
          refine vx_runS (As := ((S.take n).reverse).map (mm_v ad)) (n := n) (own := t.1.cls) (Ts := G) ⟨hx, hb, hml, hown, hts⟩ hM (va_cwS n hts (mm_goodS hG ?_) rfl rfl rfl ⟨hmh.1, hmh.2, hpar⟩ hroom) ⟨mm_blind _ _ _ _ _ _ _ _, fun U hU hW => ⟨rfl, hpre U hU hW⟩⟩ rfl ?_ hl.1 (mm_stk ad S n) (lv_room (by rw [mm_cat_map]; exact hcat)) hd hcells
          · intro w hw
            rcases List.mem_append.mp hw with hw | hw
            · simp only [List.mem_cons, List.not_mem_nil, or_false] at hw
              rcases hw with rfl | rfl | rfl
              · exact w2
              · exact w4
              · exact w3
            · exact hcw w hw
          · simp only [List.length_map, List.length_reverse, List.length_take]
            omega
        | false =>
          obtain ⟨h99, a9, t9, fs, heq, hM9⟩ := hsv rfl
          obtain ⟨w4, w5, ⟨z, hz, hz1⟩, n9, hn9, hpar⟩ := hv9 h99
          have hlt : t9.length = n9 := by
            have e9 := congrArg List.length heq
            simp only [List.length_reverse, List.length_take, List.length_cons] at e9
            omega
          have hstk : S.map (mm_v ad) = (t9.map (mm_v ad)).reverse ++ .ref (ad a9) :: (S.drop n).map (mm_v ad) := by
            rw [mm_stk ad S n, heq]
            simp only [List.map_cons, List.reverse_cons, List.append_assoc, List.singleton_append, mm_v]
          have hrec := va_recv hK hP1 hz (mm_w_at (ad := ad) (aC := aC) hM9)
          rw [hz1] at hrec
          rw [heq] at hM ⊢
          refine vx_runV (As := t9.map (mm_v ad)) (b := ad a9) (n := n9) (own := t.1.cls) (C := t1.1.cls) (Ts := G) ⟨hx, hb, hml, hown, hts⟩ hM (cwV n9 hts (mm_goodS hG ?_) rfl rfl rfl ⟨rfl, hmh.1, hmh.2, hpar⟩ hroom) ⟨mm_blind _ _ _ _ _ _ _ _, hrec, fun U hU hW => ⟨rfl, hpre U hU hW⟩⟩ rfl ?_ hl.1 hstk (lv_room (by rw [mm_cat_map]; exact hcat)) hd hcells
          · intro w hw
            rcases List.mem_append.mp hw with hw | hw
            · simp only [List.mem_cons, List.not_mem_nil, or_false] at hw
              rcases hw with rfl | rfl | rfl | rfl
              · exact w2
              · exact w4
              · exact w5
              · exact w3
            · exact hcw w hw
          · rw [List.length_map]; exact hlt
      refine mm_callrow hrun hS1 (fun q _ h9 => hfr q h9) hfr ?_ ?_
      · intro E ce q9 M2 t2 H1 locs1 ht2 hvm hq hB hz hk hS2 hce hcv hcls
        obtain ⟨hP2, -, hD2⟩ := hB
        rw [ht2] at hP2
        rw [hbt] at hu
        exact vx_out (fun x hx9 => (htab x hx9).elim) hlocks hce hcv hcls (fun t3 ht3 hvm3 => ⟨M2, hq, ⟨by rw [ht3]; exact hP2, va_K.moved hvm3 hK, hD2.weaken (fun _ q _ h9 => hfr q.1 h9)⟩, hS2.F ht3⟩) hS2.2.2 hu (show 6 * u + 6 * t1.2.2.2.2.1 ≤ 6 * t.2.2.2.2.1 by omega)
      · intro v M2 t2 H1 locs1 ht2 hvm hq hB hz hk hS2
        obtain ⟨hP2, -, hD2⟩ := hB
        rw [ht2] at hP2
        have hX := hq ls H1 locs1 hl hP2 (hD2.weaken (fun _ q _ h9 => hfr q.1 h9)) hS2
        dsimp only at hX
        rw [hbt, Nat.mul_add] at hX
        refine W.eq ?_ hX
        cases v <;> rfl
/-- a throw: new, dup, ldc, invokespecial, athrow, with nothing else on the stack -/
theorem mm_throw {l : Launch} (hl : l.stackTraces = false) {Z : mm_Sx} {G : List Cond} {cl : List vw_C} {t : mm_T} {E text : String} {names : List String} {ik is ic pc : Nat}
    (hcls : Bundle.fit E = true) (hnames : ∀ n ∈ names, Bundle.fit n = true) (hlen : names.length = 2) (w1 : Cond.classLink t.1.cls ik E ∈ G) (w2 : Cond.initialized E ∈ G) (hstr : (t.1.cls, is, text) ∈ Z.1) (hcast : E ∈ Z.2.2)
    (hat : ∀ w ∈ vx_atS t.1.cls ic E names, w = .castable E E ∨ w ∈ G) (hgood : ∀ w ∈ Cond.classLink t.1.cls ik E :: Cond.initialized E :: vx_atS t.1.cls ic E names, vx_ot w = true)
    (d0 : decode t.2.1 pc = .ok (.new ik, 3)) (d3 : decode t.2.1 (pc + 3) = .ok (.dup, 1)) (d4 : decode t.2.1 (pc + 4) = .ok (.ldc is, 2)) (d6 : decode t.2.1 (pc + 6) = .ok (.invokespecial ic, 3)) (d9 : decode t.2.1 (pc + 9) = .ok (.athrow, 1))
    (p : Program) (e : Env) (s : State) (m : MethodId) (args : Array Value) (below : List Frame) (meth : Method) (c : Code) (D : va_G) (ad aC : Nat → Nat) (A : Nat → Prop) (d : Nat) (Q : mm_R → mm_M → Prop)
    (C : mm_Cx Z p s m args meth c D cl aC A G t.1.cls t.2.1 t.2.2.1 t.2.2.2.1) (hTh : mm_Th Z A s s.heap) (L : mm_L) (M : mm_M) (u : Nat) (hu : u + 1 ≤ t.2.2.2.2.1) (hq : Q (.inr E) M) :
    mm_X p l e (mm_room (d + 1) t.2.2.2.2.1) s m args below meth c D cl ad aC A t.2.2.1 (vx_MQ below (mm_Qc D cl ad aC A Q) (mm_XC D cl ad aC A Q) args s t.2.2.2.2.1 (6 * t.2.2.2.2.1) A) (pc, L, [], M, u) := by
  intro ls H locs hl1 hP hD hS
  obtain ⟨hx, hb, hml, hown, hts, hr, hlk, htab, hK0, hA, -⟩ := C
  obtain ⟨sa, hsa⟩ := hTh.2.2.1 _ hstr
  refine vx_throwS (names := names) (text := text) (sa := sa) hx hb hl hown hcls hnames (hts _ w1) (hts _ w2) hsa (fun w hw => ?_) hgood hTh.1 hTh.2.1 hS (hl1.1.trans hml.symm) d0 d3 d4 d6 d9 (fun x hx9 => (htab x hx9).elim) ?_ ?_ ?_ ?_ hlk ?_ hS.2.2 hu ?_
  · rcases hat w hw with rfl | h
    · exact va_Nw.use rfl (hTh.2.2.2.2 E hcast)
    · exact hts w h
  · show names.length + 3 < 8 + (d + 1)
    omega
  · show (([] : List Value).map fun v => v.category).sum + (13 * (names.length + 1) + 43) ≤ 300 + 64 * (d + 1)
    simp only [List.map_nil, List.sum_nil]
    omega
  · exact hu
  · show 6 * u + 6 ≤ 6 * t.2.2.2.2.1
    omega
  · intro t1 hvm hz hk
    exact ⟨M, hq, ⟨fun k q hq9 => (hP k q hq9).kept (hk q.1 (hP k q hq9).lt), va_K.moved hvm hK0, hD⟩, Nat.le_trans hS.1 hz, fun q h1 h2 => (hk q (Nat.lt_of_lt_of_le h1 hS.1)).trans (hS.2.1 q h1 h2)⟩
  · show 6 * u + 6 ≤ 6 * t.2.2.2.2.1
    omega
end
section
/-! how a method is walked on the small machine -/
section MMU
variable {K : mm_K} {P : mm_P} {bt : Nat → Nat} {b : Nat} {ret : Option FieldType} {nL : Nat} {Q : mm_R → mm_M → Prop}
theorem mm_need (hK : mm_mono K) {st s' : mm_St} {c : Prop} (e : mm_next P bt ret nL st = mm_n c s') (hc : c) (h : mm_W K P bt b ret nL Q s') : mm_W K P bt b ret nL Q st := mm_fold hK (by rw [e]; exact ⟨hc, h⟩)
theorem mm_branch (hK : mm_mono K) {st s1 s2 : mm_St} {c : Prop} (e : mm_next P bt ret nL st = mm_b c s1 s2) (h1 : c → mm_W K P bt b ret nL Q s1) (h2 : ¬ c → mm_W K P bt b ret nL Q s2) : mm_W K P bt b ret nL Q st := mm_fold hK (by rw [e]; exact ⟨h1, h2, trivial⟩)
theorem mm_ret (hK : mm_mono K) {st : mm_St} {c : Prop} {r : mm_R} {M : mm_M} {u : Nat} (e : mm_next P bt ret nL st = mm_e c r M u) (hc : c) (hu : u ≤ b) (h : Q r M) : mm_W K P bt b ret nL Q st := mm_fold hK (by rw [e]; exact ⟨hc, hu, h⟩)
theorem mm_inv (hK : mm_mono K) {st : mm_St} {j : Nat} {a : List Value} {M : mm_M} {k : Option Value → mm_M → mm_St} {u : Nat} (e : mm_next P bt ret nL st = some (.inr (.inr (.inr (.inr (j, a, M, k, u)))))) (hu : u ≤ b)
    (h : K j a M (fun r M' => match r with
      | .inl v => mm_W K P bt b ret nL Q (k v M')
      | .inr E => Q (.inr E) M')) : mm_W K P bt b ret nL Q st := mm_fold hK (by rw [e]; exact ⟨hu, h⟩)
theorem mm_switch (hK : mm_mono K) {st : mm_St} {w : List (Prop × mm_St)} (e : mm_next P bt ret nL st = some (.inr (.inr (.inl w)))) (h : mm_all (mm_W K P bt b ret nL Q) w) : mm_W K P bt b ret nL Q st := mm_fold hK (by rw [e]; exact h)
end MMU
theorem mm_in {T : List mm_T} {d j : Nat} {t : mm_T} {a : List Value} {M : mm_M} {Q : mm_R → mm_M → Prop} (ht : T[j]? = some t) (hl : (lg_sl a).length ≤ t.2.2.1) (h : mm_W (mm_call T d) t.2.2.2.2.2 (mm_bt T) t.2.2.2.2.1 t.2.2.2.1 t.2.2.1 Q (0, lv_args 0 a, [], M, 0)) : mm_call T (d + 1) j a M Q := by
  unfold mm_call
  rw [ht]
  exact ⟨hl, h⟩
/-- the class's world: RootCompass at 0, its Numbers at 1, its Cut at 2, then its rows -/
abbrev mm_cu : Type := Int32 × Int32 × Int32 × Int32 × Int32 × Int32 × Int32
def wC (ov un : Nat → Int32) (nx dp fa : Int32) (cu : mm_cu) (st fi se th db : Nat → Int32) (cn : Int32) : mm_M :=
  [.inr (2, [.ref 1, .ref 2, .ref 3, .ref 4, .ref 5, .ref 6, .ref 7, .int cn]), .inr (1, [.ref 8, .ref 9, .int 308, .int nx, .int dp, .int fa]),
    .inr (0, [.int cu.1, .int cu.2.1, .int cu.2.2.1, .int cu.2.2.2.1, .int cu.2.2.2.2.1, .int cu.2.2.2.2.2.1, .int cu.2.2.2.2.2.2]),
    .inl (0, 24, .inl st), .inl (0, 24, .inl fi), .inl (0, 24, .inl se), .inl (0, 24, .inl th), .inl (0, 25, .inl db), .inl (0, 1332, .inl ov), .inl (0, 1332, .inl un)]
/-- the reference's world: itself at 0, then its rows -/
def wM (p q op oq : Nat → Int64) (tr dp wi fa ob : Int32) (st of : Nat → Int32) : mm_M :=
  [.inr (3, [.int tr, .int dp, .int wi, .int fa, .ref 1, .ref 2, .ref 3, .ref 4, .int ob, .ref 5, .ref 6]), .inl (1, 480, .inr (.inl p)), .inl (1, 480, .inr (.inl q)), .inl (1, 292, .inr (.inl op)), .inl (1, 292, .inr (.inl oq)), .inl (0, 24, .inl st), .inl (0, 96, .inl of)]
end
section
def mp_C_free : mm_P := ([(0, .iload_n 1, 1), (1, .iload_n 2, 1), (2, .iload_n 3, 1), (3, .iload 4, 2), (5, .invokestatic 45, 3), (8, .ifCond .ne 13, 3), (11, .new 49, 3), (21, .aload_n 0, 1), (22, .iconst 0, 1), (23, .iconst 0, 1), (24, .iconst 0, 1), (25, .iconst 0, 1), (26, .invokevirtual 56, 3), (29, .istore 5, 2), (31, .aload_n 0, 1), (32, .iload 5, 2), (34, .iload_n 1, 1), (35, .iload_n 2, 1), (36, .iload_n 3, 1), (37, .iload 4, 2), (39, .invokevirtual 60, 3), (42, .aload_n 0, 1), (43, .aload_n 0, 1), (44, .iload 5, 2), (46, .invokevirtual 64, 3), (49, .invokevirtual 68, 3), (52, .ireturn, 1)],
  [],
  [],
  [(45, 22, 4, 99), (56, 24, 5, 2), (60, 39, 6, 2), (64, 27, 2, 2), (68, 25, 2, 2)],
  [(11, "java/lang/IllegalArgumentException")])
def mp_C_free_t : mm_T := (⟨"RootCompass", "free", "(IIII)I"⟩, prog_1_method_2_code, 6, (some .int), 4, mp_C_free)
def mp_C_line : mm_P := ([(0, .aload_n 0, 1), (1, .iload_n 1, 1), (2, .invokevirtual 71, 3), (5, .ifCond .eq 11, 3), (8, .aload_n 0, 1), (9, .iload_n 2, 1), (10, .invokevirtual 71, 3), (13, .ifCond .ne 13, 3), (16, .new 49, 3), (26, .aload_n 0, 1), (27, .aload_n 0, 1), (28, .aload_n 0, 1), (29, .iconst 1, 1), (30, .iload_n 1, 1), (31, .iload_n 2, 1), (32, .iconst 0, 1), (33, .invokevirtual 56, 3), (36, .invokevirtual 64, 3), (39, .invokevirtual 68, 3), (42, .ireturn, 1)],
  [],
  [],
  [(56, 24, 5, 2), (64, 27, 2, 2), (68, 25, 2, 2), (71, 18, 2, 2)],
  [(16, "java/lang/IllegalArgumentException")])
def mp_C_line_t : mm_T := (⟨"RootCompass", "line", "(II)I"⟩, prog_1_method_3_code, 3, (some .int), 4, mp_C_line)
def mp_C_circle : mm_P := ([(0, .aload_n 0, 1), (1, .iload_n 1, 1), (2, .invokevirtual 71, 3), (5, .ifCond .eq 19, 3), (8, .aload_n 0, 1), (9, .iload_n 2, 1), (10, .invokevirtual 71, 3), (13, .ifCond .eq 11, 3), (16, .aload_n 0, 1), (17, .iload_n 3, 1), (18, .invokevirtual 71, 3), (21, .ifCond .ne 13, 3), (24, .new 49, 3), (34, .aload_n 0, 1), (35, .aload_n 0, 1), (36, .aload_n 0, 1), (37, .iconst 2, 1), (38, .iload_n 1, 1), (39, .iload_n 2, 1), (40, .iload_n 3, 1), (41, .invokevirtual 56, 3), (44, .invokevirtual 64, 3), (47, .invokevirtual 68, 3), (50, .ireturn, 1)],
  [],
  [],
  [(56, 24, 5, 2), (64, 27, 2, 2), (68, 25, 2, 2), (71, 18, 2, 2)],
  [(24, "java/lang/IllegalArgumentException")])
def mp_C_circle_t : mm_T := (⟨"RootCompass", "circle", "(III)I"⟩, prog_1_method_4_code, 4, (some .int), 4, mp_C_circle)
def mp_C_middle : mm_P := ([(0, .aload_n 0, 1), (1, .iload_n 1, 1), (2, .invokevirtual 71, 3), (5, .ifCond .eq 11, 3), (8, .aload_n 0, 1), (9, .iload_n 2, 1), (10, .invokevirtual 71, 3), (13, .ifCond .ne 13, 3), (16, .new 49, 3), (26, .aload_n 0, 1), (27, .aload_n 0, 1), (28, .aload_n 0, 1), (29, .iconst 3, 1), (30, .iload_n 1, 1), (31, .iload_n 2, 1), (32, .iconst 0, 1), (33, .invokevirtual 56, 3), (36, .invokevirtual 64, 3), (39, .invokevirtual 68, 3), (42, .ireturn, 1)],
  [],
  [],
  [(56, 24, 5, 2), (64, 27, 2, 2), (68, 25, 2, 2), (71, 18, 2, 2)],
  [(16, "java/lang/IllegalArgumentException")])
def mp_C_middle_t : mm_T := (⟨"RootCompass", "middle", "(II)I"⟩, prog_1_method_5_code, 3, (some .int), 4, mp_C_middle)
def mp_C_meet : mm_P := ([(0, .aload_n 0, 1), (1, .iload_n 1, 1), (2, .invokevirtual 77, 3), (5, .ifCond .eq 16, 3), (8, .aload_n 0, 1), (9, .iload_n 2, 1), (10, .invokevirtual 77, 3), (13, .ifCond .eq 8, 3), (16, .iload_n 1, 1), (17, .iload_n 2, 1), (18, .if_icmp .ne 13, 3), (21, .new 49, 3), (31, .aload_n 0, 1), (32, .iload_n 1, 1), (33, .invokevirtual 82, 3), (36, .ifCond .eq 7, 3), (39, .iconst 1, 1), (40, .goto 4, 3), (43, .iconst 0, 1), (44, .aload_n 0, 1), (45, .iload_n 2, 1), (46, .invokevirtual 82, 3), (49, .ifCond .eq 7, 3), (52, .iconst 1, 1), (53, .goto 4, 3), (56, .iconst 0, 1), (57, .iadd, 1), (58, .istore 4, 2), (60, .iload_n 3, 1), (61, .ifCond .lt 17, 3), (64, .iload_n 3, 1), (65, .iload 4, 2), (67, .ifCond .ne 7, 3), (70, .iconst 0, 1), (71, .goto 4, 3), (74, .iconst 1, 1), (75, .if_icmp .le 13, 3), (78, .new 49, 3), (88, .iload 4, 2), (90, .iconst 1, 1), (91, .if_icmp .eq 30, 3), (94, .aload_n 0, 1), (95, .aload_n 0, 1), (96, .aload_n 0, 1), (97, .iload 4, 2), (99, .ifCond .ne 7, 3), (102, .iconst 4, 1), (103, .goto 5, 3), (106, .bipush 6, 2), (108, .iload_n 1, 1), (109, .iload_n 2, 1), (110, .iload_n 3, 1), (111, .invokevirtual 56, 3), (114, .invokevirtual 64, 3), (117, .invokevirtual 68, 3), (120, .ireturn, 1), (121, .aload_n 0, 1), (122, .aload_n 0, 1), (123, .aload_n 0, 1), (124, .iconst 5, 1), (125, .aload_n 0, 1), (126, .iload_n 1, 1), (127, .invokevirtual 87, 3), (130, .ifCond .eq 7, 3), (133, .iload_n 1, 1), (134, .goto 4, 3), (137, .iload_n 2, 1), (138, .aload_n 0, 1), (139, .iload_n 1, 1), (140, .invokevirtual 87, 3), (143, .ifCond .eq 7, 3), (146, .iload_n 2, 1), (147, .goto 4, 3), (150, .iload_n 1, 1), (151, .iload_n 3, 1), (152, .invokevirtual 56, 3), (155, .invokevirtual 64, 3), (158, .invokevirtual 68, 3), (161, .ireturn, 1)],
  [],
  [],
  [(56, 24, 5, 2), (64, 27, 2, 2), (68, 25, 2, 2), (77, 21, 2, 2), (82, 20, 2, 2), (87, 19, 2, 2)],
  [(21, "java/lang/IllegalArgumentException"), (78, "java/lang/IllegalArgumentException")])
def mp_C_meet_t : mm_T := (⟨"RootCompass", "meet", "(III)I"⟩, prog_1_method_6_code, 5, (some .int), 4, mp_C_meet)
def mp_C_move : mm_P := ([(0, .aload_n 0, 1), (1, .iload_n 1, 1), (2, .invokevirtual 71, 3), (5, .ifCond .eq 12, 3), (8, .aload_n 0, 1), (9, .getfield 25, 3), (12, .iload_n 1, 1), (13, .iaload, 1), (14, .ifCond .eq 13, 3), (17, .new 49, 3), (27, .iload_n 2, 1), (28, .iload_n 3, 1), (29, .iload 4, 2), (31, .iload 5, 2), (33, .invokestatic 45, 3), (36, .ifCond .ne 13, 3), (39, .new 49, 3), (49, .aload_n 0, 1), (50, .iload_n 1, 1), (51, .bipush 24, 2), (53, .invokevirtual 92, 3), (56, .aload_n 0, 1), (57, .iload_n 1, 1), (58, .iload_n 2, 1), (59, .iload_n 3, 1), (60, .iload 4, 2), (62, .iload 5, 2), (64, .invokevirtual 60, 3), (67, .aload_n 0, 1), (68, .iload_n 1, 1), (69, .invokevirtual 64, 3), (72, .istore 6, 2), (74, .iload 6, 2), (76, .iconst (-1), 1), (77, .if_icmp .eq 16, 3), (80, .aload_n 0, 1), (81, .bipush 24, 2), (83, .iload_n 1, 1), (84, .invokevirtual 92, 3), (87, .aload_n 0, 1), (88, .iload_n 1, 1), (89, .invokevirtual 64, 3), (92, .pop, 1), (93, .iload 6, 2), (95, .ireturn, 1)],
  [(25, 2, 2, 2)],
  [],
  [(45, 22, 4, 99), (60, 39, 6, 2), (64, 27, 2, 2), (71, 18, 2, 2), (92, 40, 3, 2)],
  [(17, "java/lang/IllegalArgumentException"), (39, "java/lang/IllegalArgumentException")])
def mp_C_move_t : mm_T := (⟨"RootCompass", "move", "(IIIII)I"⟩, prog_1_method_7_code, 7, (some .int), 4, mp_C_move)
def mp_C_undo : mm_P := ([(0, .aload_n 0, 1), (1, .getfield 41, 3), (4, .ifCond .ne 5, 3), (7, .iconst 0, 1), (8, .ireturn, 1), (9, .aload_n 0, 1), (10, .dup, 1), (11, .getfield 41, 3), (14, .iconst 1, 1), (15, .isub, 1), (16, .putfield 41, 3), (19, .aload_n 0, 1), (20, .getfield 14, 3), (23, .aload_n 0, 1), (24, .getfield 38, 3), (27, .aload_n 0, 1), (28, .getfield 41, 3), (31, .iaload, 1), (32, .putfield 96, 3), (35, .iconst 1, 1), (36, .ireturn, 1)],
  [(14, 2, 0, 2), (38, 2, 6, 2), (41, 2, 7, 0), (96, 1, 4, 0)],
  [],
  [],
  [])
def mp_C_undo_t : mm_T := (⟨"RootCompass", "undo", "()Z"⟩, prog_1_method_8_code, 1, (some .boolean), 0, mp_C_undo)
def mp_C_on : mm_P := ([(0, .aload_n 0, 1), (1, .iload_n 1, 1), (2, .invokevirtual 71, 3), (5, .ifCond .eq 11, 3), (8, .aload_n 0, 1), (9, .iload_n 2, 1), (10, .invokevirtual 77, 3), (13, .ifCond .ne 13, 3), (16, .new 49, 3), (26, .aload_n 0, 1), (27, .getfield 14, 3), (30, .invokevirtual 101, 3), (33, .aload_n 0, 1), (34, .iload_n 2, 1), (35, .invokevirtual 87, 3), (38, .ifCond .eq 12, 3), (41, .aload_n 0, 1), (42, .iload_n 1, 1), (43, .iload_n 2, 1), (44, .invokevirtual 104, 3), (47, .goto 25, 3), (50, .aload_n 0, 1), (51, .getfield 14, 3), (54, .aload_n 0, 1), (55, .aload_n 0, 1), (56, .getfield 29, 3), (59, .iload_n 2, 1), (60, .iaload, 1), (61, .iload_n 1, 1), (62, .invokevirtual 108, 3), (65, .iload_n 2, 1), (66, .invokestatic 112, 3), (69, .invokevirtual 115, 3), (72, .istore_n 3, 1), (73, .aload_n 0, 1), (74, .invokevirtual 118, 3), (77, .iload_n 3, 1), (78, .ireturn, 1)],
  [(14, 2, 0, 2), (29, 2, 3, 2)],
  [],
  [(71, 18, 2, 2), (77, 21, 2, 2), (87, 19, 2, 2), (101, 122, 1, 1), (104, 36, 3, 2), (108, 38, 3, 2), (112, 46, 1, 99), (115, 125, 3, 1), (118, 26, 1, 2)],
  [(16, "java/lang/IllegalArgumentException")])
def mp_C_on_t : mm_T := (⟨"RootCompass", "on", "(II)Z"⟩, prog_1_method_9_code, 4, (some .boolean), 4, mp_C_on)
def mp_C_same : mm_P := ([(0, .aload_n 0, 1), (1, .iload_n 1, 1), (2, .invokevirtual 71, 3), (5, .ifCond .eq 11, 3), (8, .aload_n 0, 1), (9, .iload_n 2, 1), (10, .invokevirtual 71, 3), (13, .ifCond .ne 13, 3), (16, .new 49, 3), (26, .aload_n 0, 1), (27, .iload_n 1, 1), (28, .iload_n 2, 1), (29, .invokevirtual 121, 3), (32, .ireturn, 1)],
  [],
  [],
  [(71, 18, 2, 2), (121, 37, 3, 2)],
  [(16, "java/lang/IllegalArgumentException")])
def mp_C_same_t : mm_T := (⟨"RootCompass", "same", "(II)Z"⟩, prog_1_method_10_code, 3, (some .boolean), 4, mp_C_same)
def mp_C_equal : mm_P := ([(0, .aload_n 0, 1), (1, .iload_n 1, 1), (2, .invokevirtual 71, 3), (5, .ifCond .eq 28, 3), (8, .aload_n 0, 1), (9, .iload_n 2, 1), (10, .invokevirtual 71, 3), (13, .ifCond .eq 20, 3), (16, .aload_n 0, 1), (17, .iload_n 3, 1), (18, .invokevirtual 71, 3), (21, .ifCond .eq 12, 3), (24, .aload_n 0, 1), (25, .iload 4, 2), (27, .invokevirtual 71, 3), (30, .ifCond .ne 13, 3), (33, .new 49, 3), (43, .aload_n 0, 1), (44, .getfield 14, 3), (47, .invokevirtual 101, 3), (50, .aload_n 0, 1), (51, .getfield 14, 3), (54, .aload_n 0, 1), (55, .iload_n 1, 1), (56, .iload_n 2, 1), (57, .invokevirtual 108, 3), (60, .aload_n 0, 1), (61, .iload_n 3, 1), (62, .iload 4, 2), (64, .invokevirtual 108, 3), (67, .invokevirtual 115, 3), (70, .istore 5, 2), (72, .aload_n 0, 1), (73, .invokevirtual 118, 3), (76, .iload 5, 2), (78, .ireturn, 1)],
  [(14, 2, 0, 2)],
  [],
  [(71, 18, 2, 2), (101, 122, 1, 1), (108, 38, 3, 2), (115, 125, 3, 1), (118, 26, 1, 2)],
  [(33, "java/lang/IllegalArgumentException")])
def mp_C_equal_t : mm_T := (⟨"RootCompass", "equal", "(IIII)Z"⟩, prog_1_method_11_code, 6, (some .boolean), 4, mp_C_equal)
def mp_C_angle : mm_P := ([(0, .aload_n 0, 1), (1, .iload_n 1, 1), (2, .invokevirtual 87, 3), (5, .ifCond .eq 11, 3), (8, .aload_n 0, 1), (9, .iload_n 2, 1), (10, .invokevirtual 87, 3), (13, .ifCond .ne 13, 3), (16, .new 49, 3), (26, .aload_n 0, 1), (27, .getfield 14, 3), (30, .invokevirtual 101, 3), (33, .aload_n 0, 1), (34, .getfield 14, 3), (37, .aload_n 0, 1), (38, .getfield 14, 3), (41, .iload_n 1, 1), (42, .invokestatic 126, 3), (45, .iload_n 2, 1), (46, .invokestatic 129, 3), (49, .invokevirtual 132, 3), (52, .aload_n 0, 1), (53, .getfield 14, 3), (56, .iload_n 2, 1), (57, .invokestatic 126, 3), (60, .iload_n 1, 1), (61, .invokestatic 129, 3), (64, .invokevirtual 132, 3), (67, .invokevirtual 115, 3), (70, .istore_n 3, 1), (71, .aload_n 0, 1), (72, .invokevirtual 118, 3), (75, .iload_n 3, 1), (76, .ifCond .eq 5, 3), (79, .iconst 1, 1), (80, .ireturn, 1), (81, .aload_n 0, 1), (82, .getfield 14, 3), (85, .aload_n 0, 1), (86, .getfield 14, 3), (89, .iload_n 1, 1), (90, .invokestatic 126, 3), (93, .iload_n 2, 1), (94, .invokestatic 126, 3), (97, .invokevirtual 132, 3), (100, .aload_n 0, 1), (101, .getfield 14, 3), (104, .iload_n 1, 1), (105, .invokestatic 129, 3), (108, .iload_n 2, 1), (109, .invokestatic 129, 3), (112, .invokevirtual 132, 3), (115, .invokevirtual 135, 3), (118, .istore 4, 2), (120, .aload_n 0, 1), (121, .invokevirtual 118, 3), (124, .aload_n 0, 1), (125, .getfield 14, 3), (128, .iload 4, 2), (130, .invokevirtual 138, 3), (133, .ifCond .eq 7, 3), (136, .iconst 2, 1), (137, .goto 4, 3), (140, .iconst 0, 1), (141, .ireturn, 1)],
  [(14, 2, 0, 2)],
  [],
  [(87, 19, 2, 2), (101, 122, 1, 1), (115, 125, 3, 1), (118, 26, 1, 2), (126, 43, 1, 99), (129, 44, 1, 99), (132, 131, 3, 1), (135, 129, 3, 1), (138, 126, 2, 1)],
  [(16, "java/lang/IllegalArgumentException")])
def mp_C_angle_t : mm_T := (⟨"RootCompass", "angle", "(II)I"⟩, prog_1_method_12_code, 5, (some .int), 4, mp_C_angle)
def mp_C_side : mm_P := ([(0, .aload_n 0, 1), (1, .iload_n 1, 1), (2, .invokevirtual 71, 3), (5, .ifCond .eq 19, 3), (8, .aload_n 0, 1), (9, .iload_n 2, 1), (10, .invokevirtual 71, 3), (13, .ifCond .eq 11, 3), (16, .aload_n 0, 1), (17, .iload_n 3, 1), (18, .invokevirtual 71, 3), (21, .ifCond .ne 13, 3), (24, .new 49, 3), (34, .aload_n 0, 1), (35, .getfield 14, 3), (38, .invokevirtual 101, 3), (41, .aload_n 0, 1), (42, .getfield 14, 3), (45, .aload_n 0, 1), (46, .getfield 14, 3), (49, .aload_n 0, 1), (50, .getfield 14, 3), (53, .aload_n 0, 1), (54, .getfield 14, 3), (57, .iload_n 2, 1), (58, .invokestatic 141, 3), (61, .iload_n 1, 1), (62, .invokestatic 141, 3), (65, .invokevirtual 144, 3), (68, .aload_n 0, 1), (69, .getfield 14, 3), (72, .iload_n 3, 1), (73, .invokestatic 147, 3), (76, .iload_n 1, 1), (77, .invokestatic 147, 3), (80, .invokevirtual 144, 3), (83, .invokevirtual 132, 3), (86, .aload_n 0, 1), (87, .getfield 14, 3), (90, .aload_n 0, 1), (91, .getfield 14, 3), (94, .iload_n 2, 1), (95, .invokestatic 147, 3), (98, .iload_n 1, 1), (99, .invokestatic 147, 3), (102, .invokevirtual 144, 3), (105, .aload_n 0, 1), (106, .getfield 14, 3), (109, .iload_n 3, 1), (110, .invokestatic 141, 3), (113, .iload_n 1, 1), (114, .invokestatic 141, 3), (117, .invokevirtual 144, 3), (120, .invokevirtual 132, 3), (123, .invokevirtual 144, 3), (126, .invokevirtual 150, 3), (129, .istore 4, 2), (131, .aload_n 0, 1), (132, .invokevirtual 118, 3), (135, .iload 4, 2), (137, .ireturn, 1)],
  [(14, 2, 0, 2)],
  [],
  [(71, 18, 2, 2), (101, 122, 1, 1), (118, 26, 1, 2), (132, 131, 3, 1), (141, 41, 1, 99), (144, 130, 3, 1), (147, 42, 1, 99), (150, 135, 2, 1)],
  [(24, "java/lang/IllegalArgumentException")])
def mp_C_side_t : mm_T := (⟨"RootCompass", "side", "(III)I"⟩, prog_1_method_13_code, 5, (some .int), 4, mp_C_side)
def mp_C_sign : mm_P := ([(0, .aload_n 0, 1), (1, .iload_n 1, 1), (2, .invokevirtual 71, 3), (5, .ifCond .eq 15, 3), (8, .iload_n 3, 1), (9, .ldc 153, 2), (11, .if_icmp .lt 9, 3), (14, .iload_n 3, 1), (15, .ldc 154, 2), (17, .if_icmp .le 13, 3), (20, .new 49, 3), (30, .aload_n 0, 1), (31, .getfield 14, 3), (34, .invokevirtual 101, 3), (37, .aload_n 0, 1), (38, .getfield 14, 3), (41, .aload_n 0, 1), (42, .getfield 14, 3), (45, .iload_n 2, 1), (46, .ifCond .eq 10, 3), (49, .iload_n 1, 1), (50, .invokestatic 147, 3), (53, .goto 7, 3), (56, .iload_n 1, 1), (57, .invokestatic 141, 3), (60, .aload_n 0, 1), (61, .getfield 14, 3), (64, .iload_n 3, 1), (65, .invokevirtual 157, 3), (68, .invokevirtual 144, 3), (71, .invokevirtual 150, 3), (74, .istore 4, 2), (76, .aload_n 0, 1), (77, .invokevirtual 118, 3), (80, .iload 4, 2), (82, .ireturn, 1)],
  [(14, 2, 0, 2)],
  [(153, .int (-1000000)), (154, .int 1000000)],
  [(71, 18, 2, 2), (101, 122, 1, 1), (118, 26, 1, 2), (141, 41, 1, 99), (144, 130, 3, 1), (147, 42, 1, 99), (150, 135, 2, 1), (157, 127, 2, 1)],
  [(20, "java/lang/IllegalArgumentException")])
def mp_C_sign_t : mm_T := (⟨"RootCompass", "sign", "(IZI)I"⟩, prog_1_method_14_code, 5, (some .int), 4, mp_C_sign)
def mp_C_part : mm_P := ([(0, .aload_n 0, 1), (1, .iload_n 1, 1), (2, .invokevirtual 71, 3), (5, .ifCond .eq 12, 3), (8, .iload_n 3, 1), (9, .ifCond .lt 8, 3), (12, .iload_n 3, 1), (13, .iconst 4, 1), (14, .if_icmp .lt 13, 3), (17, .new 49, 3), (27, .aload_n 0, 1), (28, .getfield 14, 3), (31, .iload_n 2, 1), (32, .ifCond .eq 10, 3), (35, .iload_n 1, 1), (36, .invokestatic 147, 3), (39, .goto 7, 3), (42, .iload_n 1, 1), (43, .invokestatic 141, 3), (46, .iload_n 3, 1), (47, .iadd, 1), (48, .iload 4, 2), (50, .invokevirtual 162, 3), (53, .ireturn, 1)],
  [(14, 2, 0, 2)],
  [],
  [(71, 18, 2, 2), (141, 41, 1, 99), (147, 42, 1, 99), (162, 123, 3, 1)],
  [(17, "java/lang/IllegalArgumentException")])
def mp_C_part_t : mm_T := (⟨"RootCompass", "part", "(IZIZ)I"⟩, prog_1_method_15_code, 5, (some .int), 4, mp_C_part)
def mp_C_radicand : mm_P := ([(0, .iload_n 1, 1), (1, .iconst 1, 1), (2, .if_icmp .lt 23, 3), (5, .iload_n 1, 1), (6, .aload_n 0, 1), (7, .getfield 14, 3), (10, .getfield 96, 3), (13, .if_icmp .gt 12, 3), (16, .iload_n 2, 1), (17, .ifCond .lt 8, 3), (20, .iload_n 2, 1), (21, .iconst 4, 1), (22, .if_icmp .lt 13, 3), (25, .new 166, 3), (35, .aload_n 0, 1), (36, .getfield 14, 3), (39, .iload_n 1, 1), (40, .invokestatic 171, 3), (43, .iload_n 2, 1), (44, .iadd, 1), (45, .iload_n 3, 1), (46, .invokevirtual 162, 3), (49, .ireturn, 1)],
  [(14, 2, 0, 2), (96, 1, 4, 0)],
  [],
  [(162, 123, 3, 1), (171, 120, 1, 99)],
  [(25, "java/lang/IndexOutOfBoundsException")])
def mp_C_radicand_t : mm_T := (⟨"RootCompass", "radicand", "(IIZ)I"⟩, prog_1_method_16_code, 4, (some .int), 4, mp_C_radicand)
def mp_C_kind : mm_P := ([(0, .iload_n 1, 1), (1, .ifCond .lt 11, 3), (4, .iload_n 1, 1), (5, .aload_n 0, 1), (6, .getfield 41, 3), (9, .if_icmp .lt 5, 3), (12, .iconst (-1), 1), (13, .ireturn, 1), (14, .aload_n 0, 1), (15, .getfield 25, 3), (18, .iload_n 1, 1), (19, .iaload, 1), (20, .iconst 1, 1), (21, .if_icmp .ne 7, 3), (24, .iconst 1, 1), (25, .goto 18, 3), (28, .aload_n 0, 1), (29, .getfield 25, 3), (32, .iload_n 1, 1), (33, .iaload, 1), (34, .iconst 2, 1), (35, .if_icmp .ne 7, 3), (38, .iconst 2, 1), (39, .goto 4, 3), (42, .iconst 0, 1), (43, .ireturn, 1)],
  [(25, 2, 2, 2), (41, 2, 7, 0)],
  [],
  [],
  [])
def mp_C_kind_t : mm_T := (⟨"RootCompass", "kind", "(I)I"⟩, prog_1_method_17_code, 2, (some .int), 0, mp_C_kind)
def mp_C_look : mm_P := ([(0, .iload_n 1, 1), (1, .tableswitch 45 0 2 #[27, 32, 40], 27), (28, .aload_n 0, 1), (29, .getfield 41, 3), (32, .ireturn, 1), (33, .aload_n 0, 1), (34, .getfield 14, 3), (37, .getfield 96, 3), (40, .ireturn, 1), (41, .aload_n 0, 1), (42, .invokevirtual 174, 3), (45, .ireturn, 1), (46, .iconst (-1), 1), (47, .ireturn, 1)],
  [(14, 2, 0, 2), (41, 2, 7, 0), (96, 1, 4, 0)],
  [],
  [(174, 17, 1, 2)],
  [])
def mp_C_look_t : mm_T := (⟨"RootCompass", "look", "(I)I"⟩, prog_1_method_18_code, 2, (some .int), 0, mp_C_look)
def mp_C_countFreePoints : mm_P := ([(0, .iconst 0, 1), (1, .istore_n 1, 1), (2, .iconst 0, 1), (3, .istore_n 2, 1), (4, .iload_n 2, 1), (5, .aload_n 0, 1), (6, .getfield 41, 3), (9, .if_icmp .ge 26, 3), (12, .iload_n 1, 1), (13, .aload_n 0, 1), (14, .getfield 25, 3), (17, .iload_n 2, 1), (18, .iaload, 1), (19, .ifCond .ne 7, 3), (22, .iconst 1, 1), (23, .goto 4, 3), (26, .iconst 0, 1), (27, .iadd, 1), (28, .istore_n 1, 1), (29, .iinc 2 1, 3), (32, .goto (-28), 3), (35, .iload_n 1, 1), (36, .ireturn, 1)],
  [(25, 2, 2, 2), (41, 2, 7, 0)],
  [],
  [],
  [])
def mp_C_countFreePoints_t : mm_T := (⟨"RootCompass", "countFreePoints", "()I"⟩, prog_1_method_19_code, 3, (some .int), 0, mp_C_countFreePoints)
def mp_C_isPoint : mm_P := ([(0, .aload_n 0, 1), (1, .iload_n 1, 1), (2, .invokevirtual 178, 3), (5, .ifCond .ne 7, 3), (8, .iconst 1, 1), (9, .goto 4, 3), (12, .iconst 0, 1), (13, .ireturn, 1)],
  [],
  [],
  [(178, 15, 2, 2)],
  [])
def mp_C_isPoint_t : mm_T := (⟨"RootCompass", "isPoint", "(I)Z"⟩, prog_1_method_20_code, 2, (some .boolean), 0, mp_C_isPoint)
def mp_C_isLine : mm_P := ([(0, .aload_n 0, 1), (1, .iload_n 1, 1), (2, .invokevirtual 178, 3), (5, .iconst 1, 1), (6, .if_icmp .ne 7, 3), (9, .iconst 1, 1), (10, .goto 4, 3), (13, .iconst 0, 1), (14, .ireturn, 1)],
  [],
  [],
  [(178, 15, 2, 2)],
  [])
def mp_C_isLine_t : mm_T := (⟨"RootCompass", "isLine", "(I)Z"⟩, prog_1_method_21_code, 2, (some .boolean), 0, mp_C_isLine)
def mp_C_isCircle : mm_P := ([(0, .aload_n 0, 1), (1, .iload_n 1, 1), (2, .invokevirtual 178, 3), (5, .iconst 2, 1), (6, .if_icmp .ne 7, 3), (9, .iconst 1, 1), (10, .goto 4, 3), (13, .iconst 0, 1), (14, .ireturn, 1)],
  [],
  [],
  [(178, 15, 2, 2)],
  [])
def mp_C_isCircle_t : mm_T := (⟨"RootCompass", "isCircle", "(I)Z"⟩, prog_1_method_22_code, 2, (some .boolean), 0, mp_C_isCircle)
def mp_C_isCurve : mm_P := ([(0, .aload_n 0, 1), (1, .iload_n 1, 1), (2, .invokevirtual 87, 3), (5, .ifCond .ne 11, 3), (8, .aload_n 0, 1), (9, .iload_n 1, 1), (10, .invokevirtual 82, 3), (13, .ifCond .eq 7, 3), (16, .iconst 1, 1), (17, .goto 4, 3), (20, .iconst 0, 1), (21, .ireturn, 1)],
  [],
  [],
  [(82, 20, 2, 2), (87, 19, 2, 2)],
  [])
def mp_C_isCurve_t : mm_T := (⟨"RootCompass", "isCurve", "(I)Z"⟩, prog_1_method_23_code, 2, (some .boolean), 0, mp_C_isCurve)
def mp_C_isPlace : mm_P := ([(0, .iload_n 0, 1), (1, .iload_n 1, 1), (2, .invokestatic 181, 3), (5, .ifCond .eq 15, 3), (8, .iload_n 2, 1), (9, .iload_n 3, 1), (10, .invokestatic 181, 3), (13, .ifCond .eq 7, 3), (16, .iconst 1, 1), (17, .goto 4, 3), (20, .iconst 0, 1), (21, .ireturn, 1)],
  [],
  [],
  [(181, 23, 2, 99)],
  [])
def mp_C_isPlace_t : mm_T := (⟨"RootCompass", "isPlace", "(IIII)Z"⟩, prog_1_method_24_code, 4, (some .boolean), 0, mp_C_isPlace)
def mp_C_isInput : mm_P := ([(0, .iload_n 0, 1), (1, .sipush (-10000), 3), (4, .if_icmp .lt 26, 3), (7, .iload_n 0, 1), (8, .sipush 10000, 3), (11, .if_icmp .gt 19, 3), (14, .iload_n 1, 1), (15, .iconst 1, 1), (16, .if_icmp .lt 14, 3), (19, .iload_n 1, 1), (20, .sipush 10000, 3), (23, .if_icmp .gt 7, 3), (26, .iconst 1, 1), (27, .goto 4, 3), (30, .iconst 0, 1), (31, .ireturn, 1)],
  [],
  [],
  [],
  [])
def mp_C_isInput_t : mm_T := (⟨"RootCompass", "isInput", "(II)Z"⟩, prog_1_method_25_code, 2, (some .boolean), 0, mp_C_isInput)
def mp_C_addStep : mm_P := ([(0, .aload_n 0, 1), (1, .getfield 41, 3), (4, .bipush 24, 2), (6, .if_icmp .lt 13, 3), (9, .new 184, 3), (19, .aload_n 0, 1), (20, .getfield 25, 3), (23, .aload_n 0, 1), (24, .getfield 41, 3), (27, .iload_n 1, 1), (28, .iastore, 1), (29, .aload_n 0, 1), (30, .getfield 29, 3), (33, .aload_n 0, 1), (34, .getfield 41, 3), (37, .iload_n 2, 1), (38, .iastore, 1), (39, .aload_n 0, 1), (40, .getfield 32, 3), (43, .aload_n 0, 1), (44, .getfield 41, 3), (47, .iload_n 3, 1), (48, .iastore, 1), (49, .aload_n 0, 1), (50, .getfield 35, 3), (53, .aload_n 0, 1), (54, .getfield 41, 3), (57, .iload 4, 2), (59, .iastore, 1), (60, .aload_n 0, 1), (61, .dup, 1), (62, .getfield 41, 3), (65, .iconst 1, 1), (66, .iadd, 1), (67, .putfield 41, 3), (70, .aload_n 0, 1), (71, .getfield 41, 3), (74, .iconst 1, 1), (75, .isub, 1), (76, .ireturn, 1)],
  [(25, 2, 2, 2), (29, 2, 3, 2), (32, 2, 4, 2), (35, 2, 5, 2), (41, 2, 7, 0)],
  [],
  [],
  [(9, "java/lang/IllegalStateException")])
def mp_C_addStep_t : mm_T := (⟨"RootCompass", "addStep", "(IIII)I"⟩, prog_1_method_26_code, 5, (some .int), 1, mp_C_addStep)
def mp_C_settle : mm_P := ([(0, .iload_n 1, 1), (1, .iconst (-1), 1), (2, .if_icmp .eq 18, 3), (5, .aload_n 0, 1), (6, .invokevirtual 189, 3), (9, .pop, 1), (10, .new 193, 3), (20, .aload_n 0, 1), (21, .getfield 41, 3), (24, .iconst 1, 1), (25, .isub, 1), (26, .ireturn, 1)],
  [(41, 2, 7, 0)],
  [],
  [(189, 6, 1, 2)],
  [(10, "java/lang/UnsupportedOperationException")])
def mp_C_settle_t : mm_T := (⟨"RootCompass", "settle", "(I)I"⟩, prog_1_method_27_code, 2, (some .int), 1, mp_C_settle)
def mp_C_refuseTooWide : mm_P := ([(0, .aload_n 0, 1), (1, .getfield 14, 3), (4, .getfield 198, 3), (7, .ifCond .eq 13, 3), (10, .new 193, 3), (20, .return_, 1)],
  [(14, 2, 0, 2), (198, 1, 5, 1)],
  [],
  [],
  [(10, "java/lang/UnsupportedOperationException")])
def mp_C_refuseTooWide_t : mm_T := (⟨"RootCompass", "refuseTooWide", "()V"⟩, prog_1_method_28_code, 1, none, 1, mp_C_refuseTooWide)
def mp_C_redraw : mm_P := ([(0, .aload_n 0, 1), (1, .getfield 14, 3), (4, .aload_n 0, 1), (5, .getfield 38, 3), (8, .iload_n 1, 1), (9, .iaload, 1), (10, .putfield 96, 3), (13, .iload_n 1, 1), (14, .istore_n 2, 1), (15, .iload_n 2, 1), (16, .aload_n 0, 1), (17, .getfield 41, 3), (20, .if_icmp .ge 197, 3), (23, .aload_n 0, 1), (24, .getfield 14, 3), (27, .invokevirtual 101, 3), (30, .aload_n 0, 1), (31, .getfield 25, 3), (34, .iload_n 2, 1), (35, .iaload, 1), (36, .tableswitch 148 1 6 #[40, 48, 56, 64, 72, 107], 40), (76, .aload_n 0, 1), (77, .iload_n 2, 1), (78, .invokevirtual 204, 3), (81, .goto 103, 3), (84, .aload_n 0, 1), (85, .iload_n 2, 1), (86, .invokevirtual 207, 3), (89, .goto 95, 3), (92, .aload_n 0, 1), (93, .iload_n 2, 1), (94, .invokevirtual 210, 3), (97, .goto 87, 3), (100, .aload_n 0, 1), (101, .iload_n 2, 1), (102, .invokevirtual 213, 3), (105, .goto 79, 3), (108, .aload_n 0, 1), (109, .aload_n 0, 1), (110, .getfield 29, 3), (113, .iload_n 2, 1), (114, .iaload, 1), (115, .invokevirtual 216, 3), (118, .aload_n 0, 1), (119, .iload_n 2, 1), (120, .aload_n 0, 1), (121, .getfield 14, 3), (124, .aload_n 0, 1), (125, .aload_n 0, 1), (126, .getfield 32, 3), (129, .iload_n 2, 1), (130, .iaload, 1), (131, .invokevirtual 219, 3), (134, .invokevirtual 222, 3), (137, .invokevirtual 225, 3), (140, .goto 44, 3), (143, .aload_n 0, 1), (144, .aload_n 0, 1), (145, .getfield 29, 3), (148, .iload_n 2, 1), (149, .iaload, 1), (150, .aload_n 0, 1), (151, .getfield 32, 3), (154, .iload_n 2, 1), (155, .iaload, 1), (156, .invokevirtual 228, 3), (159, .aload_n 0, 1), (160, .iload_n 2, 1), (161, .aload_n 0, 1), (162, .getfield 14, 3), (165, .aload_n 0, 1), (166, .aload_n 0, 1), (167, .getfield 29, 3), (170, .iload_n 2, 1), (171, .iaload, 1), (172, .invokevirtual 219, 3), (175, .invokevirtual 222, 3), (178, .invokevirtual 225, 3), (181, .goto 3, 3), (184, .aload_n 0, 1), (185, .getfield 14, 3), (188, .getfield 198, 3), (191, .ifCond .eq 5, 3), (194, .iload_n 2, 1), (195, .ireturn, 1), (196, .aload_n 0, 1), (197, .getfield 38, 3), (200, .iload_n 2, 1), (201, .iconst 1, 1), (202, .iadd, 1), (203, .aload_n 0, 1), (204, .getfield 14, 3), (207, .getfield 96, 3), (210, .iastore, 1), (211, .iinc 2 1, 3), (214, .goto (-199), 3), (217, .iconst (-1), 1), (218, .ireturn, 1)],
  [(14, 2, 0, 2), (25, 2, 2, 2), (29, 2, 3, 2), (32, 2, 4, 2), (38, 2, 6, 2), (41, 2, 7, 0), (96, 1, 4, 0), (198, 1, 5, 1)],
  [],
  [(101, 122, 1, 1), (204, 28, 2, 2), (207, 29, 2, 2), (210, 30, 2, 2), (213, 31, 2, 2), (216, 32, 2, 2), (219, 34, 2, 2), (222, 136, 2, 1), (225, 35, 3, 2), (228, 33, 3, 2)],
  [])
def mp_C_redraw_t : mm_T := (⟨"RootCompass", "redraw", "(I)I"⟩, prog_1_method_29_code, 3, (some .int), 0, mp_C_redraw)
def mp_C_drawLine : mm_P := ([(0, .aload_n 0, 1), (1, .getfield 29, 3), (4, .iload_n 1, 1), (5, .iaload, 1), (6, .istore_n 2, 1), (7, .aload_n 0, 1), (8, .getfield 32, 3), (11, .iload_n 1, 1), (12, .iaload, 1), (13, .istore_n 3, 1), (14, .aload_n 0, 1), (15, .iload_n 2, 1), (16, .iload_n 3, 1), (17, .invokevirtual 121, 3), (20, .ifCond .eq 12, 3), (23, .aload_n 0, 1), (24, .getfield 14, 3), (27, .iconst 1, 1), (28, .putfield 198, 3), (31, .return_, 1), (32, .aload_n 0, 1), (33, .getfield 14, 3), (36, .iload_n 3, 1), (37, .invokestatic 147, 3), (40, .iload_n 2, 1), (41, .invokestatic 147, 3), (44, .invokevirtual 144, 3), (47, .istore 4, 2), (49, .aload_n 0, 1), (50, .getfield 14, 3), (53, .iload_n 2, 1), (54, .invokestatic 141, 3), (57, .iload_n 3, 1), (58, .invokestatic 141, 3), (61, .invokevirtual 144, 3), (64, .istore 5, 2), (66, .aload_n 0, 1), (67, .getfield 14, 3), (70, .iload 4, 2), (72, .iload_n 1, 1), (73, .invokestatic 126, 3), (76, .invokevirtual 231, 3), (79, .aload_n 0, 1), (80, .getfield 14, 3), (83, .iload 5, 2), (85, .iload_n 1, 1), (86, .invokestatic 129, 3), (89, .invokevirtual 231, 3), (92, .aload_n 0, 1), (93, .getfield 14, 3), (96, .aload_n 0, 1), (97, .getfield 14, 3), (100, .aload_n 0, 1), (101, .getfield 14, 3), (104, .iload 4, 2), (106, .iload_n 2, 1), (107, .invokestatic 141, 3), (110, .invokevirtual 132, 3), (113, .aload_n 0, 1), (114, .getfield 14, 3), (117, .iload 5, 2), (119, .iload_n 2, 1), (120, .invokestatic 147, 3), (123, .invokevirtual 132, 3), (126, .invokevirtual 135, 3), (129, .iload_n 1, 1), (130, .invokestatic 234, 3), (133, .invokevirtual 231, 3), (136, .return_, 1)],
  [(14, 2, 0, 2), (29, 2, 3, 2), (32, 2, 4, 2), (198, 1, 5, 1)],
  [],
  [(121, 37, 3, 2), (126, 43, 1, 99), (129, 44, 1, 99), (132, 131, 3, 1), (135, 129, 3, 1), (141, 41, 1, 99), (144, 130, 3, 1), (147, 42, 1, 99), (231, 124, 3, 1), (234, 45, 1, 99)],
  [])
def mp_C_drawLine_t : mm_T := (⟨"RootCompass", "drawLine", "(I)V"⟩, prog_1_method_30_code, 6, none, 0, mp_C_drawLine)
def mp_C_drawCircle : mm_P := ([(0, .aload_n 0, 1), (1, .aload_n 0, 1), (2, .getfield 32, 3), (5, .iload_n 1, 1), (6, .iaload, 1), (7, .aload_n 0, 1), (8, .getfield 35, 3), (11, .iload_n 1, 1), (12, .iaload, 1), (13, .invokevirtual 108, 3), (16, .istore_n 2, 1), (17, .aload_n 0, 1), (18, .getfield 14, 3), (21, .iload_n 2, 1), (22, .invokevirtual 138, 3), (25, .ifCond .eq 12, 3), (28, .aload_n 0, 1), (29, .getfield 14, 3), (32, .iconst 1, 1), (33, .putfield 198, 3), (36, .return_, 1), (37, .aload_n 0, 1), (38, .getfield 14, 3), (41, .iload_n 2, 1), (42, .iload_n 1, 1), (43, .invokestatic 112, 3), (46, .invokevirtual 231, 3), (49, .return_, 1)],
  [(14, 2, 0, 2), (32, 2, 4, 2), (35, 2, 5, 2), (198, 1, 5, 1)],
  [],
  [(108, 38, 3, 2), (112, 46, 1, 99), (138, 126, 2, 1), (231, 124, 3, 1)],
  [])
def mp_C_drawCircle_t : mm_T := (⟨"RootCompass", "drawCircle", "(I)V"⟩, prog_1_method_31_code, 3, none, 0, mp_C_drawCircle)
def mp_C_drawMiddle : mm_P := ([(0, .aload_n 0, 1), (1, .getfield 29, 3), (4, .iload_n 1, 1), (5, .iaload, 1), (6, .istore_n 2, 1), (7, .aload_n 0, 1), (8, .getfield 32, 3), (11, .iload_n 1, 1), (12, .iaload, 1), (13, .istore_n 3, 1), (14, .aload_n 0, 1), (15, .getfield 14, 3), (18, .aload_n 0, 1), (19, .getfield 14, 3), (22, .aload_n 0, 1), (23, .getfield 14, 3), (26, .iload_n 2, 1), (27, .invokestatic 141, 3), (30, .iload_n 3, 1), (31, .invokestatic 141, 3), (34, .invokevirtual 135, 3), (37, .invokevirtual 237, 3), (40, .iload_n 1, 1), (41, .invokestatic 141, 3), (44, .invokevirtual 231, 3), (47, .aload_n 0, 1), (48, .getfield 14, 3), (51, .aload_n 0, 1), (52, .getfield 14, 3), (55, .aload_n 0, 1), (56, .getfield 14, 3), (59, .iload_n 2, 1), (60, .invokestatic 147, 3), (63, .iload_n 3, 1), (64, .invokestatic 147, 3), (67, .invokevirtual 135, 3), (70, .invokevirtual 237, 3), (73, .iload_n 1, 1), (74, .invokestatic 147, 3), (77, .invokevirtual 231, 3), (80, .return_, 1)],
  [(14, 2, 0, 2), (29, 2, 3, 2), (32, 2, 4, 2)],
  [],
  [(135, 129, 3, 1), (141, 41, 1, 99), (147, 42, 1, 99), (231, 124, 3, 1), (237, 133, 2, 1)],
  [])
def mp_C_drawMiddle_t : mm_T := (⟨"RootCompass", "drawMiddle", "(I)V"⟩, prog_1_method_32_code, 4, none, 0, mp_C_drawMiddle)
def mp_C_drawMeetingOfLines : mm_P := ([(0, .aload_n 0, 1), (1, .getfield 29, 3), (4, .iload_n 1, 1), (5, .iaload, 1), (6, .istore_n 2, 1), (7, .aload_n 0, 1), (8, .getfield 32, 3), (11, .iload_n 1, 1), (12, .iaload, 1), (13, .istore_n 3, 1), (14, .aload_n 0, 1), (15, .getfield 14, 3), (18, .aload_n 0, 1), (19, .getfield 14, 3), (22, .iload_n 2, 1), (23, .invokestatic 126, 3), (26, .iload_n 3, 1), (27, .invokestatic 129, 3), (30, .invokevirtual 132, 3), (33, .aload_n 0, 1), (34, .getfield 14, 3), (37, .iload_n 3, 1), (38, .invokestatic 126, 3), (41, .iload_n 2, 1), (42, .invokestatic 129, 3), (45, .invokevirtual 132, 3), (48, .invokevirtual 144, 3), (51, .istore 4, 2), (53, .aload_n 0, 1), (54, .getfield 14, 3), (57, .iload 4, 2), (59, .invokevirtual 240, 3), (62, .istore 5, 2), (64, .aload_n 0, 1), (65, .getfield 14, 3), (68, .aload_n 0, 1), (69, .getfield 14, 3), (72, .iload_n 2, 1), (73, .invokestatic 234, 3), (76, .iload_n 3, 1), (77, .invokestatic 129, 3), (80, .invokevirtual 132, 3), (83, .aload_n 0, 1), (84, .getfield 14, 3), (87, .iload_n 3, 1), (88, .invokestatic 234, 3), (91, .iload_n 2, 1), (92, .invokestatic 129, 3), (95, .invokevirtual 132, 3), (98, .invokevirtual 144, 3), (101, .istore 6, 2), (103, .aload_n 0, 1), (104, .getfield 14, 3), (107, .aload_n 0, 1), (108, .getfield 14, 3), (111, .iload_n 2, 1), (112, .invokestatic 126, 3), (115, .iload_n 3, 1), (116, .invokestatic 234, 3), (119, .invokevirtual 132, 3), (122, .aload_n 0, 1), (123, .getfield 14, 3), (126, .iload_n 3, 1), (127, .invokestatic 126, 3), (130, .iload_n 2, 1), (131, .invokestatic 234, 3), (134, .invokevirtual 132, 3), (137, .invokevirtual 144, 3), (140, .istore 7, 2), (142, .aload_n 0, 1), (143, .getfield 14, 3), (146, .aload_n 0, 1), (147, .getfield 14, 3), (150, .iload 6, 2), (152, .iload 5, 2), (154, .invokevirtual 132, 3), (157, .iload_n 1, 1), (158, .invokestatic 141, 3), (161, .invokevirtual 231, 3), (164, .aload_n 0, 1), (165, .getfield 14, 3), (168, .aload_n 0, 1), (169, .getfield 14, 3), (172, .iload 7, 2), (174, .iload 5, 2), (176, .invokevirtual 132, 3), (179, .iload_n 1, 1), (180, .invokestatic 147, 3), (183, .invokevirtual 231, 3), (186, .return_, 1)],
  [(14, 2, 0, 2), (29, 2, 3, 2), (32, 2, 4, 2)],
  [],
  [(126, 43, 1, 99), (129, 44, 1, 99), (132, 131, 3, 1), (141, 41, 1, 99), (144, 130, 3, 1), (147, 42, 1, 99), (231, 124, 3, 1), (234, 45, 1, 99), (240, 134, 2, 1)],
  [])
def mp_C_drawMeetingOfLines_t : mm_T := (⟨"RootCompass", "drawMeetingOfLines", "(I)V"⟩, prog_1_method_33_code, 8, none, 0, mp_C_drawMeetingOfLines)
def mp_C_takeLine : mm_P := ([(0, .aload_n 0, 1), (1, .getfield 21, 3), (4, .iload_n 1, 1), (5, .invokestatic 126, 3), (8, .putfield 243, 3), (11, .aload_n 0, 1), (12, .getfield 21, 3), (15, .iload_n 1, 1), (16, .invokestatic 129, 3), (19, .putfield 246, 3), (22, .aload_n 0, 1), (23, .getfield 21, 3), (26, .iload_n 1, 1), (27, .invokestatic 234, 3), (30, .putfield 249, 3), (33, .return_, 1)],
  [(21, 2, 1, 2), (243, 0, 0, 0), (246, 0, 1, 0), (249, 0, 2, 0)],
  [],
  [(126, 43, 1, 99), (129, 44, 1, 99), (234, 45, 1, 99)],
  [])
def mp_C_takeLine_t : mm_T := (⟨"RootCompass", "takeLine", "(I)V"⟩, prog_1_method_34_code, 2, none, 0, mp_C_takeLine)
def mp_C_takeCommonLine : mm_P := ([(0, .aload_n 0, 1), (1, .getfield 29, 3), (4, .iload_n 1, 1), (5, .iaload, 1), (6, .istore_n 3, 1), (7, .aload_n 0, 1), (8, .getfield 29, 3), (11, .iload_n 2, 1), (12, .iaload, 1), (13, .istore 4, 2), (15, .aload_n 0, 1), (16, .getfield 14, 3), (19, .iload 4, 2), (21, .invokestatic 141, 3), (24, .iload_n 3, 1), (25, .invokestatic 141, 3), (28, .invokevirtual 144, 3), (31, .istore 5, 2), (33, .aload_n 0, 1), (34, .getfield 14, 3), (37, .iload 4, 2), (39, .invokestatic 147, 3), (42, .iload_n 3, 1), (43, .invokestatic 147, 3), (46, .invokevirtual 144, 3), (49, .istore 6, 2), (51, .aload_n 0, 1), (52, .getfield 21, 3), (55, .aload_n 0, 1), (56, .getfield 14, 3), (59, .iload 5, 2), (61, .iload 5, 2), (63, .invokevirtual 135, 3), (66, .putfield 243, 3), (69, .aload_n 0, 1), (70, .getfield 21, 3), (73, .aload_n 0, 1), (74, .getfield 14, 3), (77, .iload 6, 2), (79, .iload 6, 2), (81, .invokevirtual 135, 3), (84, .putfield 246, 3), (87, .aload_n 0, 1), (88, .getfield 14, 3), (91, .aload_n 0, 1), (92, .getfield 14, 3), (95, .iload 4, 2), (97, .invokestatic 141, 3), (100, .iload 4, 2), (102, .invokestatic 141, 3), (105, .invokevirtual 132, 3), (108, .aload_n 0, 1), (109, .getfield 14, 3), (112, .iload_n 3, 1), (113, .invokestatic 141, 3), (116, .iload_n 3, 1), (117, .invokestatic 141, 3), (120, .invokevirtual 132, 3), (123, .invokevirtual 144, 3), (126, .istore 7, 2), (128, .aload_n 0, 1), (129, .getfield 14, 3), (132, .aload_n 0, 1), (133, .getfield 14, 3), (136, .iload 4, 2), (138, .invokestatic 147, 3), (141, .iload 4, 2), (143, .invokestatic 147, 3), (146, .invokevirtual 132, 3), (149, .aload_n 0, 1), (150, .getfield 14, 3), (153, .iload_n 3, 1), (154, .invokestatic 147, 3), (157, .iload_n 3, 1), (158, .invokestatic 147, 3), (161, .invokevirtual 132, 3), (164, .invokevirtual 144, 3), (167, .istore 8, 2), (169, .aload_n 0, 1), (170, .getfield 21, 3), (173, .aload_n 0, 1), (174, .getfield 14, 3), (177, .aload_n 0, 1), (178, .getfield 14, 3), (181, .iload_n 1, 1), (182, .invokestatic 112, 3), (185, .iload_n 2, 1), (186, .invokestatic 112, 3), (189, .invokevirtual 144, 3), (192, .aload_n 0, 1), (193, .getfield 14, 3), (196, .iload 7, 2), (198, .iload 8, 2), (200, .invokevirtual 135, 3), (203, .invokevirtual 135, 3), (206, .putfield 249, 3), (209, .return_, 1)],
  [(14, 2, 0, 2), (21, 2, 1, 2), (29, 2, 3, 2), (243, 0, 0, 0), (246, 0, 1, 0), (249, 0, 2, 0)],
  [],
  [(112, 46, 1, 99), (132, 131, 3, 1), (135, 129, 3, 1), (141, 41, 1, 99), (144, 130, 3, 1), (147, 42, 1, 99)],
  [])
def mp_C_takeCommonLine_t : mm_T := (⟨"RootCompass", "takeCommonLine", "(II)V"⟩, prog_1_method_35_code, 9, none, 0, mp_C_takeCommonLine)
def mp_C_measureCut : mm_P := ([(0, .aload_n 0, 1), (1, .getfield 29, 3), (4, .iload_n 1, 1), (5, .iaload, 1), (6, .invokestatic 141, 3), (9, .istore_n 2, 1), (10, .aload_n 0, 1), (11, .getfield 29, 3), (14, .iload_n 1, 1), (15, .iaload, 1), (16, .invokestatic 147, 3), (19, .istore_n 3, 1), (20, .aload_n 0, 1), (21, .getfield 14, 3), (24, .aload_n 0, 1), (25, .getfield 14, 3), (28, .aload_n 0, 1), (29, .getfield 21, 3), (32, .getfield 243, 3), (35, .aload_n 0, 1), (36, .getfield 21, 3), (39, .getfield 243, 3), (42, .invokevirtual 132, 3), (45, .aload_n 0, 1), (46, .getfield 14, 3), (49, .aload_n 0, 1), (50, .getfield 21, 3), (53, .getfield 246, 3), (56, .aload_n 0, 1), (57, .getfield 21, 3), (60, .getfield 246, 3), (63, .invokevirtual 132, 3), (66, .invokevirtual 135, 3), (69, .istore 4, 2), (71, .aload_n 0, 1), (72, .getfield 14, 3), (75, .aload_n 0, 1), (76, .getfield 21, 3), (79, .getfield 249, 3), (82, .aload_n 0, 1), (83, .getfield 14, 3), (86, .aload_n 0, 1), (87, .getfield 14, 3), (90, .aload_n 0, 1), (91, .getfield 21, 3), (94, .getfield 243, 3), (97, .iload_n 2, 1), (98, .invokevirtual 132, 3), (101, .aload_n 0, 1), (102, .getfield 14, 3), (105, .aload_n 0, 1), (106, .getfield 21, 3), (109, .getfield 246, 3), (112, .iload_n 3, 1), (113, .invokevirtual 132, 3), (116, .invokevirtual 135, 3), (119, .invokevirtual 144, 3), (122, .istore 5, 2), (124, .aload_n 0, 1), (125, .getfield 21, 3), (128, .iload_n 2, 1), (129, .putfield 252, 3), (132, .aload_n 0, 1), (133, .getfield 21, 3), (136, .iload_n 3, 1), (137, .putfield 255, 3), (140, .aload_n 0, 1), (141, .getfield 21, 3), (144, .iload 5, 2), (146, .putfield 258, 3), (149, .aload_n 0, 1), (150, .getfield 21, 3), (153, .aload_n 0, 1), (154, .getfield 14, 3), (157, .iload 4, 2), (159, .invokevirtual 240, 3), (162, .putfield 261, 3), (165, .aload_n 0, 1), (166, .getfield 14, 3), (169, .aload_n 0, 1), (170, .getfield 14, 3), (173, .iload_n 1, 1), (174, .invokestatic 112, 3), (177, .iload 4, 2), (179, .invokevirtual 132, 3), (182, .aload_n 0, 1), (183, .getfield 14, 3), (186, .iload 5, 2), (188, .iload 5, 2), (190, .invokevirtual 132, 3), (193, .invokevirtual 144, 3), (196, .ireturn, 1)],
  [(14, 2, 0, 2), (21, 2, 1, 2), (29, 2, 3, 2), (243, 0, 0, 0), (246, 0, 1, 0), (249, 0, 2, 0), (252, 0, 3, 0), (255, 0, 4, 0), (258, 0, 5, 0), (261, 0, 6, 0)],
  [],
  [(112, 46, 1, 99), (132, 131, 3, 1), (135, 129, 3, 1), (141, 41, 1, 99), (144, 130, 3, 1), (147, 42, 1, 99), (240, 134, 2, 1)],
  [])
def mp_C_measureCut_t : mm_T := (⟨"RootCompass", "measureCut", "(I)I"⟩, prog_1_method_36_code, 6, (some .int), 0, mp_C_measureCut)
def mp_C_drawCut : mm_P := ([(0, .aload_n 0, 1), (1, .getfield 14, 3), (4, .aload_n 0, 1), (5, .getfield 21, 3), (8, .getfield 258, 3), (11, .aload_n 0, 1), (12, .getfield 21, 3), (15, .getfield 261, 3), (18, .invokevirtual 132, 3), (21, .istore_n 3, 1), (22, .aload_n 0, 1), (23, .getfield 14, 3), (26, .iload_n 2, 1), (27, .aload_n 0, 1), (28, .getfield 21, 3), (31, .getfield 261, 3), (34, .invokevirtual 132, 3), (37, .istore 4, 2), (39, .aload_n 0, 1), (40, .getfield 14, 3), (43, .aload_n 0, 1), (44, .getfield 21, 3), (47, .getfield 252, 3), (50, .aload_n 0, 1), (51, .getfield 14, 3), (54, .aload_n 0, 1), (55, .getfield 21, 3), (58, .getfield 243, 3), (61, .iload_n 3, 1), (62, .invokevirtual 132, 3), (65, .invokevirtual 135, 3), (68, .istore 5, 2), (70, .aload_n 0, 1), (71, .getfield 14, 3), (74, .aload_n 0, 1), (75, .getfield 21, 3), (78, .getfield 255, 3), (81, .aload_n 0, 1), (82, .getfield 14, 3), (85, .aload_n 0, 1), (86, .getfield 21, 3), (89, .getfield 246, 3), (92, .iload_n 3, 1), (93, .invokevirtual 132, 3), (96, .invokevirtual 135, 3), (99, .istore 6, 2), (101, .aload_n 0, 1), (102, .getfield 14, 3), (105, .aload_n 0, 1), (106, .getfield 14, 3), (109, .aload_n 0, 1), (110, .getfield 21, 3), (113, .getfield 246, 3), (116, .invokevirtual 264, 3), (119, .iload 4, 2), (121, .invokevirtual 132, 3), (124, .istore 7, 2), (126, .aload_n 0, 1), (127, .getfield 14, 3), (130, .aload_n 0, 1), (131, .getfield 21, 3), (134, .getfield 243, 3), (137, .iload 4, 2), (139, .invokevirtual 132, 3), (142, .istore 8, 2), (144, .aload_n 0, 1), (145, .getfield 35, 3), (148, .iload_n 1, 1), (149, .iaload, 1), (150, .ifCond .ne 7, 3), (153, .iconst 1, 1), (154, .goto 4, 3), (157, .iconst 0, 1), (158, .istore 9, 2), (160, .aload_n 0, 1), (161, .getfield 14, 3), (164, .iload 9, 2), (166, .ifCond .eq 17, 3), (169, .aload_n 0, 1), (170, .getfield 14, 3), (173, .iload 5, 2), (175, .iload 7, 2), (177, .invokevirtual 144, 3), (180, .goto 14, 3), (183, .aload_n 0, 1), (184, .getfield 14, 3), (187, .iload 5, 2), (189, .iload 7, 2), (191, .invokevirtual 135, 3), (194, .iload_n 1, 1), (195, .invokestatic 141, 3), (198, .invokevirtual 231, 3), (201, .aload_n 0, 1), (202, .getfield 14, 3), (205, .iload 9, 2), (207, .ifCond .eq 17, 3), (210, .aload_n 0, 1), (211, .getfield 14, 3), (214, .iload 6, 2), (216, .iload 8, 2), (218, .invokevirtual 144, 3), (221, .goto 14, 3), (224, .aload_n 0, 1), (225, .getfield 14, 3), (228, .iload 6, 2), (230, .iload 8, 2), (232, .invokevirtual 135, 3), (235, .iload_n 1, 1), (236, .invokestatic 147, 3), (239, .invokevirtual 231, 3), (242, .return_, 1)],
  [(14, 2, 0, 2), (21, 2, 1, 2), (35, 2, 5, 2), (243, 0, 0, 0), (246, 0, 1, 0), (252, 0, 3, 0), (255, 0, 4, 0), (258, 0, 5, 0), (261, 0, 6, 0)],
  [],
  [(132, 131, 3, 1), (135, 129, 3, 1), (141, 41, 1, 99), (144, 130, 3, 1), (147, 42, 1, 99), (231, 124, 3, 1), (264, 132, 2, 1)],
  [])
def mp_C_drawCut_t : mm_T := (⟨"RootCompass", "drawCut", "(II)V"⟩, prog_1_method_37_code, 10, none, 0, mp_C_drawCut)
def mp_C_liesOnLine : mm_P := ([(0, .aload_n 0, 1), (1, .getfield 14, 3), (4, .aload_n 0, 1), (5, .getfield 14, 3), (8, .iload_n 2, 1), (9, .invokestatic 126, 3), (12, .iload_n 1, 1), (13, .invokestatic 141, 3), (16, .invokevirtual 132, 3), (19, .aload_n 0, 1), (20, .getfield 14, 3), (23, .iload_n 2, 1), (24, .invokestatic 129, 3), (27, .iload_n 1, 1), (28, .invokestatic 147, 3), (31, .invokevirtual 132, 3), (34, .invokevirtual 135, 3), (37, .istore_n 3, 1), (38, .aload_n 0, 1), (39, .getfield 14, 3), (42, .iload_n 3, 1), (43, .iload_n 2, 1), (44, .invokestatic 234, 3), (47, .invokevirtual 115, 3), (50, .ireturn, 1)],
  [(14, 2, 0, 2)],
  [],
  [(115, 125, 3, 1), (126, 43, 1, 99), (129, 44, 1, 99), (132, 131, 3, 1), (135, 129, 3, 1), (141, 41, 1, 99), (147, 42, 1, 99), (234, 45, 1, 99)],
  [])
def mp_C_liesOnLine_t : mm_T := (⟨"RootCompass", "liesOnLine", "(II)Z"⟩, prog_1_method_38_code, 4, (some .boolean), 0, mp_C_liesOnLine)
def mp_C_coincide : mm_P := ([(0, .aload_n 0, 1), (1, .getfield 14, 3), (4, .iload_n 1, 1), (5, .invokestatic 141, 3), (8, .iload_n 2, 1), (9, .invokestatic 141, 3), (12, .invokevirtual 115, 3), (15, .ifCond .eq 25, 3), (18, .aload_n 0, 1), (19, .getfield 14, 3), (22, .iload_n 1, 1), (23, .invokestatic 147, 3), (26, .iload_n 2, 1), (27, .invokestatic 147, 3), (30, .invokevirtual 115, 3), (33, .ifCond .eq 7, 3), (36, .iconst 1, 1), (37, .goto 4, 3), (40, .iconst 0, 1), (41, .ireturn, 1)],
  [(14, 2, 0, 2)],
  [],
  [(115, 125, 3, 1), (141, 41, 1, 99), (147, 42, 1, 99)],
  [])
def mp_C_coincide_t : mm_T := (⟨"RootCompass", "coincide", "(II)Z"⟩, prog_1_method_39_code, 3, (some .boolean), 0, mp_C_coincide)
def mp_C_squareOfDistance : mm_P := ([(0, .aload_n 0, 1), (1, .getfield 14, 3), (4, .iload_n 2, 1), (5, .invokestatic 141, 3), (8, .iload_n 1, 1), (9, .invokestatic 141, 3), (12, .invokevirtual 144, 3), (15, .istore_n 3, 1), (16, .aload_n 0, 1), (17, .getfield 14, 3), (20, .iload_n 2, 1), (21, .invokestatic 147, 3), (24, .iload_n 1, 1), (25, .invokestatic 147, 3), (28, .invokevirtual 144, 3), (31, .istore 4, 2), (33, .aload_n 0, 1), (34, .getfield 14, 3), (37, .aload_n 0, 1), (38, .getfield 14, 3), (41, .iload_n 3, 1), (42, .iload_n 3, 1), (43, .invokevirtual 132, 3), (46, .aload_n 0, 1), (47, .getfield 14, 3), (50, .iload 4, 2), (52, .iload 4, 2), (54, .invokevirtual 132, 3), (57, .invokevirtual 135, 3), (60, .ireturn, 1)],
  [(14, 2, 0, 2)],
  [],
  [(132, 131, 3, 1), (135, 129, 3, 1), (141, 41, 1, 99), (144, 130, 3, 1), (147, 42, 1, 99)],
  [])
def mp_C_squareOfDistance_t : mm_T := (⟨"RootCompass", "squareOfDistance", "(II)I"⟩, prog_1_method_40_code, 5, (some .int), 0, mp_C_squareOfDistance)
def mp_C_place : mm_P := ([(0, .aload_n 0, 1), (1, .getfield 14, 3), (4, .invokevirtual 101, 3), (7, .aload_n 0, 1), (8, .getfield 14, 3), (11, .aload_n 0, 1), (12, .getfield 14, 3), (15, .iload_n 2, 1), (16, .iload_n 3, 1), (17, .invokevirtual 267, 3), (20, .iload_n 1, 1), (21, .invokestatic 141, 3), (24, .invokevirtual 231, 3), (27, .aload_n 0, 1), (28, .getfield 14, 3), (31, .aload_n 0, 1), (32, .getfield 14, 3), (35, .iload 4, 2), (37, .iload 5, 2), (39, .invokevirtual 267, 3), (42, .iload_n 1, 1), (43, .invokestatic 147, 3), (46, .invokevirtual 231, 3), (49, .return_, 1)],
  [(14, 2, 0, 2)],
  [],
  [(101, 122, 1, 1), (141, 41, 1, 99), (147, 42, 1, 99), (231, 124, 3, 1), (267, 128, 3, 1)],
  [])
def mp_C_place_t : mm_T := (⟨"RootCompass", "place", "(IIIII)V"⟩, prog_1_method_41_code, 6, none, 0, mp_C_place)
def mp_C_copyPlace : mm_P := ([(0, .aload_n 0, 1), (1, .getfield 14, 3), (4, .iload_n 1, 1), (5, .invokestatic 141, 3), (8, .iload_n 2, 1), (9, .invokestatic 141, 3), (12, .invokevirtual 231, 3), (15, .aload_n 0, 1), (16, .getfield 14, 3), (19, .iload_n 1, 1), (20, .invokestatic 147, 3), (23, .iload_n 2, 1), (24, .invokestatic 147, 3), (27, .invokevirtual 231, 3), (30, .return_, 1)],
  [(14, 2, 0, 2)],
  [],
  [(141, 41, 1, 99), (147, 42, 1, 99), (231, 124, 3, 1)],
  [])
def mp_C_copyPlace_t : mm_T := (⟨"RootCompass", "copyPlace", "(II)V"⟩, prog_1_method_42_code, 3, none, 0, mp_C_copyPlace)
def mp_C_xOf : mm_P := ([(0, .iload_n 0, 1), (1, .iconst 3, 1), (2, .imul, 1), (3, .invokestatic 270, 3), (6, .ireturn, 1)],
  [],
  [],
  [(270, 121, 1, 99)],
  [])
def mp_C_xOf_t : mm_T := (⟨"RootCompass", "xOf", "(I)I"⟩, prog_1_method_43_code, 1, (some .int), 0, mp_C_xOf)
def mp_C_yOf : mm_P := ([(0, .iload_n 0, 1), (1, .iconst 3, 1), (2, .imul, 1), (3, .iconst 1, 1), (4, .iadd, 1), (5, .invokestatic 270, 3), (8, .ireturn, 1)],
  [],
  [],
  [(270, 121, 1, 99)],
  [])
def mp_C_yOf_t : mm_T := (⟨"RootCompass", "yOf", "(I)I"⟩, prog_1_method_44_code, 1, (some .int), 0, mp_C_yOf)
def mp_C_lineA : mm_P := ([(0, .iload_n 0, 1), (1, .iconst 3, 1), (2, .imul, 1), (3, .invokestatic 270, 3), (6, .ireturn, 1)],
  [],
  [],
  [(270, 121, 1, 99)],
  [])
def mp_C_lineA_t : mm_T := (⟨"RootCompass", "lineA", "(I)I"⟩, prog_1_method_45_code, 1, (some .int), 0, mp_C_lineA)
def mp_C_lineB : mm_P := ([(0, .iload_n 0, 1), (1, .iconst 3, 1), (2, .imul, 1), (3, .iconst 1, 1), (4, .iadd, 1), (5, .invokestatic 270, 3), (8, .ireturn, 1)],
  [],
  [],
  [(270, 121, 1, 99)],
  [])
def mp_C_lineB_t : mm_T := (⟨"RootCompass", "lineB", "(I)I"⟩, prog_1_method_46_code, 1, (some .int), 0, mp_C_lineB)
def mp_C_lineC : mm_P := ([(0, .iload_n 0, 1), (1, .iconst 3, 1), (2, .imul, 1), (3, .iconst 2, 1), (4, .iadd, 1), (5, .invokestatic 270, 3), (8, .ireturn, 1)],
  [],
  [],
  [(270, 121, 1, 99)],
  [])
def mp_C_lineC_t : mm_T := (⟨"RootCompass", "lineC", "(I)I"⟩, prog_1_method_47_code, 1, (some .int), 0, mp_C_lineC)
def mp_C_squareOf : mm_P := ([(0, .iload_n 0, 1), (1, .iconst 3, 1), (2, .imul, 1), (3, .invokestatic 270, 3), (6, .ireturn, 1)],
  [],
  [],
  [(270, 121, 1, 99)],
  [])
def mp_C_squareOf_t : mm_T := (⟨"RootCompass", "squareOf", "(I)I"⟩, prog_1_method_48_code, 1, (some .int), 0, mp_C_squareOf)
def mp_M_thrown : mm_P := ([(0, .aload_n 0, 1), (1, .getfield 31, 3), (4, .ireturn, 1)],
  [(31, 3, 0, 0)],
  [],
  [],
  [])
def mp_M_thrown_t : mm_T := (⟨"RootCompassModel", "thrown", "()I"⟩, prog_5_method_2_code, 1, (some .int), 0, mp_M_thrown)
def mp_M_divisor : mm_P := ([(0, .lload_n 0, 1), (1, .lconst 0, 1), (2, .lcmp, 1), (3, .ifCond .ge 8, 3), (6, .lload_n 0, 1), (7, .lneg, 1), (8, .goto 4, 3), (11, .lload_n 0, 1), (12, .lstore 4, 2), (14, .lload_n 2, 1), (15, .lstore 6, 2), (17, .lload 4, 2), (19, .lconst 0, 1), (20, .lcmp, 1), (21, .ifCond .eq 21, 3), (24, .lload 6, 2), (26, .lload 4, 2), (28, .lrem, 1), (29, .lstore 8, 2), (31, .lload 4, 2), (33, .lstore 6, 2), (35, .lload 8, 2), (37, .lstore 4, 2), (39, .goto (-22), 3), (42, .lload 6, 2), (44, .lreturn, 1)],
  [],
  [],
  [],
  [])
def mp_M_divisor_t : mm_T := (⟨"RootCompassModel", "divisor", "(JJ)J"⟩, prog_5_method_3_code, 10, (some .long), 0, mp_M_divisor)
def mp_M_put : mm_P := ([(0, .lload_n 2, 1), (1, .lload 4, 2), (3, .invokestatic 35, 3), (6, .lstore 6, 2), (8, .lload_n 2, 1), (9, .lload 6, 2), (11, .ldiv, 1), (12, .lstore 8, 2), (14, .lload 4, 2), (16, .lload 6, 2), (18, .ldiv, 1), (19, .lstore 10, 2), (21, .lload 8, 2), (23, .ldc2_w 39, 3), (26, .lcmp, 1), (27, .ifCond .gt 25, 3), (30, .lload 8, 2), (32, .ldc2_w 41, 3), (35, .lcmp, 1), (36, .ifCond .lt 16, 3), (39, .lload 10, 2), (41, .ldc2_w 39, 3), (44, .lcmp, 1), (45, .ifCond .gt 7, 3), (48, .iconst 1, 1), (49, .goto 4, 3), (52, .iconst 0, 1), (53, .istore 12, 2), (55, .aload_n 0, 1), (56, .aload_n 0, 1), (57, .getfield 43, 3), (60, .ifCond .ne 8, 3), (63, .iload 12, 2), (65, .ifCond .ne 7, 3), (68, .iconst 1, 1), (69, .goto 4, 3), (72, .iconst 0, 1), (73, .putfield 43, 3), (76, .aload_n 0, 1), (77, .getfield 7, 3), (80, .iload_n 1, 1), (81, .iload 12, 2), (83, .ifCond .eq 8, 3), (86, .lload 8, 2), (88, .goto 4, 3), (91, .lconst 0, 1), (92, .lastore, 1), (93, .aload_n 0, 1), (94, .getfield 13, 3), (97, .iload_n 1, 1), (98, .iload 12, 2), (100, .ifCond .eq 8, 3), (103, .lload 10, 2), (105, .goto 4, 3), (108, .lconst 1, 1), (109, .lastore, 1), (110, .return_, 1)],
  [(7, 3, 4, 2), (13, 3, 5, 2), (43, 3, 2, 1)],
  [(39, .long 2147483647), (41, .long (-2147483647))],
  [(35, 48, 2, 99)],
  [])
def mp_M_put_t : mm_T := (⟨"RootCompassModel", "put", "(IJJ)V"⟩, prog_5_method_4_code, 13, none, 0, mp_M_put)
def mp_M_add0 : mm_P := ([(0, .aload_n 0, 1), (1, .iload_n 1, 1), (2, .aload_n 0, 1), (3, .getfield 7, 3), (6, .iload_n 2, 1), (7, .laload, 1), (8, .aload_n 0, 1), (9, .getfield 13, 3), (12, .iload_n 3, 1), (13, .laload, 1), (14, .lmul, 1), (15, .aload_n 0, 1), (16, .getfield 7, 3), (19, .iload_n 3, 1), (20, .laload, 1), (21, .aload_n 0, 1), (22, .getfield 13, 3), (25, .iload_n 2, 1), (26, .laload, 1), (27, .lmul, 1), (28, .ladd, 1), (29, .aload_n 0, 1), (30, .getfield 13, 3), (33, .iload_n 2, 1), (34, .laload, 1), (35, .aload_n 0, 1), (36, .getfield 13, 3), (39, .iload_n 3, 1), (40, .laload, 1), (41, .lmul, 1), (42, .invokevirtual 47, 3), (45, .return_, 1)],
  [(7, 3, 4, 2), (13, 3, 5, 2)],
  [],
  [(47, 49, 4, 3)],
  [])
def mp_M_add0_t : mm_T := (⟨"RootCompassModel", "add0", "(III)V"⟩, prog_5_method_5_code, 4, none, 0, mp_M_add0)
def mp_M_sub0 : mm_P := ([(0, .aload_n 0, 1), (1, .iload_n 1, 1), (2, .aload_n 0, 1), (3, .getfield 7, 3), (6, .iload_n 2, 1), (7, .laload, 1), (8, .aload_n 0, 1), (9, .getfield 13, 3), (12, .iload_n 3, 1), (13, .laload, 1), (14, .lmul, 1), (15, .aload_n 0, 1), (16, .getfield 7, 3), (19, .iload_n 3, 1), (20, .laload, 1), (21, .aload_n 0, 1), (22, .getfield 13, 3), (25, .iload_n 2, 1), (26, .laload, 1), (27, .lmul, 1), (28, .lsub, 1), (29, .aload_n 0, 1), (30, .getfield 13, 3), (33, .iload_n 2, 1), (34, .laload, 1), (35, .aload_n 0, 1), (36, .getfield 13, 3), (39, .iload_n 3, 1), (40, .laload, 1), (41, .lmul, 1), (42, .invokevirtual 47, 3), (45, .return_, 1)],
  [(7, 3, 4, 2), (13, 3, 5, 2)],
  [],
  [(47, 49, 4, 3)],
  [])
def mp_M_sub0_t : mm_T := (⟨"RootCompassModel", "sub0", "(III)V"⟩, prog_5_method_6_code, 4, none, 0, mp_M_sub0)
def mp_M_mul0 : mm_P := ([(0, .aload_n 0, 1), (1, .iload_n 1, 1), (2, .aload_n 0, 1), (3, .getfield 7, 3), (6, .iload_n 2, 1), (7, .laload, 1), (8, .aload_n 0, 1), (9, .getfield 7, 3), (12, .iload_n 3, 1), (13, .laload, 1), (14, .lmul, 1), (15, .aload_n 0, 1), (16, .getfield 13, 3), (19, .iload_n 2, 1), (20, .laload, 1), (21, .aload_n 0, 1), (22, .getfield 13, 3), (25, .iload_n 3, 1), (26, .laload, 1), (27, .lmul, 1), (28, .invokevirtual 47, 3), (31, .return_, 1)],
  [(7, 3, 4, 2), (13, 3, 5, 2)],
  [],
  [(47, 49, 4, 3)],
  [])
def mp_M_mul0_t : mm_T := (⟨"RootCompassModel", "mul0", "(III)V"⟩, prog_5_method_7_code, 4, none, 0, mp_M_mul0)
def mp_M_neg0 : mm_P := ([(0, .aload_n 0, 1), (1, .iload_n 1, 1), (2, .aload_n 0, 1), (3, .getfield 7, 3), (6, .iload_n 2, 1), (7, .laload, 1), (8, .lneg, 1), (9, .aload_n 0, 1), (10, .getfield 13, 3), (13, .iload_n 2, 1), (14, .laload, 1), (15, .invokevirtual 47, 3), (18, .return_, 1)],
  [(7, 3, 4, 2), (13, 3, 5, 2)],
  [],
  [(47, 49, 4, 3)],
  [])
def mp_M_neg0_t : mm_T := (⟨"RootCompassModel", "neg0", "(II)V"⟩, prog_5_method_8_code, 3, none, 0, mp_M_neg0)
def mp_M_inv0 : mm_P := ([(0, .aload_n 0, 1), (1, .aload_n 0, 1), (2, .getfield 43, 3), (5, .ifCond .ne 14, 3), (8, .aload_n 0, 1), (9, .getfield 7, 3), (12, .iload_n 2, 1), (13, .laload, 1), (14, .lconst 0, 1), (15, .lcmp, 1), (16, .ifCond .ne 7, 3), (19, .iconst 1, 1), (20, .goto 4, 3), (23, .iconst 0, 1), (24, .putfield 43, 3), (27, .aload_n 0, 1), (28, .iload_n 1, 1), (29, .aload_n 0, 1), (30, .getfield 7, 3), (33, .iload_n 2, 1), (34, .laload, 1), (35, .lconst 0, 1), (36, .lcmp, 1), (37, .ifCond .ge 13, 3), (40, .aload_n 0, 1), (41, .getfield 13, 3), (44, .iload_n 2, 1), (45, .laload, 1), (46, .lneg, 1), (47, .goto 24, 3), (50, .aload_n 0, 1), (51, .getfield 7, 3), (54, .iload_n 2, 1), (55, .laload, 1), (56, .lconst 0, 1), (57, .lcmp, 1), (58, .ifCond .ne 7, 3), (61, .lconst 0, 1), (62, .goto 9, 3), (65, .aload_n 0, 1), (66, .getfield 13, 3), (69, .iload_n 2, 1), (70, .laload, 1), (71, .aload_n 0, 1), (72, .getfield 7, 3), (75, .iload_n 2, 1), (76, .laload, 1), (77, .lconst 0, 1), (78, .lcmp, 1), (79, .ifCond .ge 13, 3), (82, .aload_n 0, 1), (83, .getfield 7, 3), (86, .iload_n 2, 1), (87, .laload, 1), (88, .lneg, 1), (89, .goto 24, 3), (92, .aload_n 0, 1), (93, .getfield 7, 3), (96, .iload_n 2, 1), (97, .laload, 1), (98, .lconst 0, 1), (99, .lcmp, 1), (100, .ifCond .ne 7, 3), (103, .lconst 1, 1), (104, .goto 9, 3), (107, .aload_n 0, 1), (108, .getfield 7, 3), (111, .iload_n 2, 1), (112, .laload, 1), (113, .invokevirtual 47, 3), (116, .return_, 1)],
  [(7, 3, 4, 2), (13, 3, 5, 2), (43, 3, 2, 1)],
  [],
  [(47, 49, 4, 3)],
  [])
def mp_M_inv0_t : mm_T := (⟨"RootCompassModel", "inv0", "(II)V"⟩, prog_5_method_9_code, 3, none, 0, mp_M_inv0)
def mp_M_sign0 : mm_P := ([(0, .aload_n 0, 1), (1, .getfield 7, 3), (4, .iload_n 1, 1), (5, .laload, 1), (6, .lconst 0, 1), (7, .lcmp, 1), (8, .ifCond .ge 7, 3), (11, .iconst (-1), 1), (12, .goto 19, 3), (15, .aload_n 0, 1), (16, .getfield 7, 3), (19, .iload_n 1, 1), (20, .laload, 1), (21, .lconst 0, 1), (22, .lcmp, 1), (23, .ifCond .le 7, 3), (26, .iconst 1, 1), (27, .goto 4, 3), (30, .iconst 0, 1), (31, .ireturn, 1)],
  [(7, 3, 4, 2)],
  [],
  [],
  [])
def mp_M_sign0_t : mm_T := (⟨"RootCompassModel", "sign0", "(I)I"⟩, prog_5_method_10_code, 2, (some .int), 0, mp_M_sign0)
def mp_M_square : mm_P := ([(0, .lconst 0, 1), (1, .lstore_n 2, 1), (2, .ldc2_w 51, 3), (5, .lstore 4, 2), (7, .lload_n 2, 1), (8, .lload 4, 2), (10, .lcmp, 1), (11, .ifCond .ge 61, 3), (14, .lload_n 2, 1), (15, .lload 4, 2), (17, .ladd, 1), (18, .ldc2_w 29, 3), (21, .ldiv, 1), (22, .lstore 6, 2), (24, .lload 6, 2), (26, .lload 6, 2), (28, .lmul, 1), (29, .lload_n 0, 1), (30, .lcmp, 1), (31, .ifCond .ge 7, 3), (34, .iconst 1, 1), (35, .goto 4, 3), (38, .iconst 0, 1), (39, .istore 8, 2), (41, .iload 8, 2), (43, .ifCond .eq 10, 3), (46, .lload 6, 2), (48, .lconst 1, 1), (49, .ladd, 1), (50, .goto 4, 3), (53, .lload_n 2, 1), (54, .lstore_n 2, 1), (55, .iload 8, 2), (57, .ifCond .eq 8, 3), (60, .lload 4, 2), (62, .goto 5, 3), (65, .lload 6, 2), (67, .lstore 4, 2), (69, .goto (-62), 3), (72, .lload_n 2, 1), (73, .lload_n 2, 1), (74, .lmul, 1), (75, .lload_n 0, 1), (76, .lcmp, 1), (77, .ifCond .ne 7, 3), (80, .lload_n 2, 1), (81, .goto 6, 3), (84, .ldc2_w 53, 3), (87, .lreturn, 1)],
  [],
  [(29, .long 2), (51, .long 46341), (53, .long (-1))],
  [],
  [])
def mp_M_square_t : mm_T := (⟨"RootCompassModel", "square", "(J)J"⟩, prog_5_method_11_code, 9, (some .long), 0, mp_M_square)
def mp_M_root0 : mm_P := ([(0, .aload_n 0, 1), (1, .getfield 7, 3), (4, .iload_n 2, 1), (5, .laload, 1), (6, .invokestatic 55, 3), (9, .lstore_n 3, 1), (10, .aload_n 0, 1), (11, .getfield 13, 3), (14, .iload_n 2, 1), (15, .laload, 1), (16, .invokestatic 55, 3), (19, .lstore 5, 2), (21, .lload_n 3, 1), (22, .lconst 0, 1), (23, .lcmp, 1), (24, .ifCond .lt 10, 3), (27, .lload 5, 2), (29, .lconst 0, 1), (30, .lcmp, 1), (31, .ifCond .ge 5, 3), (34, .iconst 0, 1), (35, .ireturn, 1), (36, .aload_n 0, 1), (37, .iload_n 1, 1), (38, .lload_n 3, 1), (39, .lload 5, 2), (41, .invokevirtual 47, 3), (44, .iconst 1, 1), (45, .ireturn, 1)],
  [(7, 3, 4, 2), (13, 3, 5, 2)],
  [],
  [(47, 49, 4, 3), (55, 56, 1, 99)],
  [])
def mp_M_root0_t : mm_T := (⟨"RootCompassModel", "root0", "(II)Z"⟩, prog_5_method_12_code, 7, (some .boolean), 0, mp_M_root0)
def mp_M_set : mm_P := ([(0, .iconst 0, 1), (1, .istore 4, 2), (3, .iload 4, 2), (5, .iload_n 3, 1), (6, .if_icmp .ge 45, 3), (9, .aload_n 0, 1), (10, .getfield 7, 3), (13, .iload_n 1, 1), (14, .iload 4, 2), (16, .iadd, 1), (17, .aload_n 0, 1), (18, .getfield 7, 3), (21, .iload_n 2, 1), (22, .iload 4, 2), (24, .iadd, 1), (25, .laload, 1), (26, .lastore, 1), (27, .aload_n 0, 1), (28, .getfield 13, 3), (31, .iload_n 1, 1), (32, .iload 4, 2), (34, .iadd, 1), (35, .aload_n 0, 1), (36, .getfield 13, 3), (39, .iload_n 2, 1), (40, .iload 4, 2), (42, .iadd, 1), (43, .laload, 1), (44, .lastore, 1), (45, .iinc 4 1, 3), (48, .goto (-45), 3), (51, .return_, 1)],
  [(7, 3, 4, 2), (13, 3, 5, 2)],
  [],
  [],
  [])
def mp_M_set_t : mm_T := (⟨"RootCompassModel", "set", "(III)V"⟩, prog_5_method_13_code, 5, none, 0, mp_M_set)
def mp_M_add : mm_P := ([(0, .iconst 0, 1), (1, .istore 5, 2), (3, .iload 5, 2), (5, .iload 4, 2), (7, .if_icmp .ge 25, 3), (10, .aload_n 0, 1), (11, .iload_n 1, 1), (12, .iload 5, 2), (14, .iadd, 1), (15, .iload_n 2, 1), (16, .iload 5, 2), (18, .iadd, 1), (19, .iload_n 3, 1), (20, .iload 5, 2), (22, .iadd, 1), (23, .invokevirtual 59, 3), (26, .iinc 5 1, 3), (29, .goto (-26), 3), (32, .return_, 1)],
  [],
  [],
  [(59, 50, 4, 3)],
  [])
def mp_M_add_t : mm_T := (⟨"RootCompassModel", "add", "(IIII)V"⟩, prog_5_method_14_code, 6, none, 0, mp_M_add)
def mp_M_sub : mm_P := ([(0, .iconst 0, 1), (1, .istore 5, 2), (3, .iload 5, 2), (5, .iload 4, 2), (7, .if_icmp .ge 25, 3), (10, .aload_n 0, 1), (11, .iload_n 1, 1), (12, .iload 5, 2), (14, .iadd, 1), (15, .iload_n 2, 1), (16, .iload 5, 2), (18, .iadd, 1), (19, .iload_n 3, 1), (20, .iload 5, 2), (22, .iadd, 1), (23, .invokevirtual 63, 3), (26, .iinc 5 1, 3), (29, .goto (-26), 3), (32, .return_, 1)],
  [],
  [],
  [(63, 51, 4, 3)],
  [])
def mp_M_sub_t : mm_T := (⟨"RootCompassModel", "sub", "(IIII)V"⟩, prog_5_method_15_code, 6, none, 0, mp_M_sub)
def mp_M_neg : mm_P := ([(0, .iconst 0, 1), (1, .istore 4, 2), (3, .iload 4, 2), (5, .iload_n 3, 1), (6, .if_icmp .ge 21, 3), (9, .aload_n 0, 1), (10, .iload_n 1, 1), (11, .iload 4, 2), (13, .iadd, 1), (14, .iload_n 2, 1), (15, .iload 4, 2), (17, .iadd, 1), (18, .invokevirtual 66, 3), (21, .iinc 4 1, 3), (24, .goto (-21), 3), (27, .return_, 1)],
  [],
  [],
  [(66, 53, 3, 3)],
  [])
def mp_M_neg_t : mm_T := (⟨"RootCompassModel", "neg", "(III)V"⟩, prog_5_method_16_code, 5, none, 0, mp_M_neg)
def mp_M_halve : mm_P := ([(0, .iconst 0, 1), (1, .istore 4, 2), (3, .iload 4, 2), (5, .iload_n 3, 1), (6, .if_icmp .ge 24, 3), (9, .aload_n 0, 1), (10, .iload_n 1, 1), (11, .iload 4, 2), (13, .iadd, 1), (14, .iload_n 2, 1), (15, .iload 4, 2), (17, .iadd, 1), (18, .sipush 299, 3), (21, .invokevirtual 70, 3), (24, .iinc 4 1, 3), (27, .goto (-24), 3), (30, .return_, 1)],
  [],
  [],
  [(70, 52, 4, 3)],
  [])
def mp_M_halve_t : mm_T := (⟨"RootCompassModel", "halve", "(III)V"⟩, prog_5_method_17_code, 5, none, 0, mp_M_halve)
def mp_M_isZero : mm_P := ([(0, .iconst 1, 1), (1, .istore_n 3, 1), (2, .iconst 0, 1), (3, .istore 4, 2), (5, .iload 4, 2), (7, .iload_n 2, 1), (8, .if_icmp .ge 33, 3), (11, .iload_n 3, 1), (12, .ifCond .eq 21, 3), (15, .aload_n 0, 1), (16, .getfield 7, 3), (19, .iload_n 1, 1), (20, .iload 4, 2), (22, .iadd, 1), (23, .laload, 1), (24, .lconst 0, 1), (25, .lcmp, 1), (26, .ifCond .ne 7, 3), (29, .iconst 1, 1), (30, .goto 4, 3), (33, .iconst 0, 1), (34, .istore_n 3, 1), (35, .iinc 4 1, 3), (38, .goto (-33), 3), (41, .iload_n 3, 1), (42, .ireturn, 1)],
  [(7, 3, 4, 2)],
  [],
  [],
  [])
def mp_M_isZero_t : mm_T := (⟨"RootCompassModel", "isZero", "(II)Z"⟩, prog_5_method_18_code, 5, (some .boolean), 0, mp_M_isZero)
def mp_M_alike : mm_P := ([(0, .iconst 1, 1), (1, .istore_n 3, 1), (2, .iconst 0, 1), (3, .istore 4, 2), (5, .iload 4, 2), (7, .iconst 4, 1), (8, .if_icmp .ge 63, 3), (11, .iload_n 3, 1), (12, .ifCond .eq 51, 3), (15, .aload_n 0, 1), (16, .getfield 7, 3), (19, .iload_n 1, 1), (20, .iload 4, 2), (22, .iadd, 1), (23, .laload, 1), (24, .aload_n 0, 1), (25, .getfield 7, 3), (28, .iload_n 2, 1), (29, .iload 4, 2), (31, .iadd, 1), (32, .laload, 1), (33, .lcmp, 1), (34, .ifCond .ne 29, 3), (37, .aload_n 0, 1), (38, .getfield 13, 3), (41, .iload_n 1, 1), (42, .iload 4, 2), (44, .iadd, 1), (45, .laload, 1), (46, .aload_n 0, 1), (47, .getfield 13, 3), (50, .iload_n 2, 1), (51, .iload 4, 2), (53, .iadd, 1), (54, .laload, 1), (55, .lcmp, 1), (56, .ifCond .ne 7, 3), (59, .iconst 1, 1), (60, .goto 4, 3), (63, .iconst 0, 1), (64, .istore_n 3, 1), (65, .iinc 4 1, 3), (68, .goto (-63), 3), (71, .iload_n 3, 1), (72, .ireturn, 1)],
  [(7, 3, 4, 2), (13, 3, 5, 2)],
  [],
  [],
  [])
def mp_M_alike_t : mm_T := (⟨"RootCompassModel", "alike", "(II)Z"⟩, prog_5_method_19_code, 5, (some .boolean), 0, mp_M_alike)
def mp_M_clear : mm_P := ([(0, .iload_n 2, 1), (1, .istore_n 3, 1), (2, .iload_n 3, 1), (3, .iconst 4, 1), (4, .if_icmp .ge 27, 3), (7, .aload_n 0, 1), (8, .getfield 7, 3), (11, .iload_n 1, 1), (12, .iload_n 3, 1), (13, .iadd, 1), (14, .lconst 0, 1), (15, .lastore, 1), (16, .aload_n 0, 1), (17, .getfield 13, 3), (20, .iload_n 1, 1), (21, .iload_n 3, 1), (22, .iadd, 1), (23, .lconst 1, 1), (24, .lastore, 1), (25, .iinc 3 1, 3), (28, .goto (-26), 3), (31, .return_, 1)],
  [(7, 3, 4, 2), (13, 3, 5, 2)],
  [],
  [],
  [])
def mp_M_clear_t : mm_T := (⟨"RootCompassModel", "clear", "(II)V"⟩, prog_5_method_20_code, 4, none, 0, mp_M_clear)
def mp_M_mul1 : mm_P := ([(0, .aload_n 0, 1), (1, .sipush 300, 3), (4, .iload_n 2, 1), (5, .iload_n 3, 1), (6, .invokevirtual 70, 3), (9, .aload_n 0, 1), (10, .sipush 301, 3), (13, .iload_n 2, 1), (14, .iconst 1, 1), (15, .iadd, 1), (16, .iload_n 3, 1), (17, .iconst 1, 1), (18, .iadd, 1), (19, .invokevirtual 70, 3), (22, .aload_n 0, 1), (23, .sipush 301, 3), (26, .sipush 301, 3), (29, .sipush 288, 3), (32, .invokevirtual 70, 3), (35, .aload_n 0, 1), (36, .sipush 302, 3), (39, .iload_n 2, 1), (40, .iload_n 3, 1), (41, .iconst 1, 1), (42, .iadd, 1), (43, .invokevirtual 70, 3), (46, .aload_n 0, 1), (47, .sipush 303, 3), (50, .iload_n 2, 1), (51, .iconst 1, 1), (52, .iadd, 1), (53, .iload_n 3, 1), (54, .invokevirtual 70, 3), (57, .aload_n 0, 1), (58, .iload_n 1, 1), (59, .sipush 300, 3), (62, .sipush 301, 3), (65, .invokevirtual 59, 3), (68, .aload_n 0, 1), (69, .iload_n 1, 1), (70, .iconst 1, 1), (71, .iadd, 1), (72, .sipush 302, 3), (75, .sipush 303, 3), (78, .invokevirtual 59, 3), (81, .return_, 1)],
  [],
  [],
  [(59, 50, 4, 3), (70, 52, 4, 3)],
  [])
def mp_M_mul1_t : mm_T := (⟨"RootCompassModel", "mul1", "(III)V"⟩, prog_5_method_21_code, 4, none, 0, mp_M_mul1)
def mp_M_norm1 : mm_P := ([(0, .aload_n 0, 1), (1, .iload_n 1, 1), (2, .iload_n 2, 1), (3, .iload_n 2, 1), (4, .invokevirtual 70, 3), (7, .aload_n 0, 1), (8, .sipush 300, 3), (11, .iload_n 2, 1), (12, .iconst 1, 1), (13, .iadd, 1), (14, .iload_n 2, 1), (15, .iconst 1, 1), (16, .iadd, 1), (17, .invokevirtual 70, 3), (20, .aload_n 0, 1), (21, .sipush 300, 3), (24, .sipush 300, 3), (27, .sipush 288, 3), (30, .invokevirtual 70, 3), (33, .aload_n 0, 1), (34, .iload_n 1, 1), (35, .iload_n 1, 1), (36, .sipush 300, 3), (39, .invokevirtual 63, 3), (42, .return_, 1)],
  [],
  [],
  [(63, 51, 4, 3), (70, 52, 4, 3)],
  [])
def mp_M_norm1_t : mm_T := (⟨"RootCompassModel", "norm1", "(II)V"⟩, prog_5_method_22_code, 3, none, 0, mp_M_norm1)
def mp_M_inv1 : mm_P := ([(0, .aload_n 0, 1), (1, .sipush 312, 3), (4, .iload_n 2, 1), (5, .invokevirtual 73, 3), (8, .aload_n 0, 1), (9, .sipush 312, 3), (12, .sipush 312, 3), (15, .invokevirtual 76, 3), (18, .aload_n 0, 1), (19, .sipush 313, 3), (22, .iload_n 2, 1), (23, .iconst 1, 1), (24, .iadd, 1), (25, .invokevirtual 66, 3), (28, .aload_n 0, 1), (29, .iload_n 1, 1), (30, .iload_n 2, 1), (31, .sipush 312, 3), (34, .invokevirtual 70, 3), (37, .aload_n 0, 1), (38, .iload_n 1, 1), (39, .iconst 1, 1), (40, .iadd, 1), (41, .sipush 313, 3), (44, .sipush 312, 3), (47, .invokevirtual 70, 3), (50, .return_, 1)],
  [],
  [],
  [(66, 53, 3, 3), (70, 52, 4, 3), (73, 67, 3, 3), (76, 54, 3, 3)],
  [])
def mp_M_inv1_t : mm_T := (⟨"RootCompassModel", "inv1", "(II)V"⟩, prog_5_method_23_code, 3, none, 0, mp_M_inv1)
def mp_M_sign1 : mm_P := ([(0, .aload_n 0, 1), (1, .iload_n 1, 1), (2, .invokevirtual 79, 3), (5, .istore_n 2, 1), (6, .aload_n 0, 1), (7, .iload_n 1, 1), (8, .iconst 1, 1), (9, .iadd, 1), (10, .invokevirtual 79, 3), (13, .istore_n 3, 1), (14, .iload_n 3, 1), (15, .ifCond .eq 8, 3), (18, .iload_n 2, 1), (19, .iload_n 3, 1), (20, .if_icmp .ne 5, 3), (23, .iload_n 2, 1), (24, .ireturn, 1), (25, .iload_n 2, 1), (26, .ifCond .ne 5, 3), (29, .iload_n 3, 1), (30, .ireturn, 1), (31, .aload_n 0, 1), (32, .sipush 324, 3), (35, .iload_n 1, 1), (36, .invokevirtual 73, 3), (39, .iload_n 2, 1), (40, .aload_n 0, 1), (41, .sipush 324, 3), (44, .invokevirtual 79, 3), (47, .imul, 1), (48, .ireturn, 1)],
  [],
  [],
  [(73, 67, 3, 3), (79, 55, 2, 3)],
  [])
def mp_M_sign1_t : mm_T := (⟨"RootCompassModel", "sign1", "(I)I"⟩, prog_5_method_24_code, 4, (some .int), 0, mp_M_sign1)
def mp_M_half1 : mm_P := ([(0, .iload 4, 2), (2, .ifCond .eq 15, 3), (5, .aload_n 0, 1), (6, .sipush 337, 3), (9, .iload_n 2, 1), (10, .iload_n 3, 1), (11, .invokevirtual 63, 3), (14, .goto 12, 3), (17, .aload_n 0, 1), (18, .sipush 337, 3), (21, .iload_n 2, 1), (22, .iload_n 3, 1), (23, .invokevirtual 59, 3), (26, .aload_n 0, 1), (27, .sipush 337, 3), (30, .sipush 337, 3), (33, .sipush 299, 3), (36, .invokevirtual 70, 3), (39, .aload_n 0, 1), (40, .sipush 337, 3), (43, .invokevirtual 79, 3), (46, .ifCond .le 16, 3), (49, .aload_n 0, 1), (50, .sipush 338, 3), (53, .sipush 337, 3), (56, .invokevirtual 83, 3), (59, .ifCond .ne 5, 3), (62, .iconst 0, 1), (63, .ireturn, 1), (64, .aload_n 0, 1), (65, .sipush 339, 3), (68, .sipush 338, 3), (71, .sipush 338, 3), (74, .invokevirtual 59, 3), (77, .aload_n 0, 1), (78, .sipush 339, 3), (81, .sipush 339, 3), (84, .invokevirtual 76, 3), (87, .aload_n 0, 1), (88, .sipush 339, 3), (91, .iload_n 2, 1), (92, .iconst 1, 1), (93, .iadd, 1), (94, .sipush 339, 3), (97, .invokevirtual 70, 3), (100, .aload_n 0, 1), (101, .sipush 338, 3), (104, .invokevirtual 87, 3), (107, .istore 5, 2), (109, .aload_n 0, 1), (110, .iload_n 1, 1), (111, .sipush 338, 3), (114, .iconst 2, 1), (115, .invokevirtual 90, 3), (118, .iload 5, 2), (120, .ifCond .ge 10, 3), (123, .aload_n 0, 1), (124, .iload_n 1, 1), (125, .iload_n 1, 1), (126, .iconst 2, 1), (127, .invokevirtual 93, 3), (130, .iconst 1, 1), (131, .ireturn, 1)],
  [],
  [],
  [(59, 50, 4, 3), (63, 51, 4, 3), (70, 52, 4, 3), (76, 54, 3, 3), (79, 55, 2, 3), (83, 57, 3, 3), (87, 69, 2, 3), (90, 58, 4, 3), (93, 61, 4, 3)],
  [])
def mp_M_half1_t : mm_T := (⟨"RootCompassModel", "half1", "(IIIZ)Z"⟩, prog_5_method_25_code, 6, (some .boolean), 0, mp_M_half1)
def mp_M_root1 : mm_P := ([(0, .aload_n 0, 1), (1, .getfield 7, 3), (4, .iload_n 2, 1), (5, .iconst 1, 1), (6, .iadd, 1), (7, .laload, 1), (8, .lconst 0, 1), (9, .lcmp, 1), (10, .ifCond .ne 106, 3), (13, .aload_n 0, 1), (14, .sipush 336, 3), (17, .iload_n 2, 1), (18, .invokevirtual 83, 3), (21, .ifCond .eq 32, 3), (24, .aload_n 0, 1), (25, .iload_n 1, 1), (26, .sipush 336, 3), (29, .iconst 1, 1), (30, .invokevirtual 90, 3), (33, .aload_n 0, 1), (34, .getfield 7, 3), (37, .iload_n 1, 1), (38, .iconst 1, 1), (39, .iadd, 1), (40, .lconst 0, 1), (41, .lastore, 1), (42, .aload_n 0, 1), (43, .getfield 13, 3), (46, .iload_n 1, 1), (47, .iconst 1, 1), (48, .iadd, 1), (49, .lconst 1, 1), (50, .lastore, 1), (51, .iconst 1, 1), (52, .ireturn, 1), (53, .aload_n 0, 1), (54, .sipush 336, 3), (57, .sipush 288, 3), (60, .invokevirtual 76, 3), (63, .aload_n 0, 1), (64, .sipush 336, 3), (67, .iload_n 2, 1), (68, .sipush 336, 3), (71, .invokevirtual 70, 3), (74, .aload_n 0, 1), (75, .sipush 336, 3), (78, .sipush 336, 3), (81, .invokevirtual 83, 3), (84, .istore_n 3, 1), (85, .iload_n 3, 1), (86, .ifCond .eq 28, 3), (89, .aload_n 0, 1), (90, .iload_n 1, 1), (91, .iconst 1, 1), (92, .iadd, 1), (93, .sipush 336, 3), (96, .iconst 1, 1), (97, .invokevirtual 90, 3), (100, .aload_n 0, 1), (101, .getfield 7, 3), (104, .iload_n 1, 1), (105, .lconst 0, 1), (106, .lastore, 1), (107, .aload_n 0, 1), (108, .getfield 13, 3), (111, .iload_n 1, 1), (112, .lconst 1, 1), (113, .lastore, 1), (114, .iload_n 3, 1), (115, .ireturn, 1), (116, .aload_n 0, 1), (117, .sipush 336, 3), (120, .iload_n 2, 1), (121, .invokevirtual 73, 3), (124, .aload_n 0, 1), (125, .sipush 336, 3), (128, .invokevirtual 79, 3), (131, .ifCond .lt 16, 3), (134, .aload_n 0, 1), (135, .sipush 336, 3), (138, .sipush 336, 3), (141, .invokevirtual 83, 3), (144, .ifCond .ne 5, 3), (147, .iconst 0, 1), (148, .ireturn, 1), (149, .aload_n 0, 1), (150, .iload_n 1, 1), (151, .iload_n 2, 1), (152, .sipush 336, 3), (155, .iconst 0, 1), (156, .invokevirtual 96, 3), (159, .ifCond .ne 16, 3), (162, .aload_n 0, 1), (163, .iload_n 1, 1), (164, .iload_n 2, 1), (165, .sipush 336, 3), (168, .iconst 1, 1), (169, .invokevirtual 96, 3), (172, .ifCond .eq 7, 3), (175, .iconst 1, 1), (176, .goto 4, 3), (179, .iconst 0, 1), (180, .ireturn, 1)],
  [(7, 3, 4, 2), (13, 3, 5, 2)],
  [],
  [(70, 52, 4, 3), (73, 67, 3, 3), (76, 54, 3, 3), (79, 55, 2, 3), (83, 57, 3, 3), (90, 58, 4, 3), (96, 70, 5, 3)],
  [])
def mp_M_root1_t : mm_T := (⟨"RootCompassModel", "root1", "(II)Z"⟩, prog_5_method_26_code, 4, (some .boolean), 0, mp_M_root1)
def mp_M_mul2 : mm_P := ([(0, .aload_n 0, 1), (1, .sipush 304, 3), (4, .iload_n 2, 1), (5, .iload_n 3, 1), (6, .invokevirtual 100, 3), (9, .aload_n 0, 1), (10, .sipush 306, 3), (13, .iload_n 2, 1), (14, .iconst 2, 1), (15, .iadd, 1), (16, .iload_n 3, 1), (17, .iconst 2, 1), (18, .iadd, 1), (19, .invokevirtual 100, 3), (22, .aload_n 0, 1), (23, .sipush 306, 3), (26, .sipush 306, 3), (29, .sipush 289, 3), (32, .invokevirtual 100, 3), (35, .aload_n 0, 1), (36, .sipush 308, 3), (39, .iload_n 2, 1), (40, .iload_n 3, 1), (41, .iconst 2, 1), (42, .iadd, 1), (43, .invokevirtual 100, 3), (46, .aload_n 0, 1), (47, .sipush 310, 3), (50, .iload_n 2, 1), (51, .iconst 2, 1), (52, .iadd, 1), (53, .iload_n 3, 1), (54, .invokevirtual 100, 3), (57, .aload_n 0, 1), (58, .iload_n 1, 1), (59, .sipush 304, 3), (62, .sipush 306, 3), (65, .iconst 2, 1), (66, .invokevirtual 103, 3), (69, .aload_n 0, 1), (70, .iload_n 1, 1), (71, .iconst 2, 1), (72, .iadd, 1), (73, .sipush 308, 3), (76, .sipush 310, 3), (79, .iconst 2, 1), (80, .invokevirtual 103, 3), (83, .return_, 1)],
  [],
  [],
  [(100, 66, 4, 3), (103, 59, 5, 3)],
  [])
def mp_M_mul2_t : mm_T := (⟨"RootCompassModel", "mul2", "(III)V"⟩, prog_5_method_27_code, 4, none, 0, mp_M_mul2)
def mp_M_norm2 : mm_P := ([(0, .aload_n 0, 1), (1, .iload_n 1, 1), (2, .iload_n 2, 1), (3, .iload_n 2, 1), (4, .invokevirtual 100, 3), (7, .aload_n 0, 1), (8, .sipush 304, 3), (11, .iload_n 2, 1), (12, .iconst 2, 1), (13, .iadd, 1), (14, .iload_n 2, 1), (15, .iconst 2, 1), (16, .iadd, 1), (17, .invokevirtual 100, 3), (20, .aload_n 0, 1), (21, .sipush 304, 3), (24, .sipush 304, 3), (27, .sipush 289, 3), (30, .invokevirtual 100, 3), (33, .aload_n 0, 1), (34, .iload_n 1, 1), (35, .iload_n 1, 1), (36, .sipush 304, 3), (39, .iconst 2, 1), (40, .invokevirtual 107, 3), (43, .return_, 1)],
  [],
  [],
  [(100, 66, 4, 3), (107, 60, 5, 3)],
  [])
def mp_M_norm2_t : mm_T := (⟨"RootCompassModel", "norm2", "(II)V"⟩, prog_5_method_28_code, 3, none, 0, mp_M_norm2)
def mp_M_inv2 : mm_P := ([(0, .aload_n 0, 1), (1, .sipush 316, 3), (4, .iload_n 2, 1), (5, .invokevirtual 110, 3), (8, .aload_n 0, 1), (9, .sipush 316, 3), (12, .sipush 316, 3), (15, .invokevirtual 113, 3), (18, .aload_n 0, 1), (19, .sipush 318, 3), (22, .iload_n 2, 1), (23, .iconst 2, 1), (24, .iadd, 1), (25, .iconst 2, 1), (26, .invokevirtual 93, 3), (29, .aload_n 0, 1), (30, .sipush 320, 3), (33, .iload_n 2, 1), (34, .sipush 316, 3), (37, .invokevirtual 100, 3), (40, .aload_n 0, 1), (41, .iload_n 1, 1), (42, .iconst 2, 1), (43, .iadd, 1), (44, .sipush 318, 3), (47, .sipush 316, 3), (50, .invokevirtual 100, 3), (53, .aload_n 0, 1), (54, .iload_n 1, 1), (55, .sipush 320, 3), (58, .iconst 2, 1), (59, .invokevirtual 90, 3), (62, .return_, 1)],
  [],
  [],
  [(90, 58, 4, 3), (93, 61, 4, 3), (100, 66, 4, 3), (110, 73, 3, 3), (113, 68, 3, 3)],
  [])
def mp_M_inv2_t : mm_T := (⟨"RootCompassModel", "inv2", "(II)V"⟩, prog_5_method_29_code, 3, none, 0, mp_M_inv2)
def mp_M_sign2 : mm_P := ([(0, .aload_n 0, 1), (1, .iload_n 1, 1), (2, .invokevirtual 87, 3), (5, .istore_n 2, 1), (6, .aload_n 0, 1), (7, .iload_n 1, 1), (8, .iconst 2, 1), (9, .iadd, 1), (10, .invokevirtual 87, 3), (13, .istore_n 3, 1), (14, .iload_n 3, 1), (15, .ifCond .eq 8, 3), (18, .iload_n 2, 1), (19, .iload_n 3, 1), (20, .if_icmp .ne 5, 3), (23, .iload_n 2, 1), (24, .ireturn, 1), (25, .iload_n 2, 1), (26, .ifCond .ne 5, 3), (29, .iload_n 3, 1), (30, .ireturn, 1), (31, .aload_n 0, 1), (32, .sipush 328, 3), (35, .iload_n 1, 1), (36, .invokevirtual 110, 3), (39, .iload_n 2, 1), (40, .aload_n 0, 1), (41, .sipush 328, 3), (44, .invokevirtual 87, 3), (47, .imul, 1), (48, .ireturn, 1)],
  [],
  [],
  [(87, 69, 2, 3), (110, 73, 3, 3)],
  [])
def mp_M_sign2_t : mm_T := (⟨"RootCompassModel", "sign2", "(I)I"⟩, prog_5_method_30_code, 4, (some .int), 0, mp_M_sign2)
def mp_M_half2 : mm_P := ([(0, .sipush 348, 3), (3, .istore 5, 2), (5, .iload 4, 2), (7, .ifCond .eq 15, 3), (10, .aload_n 0, 1), (11, .iload 5, 2), (13, .iload_n 2, 1), (14, .iload_n 3, 1), (15, .iconst 2, 1), (16, .invokevirtual 107, 3), (19, .goto 12, 3), (22, .aload_n 0, 1), (23, .iload 5, 2), (25, .iload_n 2, 1), (26, .iload_n 3, 1), (27, .iconst 2, 1), (28, .invokevirtual 103, 3), (31, .aload_n 0, 1), (32, .iload 5, 2), (34, .iload 5, 2), (36, .iconst 2, 1), (37, .invokevirtual 116, 3), (40, .sipush 352, 3), (43, .istore 6, 2), (45, .aload_n 0, 1), (46, .iload 5, 2), (48, .invokevirtual 87, 3), (51, .ifCond .le 14, 3), (54, .aload_n 0, 1), (55, .iload 6, 2), (57, .iload 5, 2), (59, .invokevirtual 119, 3), (62, .ifCond .ne 5, 3), (65, .iconst 0, 1), (66, .ireturn, 1), (67, .aload_n 0, 1), (68, .iload 6, 2), (70, .iconst 2, 1), (71, .iadd, 1), (72, .iload 6, 2), (74, .iload 6, 2), (76, .iconst 2, 1), (77, .invokevirtual 103, 3), (80, .aload_n 0, 1), (81, .iload 6, 2), (83, .iconst 2, 1), (84, .iadd, 1), (85, .iload 6, 2), (87, .iconst 2, 1), (88, .iadd, 1), (89, .invokevirtual 113, 3), (92, .aload_n 0, 1), (93, .iload 6, 2), (95, .iconst 2, 1), (96, .iadd, 1), (97, .iload_n 2, 1), (98, .iconst 2, 1), (99, .iadd, 1), (100, .iload 6, 2), (102, .iconst 2, 1), (103, .iadd, 1), (104, .invokevirtual 100, 3), (107, .aload_n 0, 1), (108, .iload 6, 2), (110, .invokevirtual 122, 3), (113, .istore 7, 2), (115, .aload_n 0, 1), (116, .iload_n 1, 1), (117, .iload 6, 2), (119, .iconst 4, 1), (120, .invokevirtual 90, 3), (123, .iload 7, 2), (125, .ifCond .ge 10, 3), (128, .aload_n 0, 1), (129, .iload_n 1, 1), (130, .iload_n 1, 1), (131, .iconst 4, 1), (132, .invokevirtual 93, 3), (135, .iconst 1, 1), (136, .ireturn, 1)],
  [],
  [],
  [(87, 69, 2, 3), (90, 58, 4, 3), (93, 61, 4, 3), (100, 66, 4, 3), (103, 59, 5, 3), (107, 60, 5, 3), (113, 68, 3, 3), (116, 62, 4, 3), (119, 71, 3, 3), (122, 75, 2, 3)],
  [])
def mp_M_half2_t : mm_T := (⟨"RootCompassModel", "half2", "(IIIZ)Z"⟩, prog_5_method_31_code, 8, (some .boolean), 0, mp_M_half2)
def mp_M_root2 : mm_P := ([(0, .aload_n 0, 1), (1, .iload_n 2, 1), (2, .iconst 2, 1), (3, .iadd, 1), (4, .iconst 2, 1), (5, .invokevirtual 125, 3), (8, .ifCond .eq 86, 3), (11, .aload_n 0, 1), (12, .sipush 344, 3), (15, .iload_n 2, 1), (16, .invokevirtual 119, 3), (19, .ifCond .eq 20, 3), (22, .aload_n 0, 1), (23, .iload_n 1, 1), (24, .sipush 344, 3), (27, .iconst 2, 1), (28, .invokevirtual 90, 3), (31, .aload_n 0, 1), (32, .iload_n 1, 1), (33, .iconst 2, 1), (34, .invokevirtual 128, 3), (37, .iconst 1, 1), (38, .ireturn, 1), (39, .aload_n 0, 1), (40, .sipush 344, 3), (43, .sipush 289, 3), (46, .invokevirtual 113, 3), (49, .aload_n 0, 1), (50, .sipush 344, 3), (53, .iload_n 2, 1), (54, .sipush 344, 3), (57, .invokevirtual 100, 3), (60, .aload_n 0, 1), (61, .sipush 346, 3), (64, .sipush 344, 3), (67, .invokevirtual 119, 3), (70, .istore_n 3, 1), (71, .iload_n 3, 1), (72, .ifCond .eq 20, 3), (75, .aload_n 0, 1), (76, .iload_n 1, 1), (77, .iconst 0, 1), (78, .invokevirtual 128, 3), (81, .aload_n 0, 1), (82, .iload_n 1, 1), (83, .iconst 2, 1), (84, .iadd, 1), (85, .sipush 346, 3), (88, .iconst 2, 1), (89, .invokevirtual 90, 3), (92, .iload_n 3, 1), (93, .ireturn, 1), (94, .aload_n 0, 1), (95, .sipush 344, 3), (98, .iload_n 2, 1), (99, .invokevirtual 110, 3), (102, .aload_n 0, 1), (103, .sipush 344, 3), (106, .invokevirtual 87, 3), (109, .ifCond .lt 16, 3), (112, .aload_n 0, 1), (113, .sipush 346, 3), (116, .sipush 344, 3), (119, .invokevirtual 119, 3), (122, .ifCond .ne 5, 3), (125, .iconst 0, 1), (126, .ireturn, 1), (127, .aload_n 0, 1), (128, .iload_n 1, 1), (129, .iload_n 2, 1), (130, .sipush 346, 3), (133, .iconst 0, 1), (134, .invokevirtual 131, 3), (137, .ifCond .ne 16, 3), (140, .aload_n 0, 1), (141, .iload_n 1, 1), (142, .iload_n 2, 1), (143, .sipush 346, 3), (146, .iconst 1, 1), (147, .invokevirtual 131, 3), (150, .ifCond .eq 7, 3), (153, .iconst 1, 1), (154, .goto 4, 3), (157, .iconst 0, 1), (158, .ireturn, 1)],
  [],
  [],
  [(87, 69, 2, 3), (90, 58, 4, 3), (100, 66, 4, 3), (110, 73, 3, 3), (113, 68, 3, 3), (119, 71, 3, 3), (125, 63, 3, 3), (128, 65, 3, 3), (131, 76, 5, 3)],
  [])
def mp_M_root2_t : mm_T := (⟨"RootCompassModel", "root2", "(II)Z"⟩, prog_5_method_32_code, 4, (some .boolean), 0, mp_M_root2)
def mp_M_mul : mm_P := ([(0, .aload_n 0, 1), (1, .getfield 134, 3), (4, .ifCond .ne 13, 3), (7, .aload_n 0, 1), (8, .iload_n 1, 1), (9, .iload_n 2, 1), (10, .iload_n 3, 1), (11, .invokevirtual 70, 3), (14, .goto 28, 3), (17, .aload_n 0, 1), (18, .getfield 134, 3), (21, .iconst 1, 1), (22, .if_icmp .ne 13, 3), (25, .aload_n 0, 1), (26, .iload_n 1, 1), (27, .iload_n 2, 1), (28, .iload_n 3, 1), (29, .invokevirtual 100, 3), (32, .goto 10, 3), (35, .aload_n 0, 1), (36, .iload_n 1, 1), (37, .iload_n 2, 1), (38, .iload_n 3, 1), (39, .invokevirtual 137, 3), (42, .aload_n 0, 1), (43, .iload_n 1, 1), (44, .iconst 1, 1), (45, .aload_n 0, 1), (46, .getfield 134, 3), (49, .ishl, 1), (50, .invokevirtual 128, 3), (53, .return_, 1)],
  [(134, 3, 1, 0)],
  [],
  [(70, 52, 4, 3), (100, 66, 4, 3), (128, 65, 3, 3), (137, 72, 4, 3)],
  [])
def mp_M_mul_t : mm_T := (⟨"RootCompassModel", "mul", "(III)V"⟩, prog_5_method_33_code, 4, none, 0, mp_M_mul)
def mp_M_inv : mm_P := ([(0, .aload_n 0, 1), (1, .getfield 134, 3), (4, .ifCond .ne 12, 3), (7, .aload_n 0, 1), (8, .iload_n 1, 1), (9, .iload_n 2, 1), (10, .invokevirtual 76, 3), (13, .goto 26, 3), (16, .aload_n 0, 1), (17, .getfield 134, 3), (20, .iconst 1, 1), (21, .if_icmp .ne 12, 3), (24, .aload_n 0, 1), (25, .iload_n 1, 1), (26, .iload_n 2, 1), (27, .invokevirtual 113, 3), (30, .goto 9, 3), (33, .aload_n 0, 1), (34, .iload_n 1, 1), (35, .iload_n 2, 1), (36, .invokevirtual 140, 3), (39, .aload_n 0, 1), (40, .iload_n 1, 1), (41, .iconst 1, 1), (42, .aload_n 0, 1), (43, .getfield 134, 3), (46, .ishl, 1), (47, .invokevirtual 128, 3), (50, .return_, 1)],
  [(134, 3, 1, 0)],
  [],
  [(76, 54, 3, 3), (113, 68, 3, 3), (128, 65, 3, 3), (140, 74, 3, 3)],
  [])
def mp_M_inv_t : mm_T := (⟨"RootCompassModel", "inv", "(II)V"⟩, prog_5_method_34_code, 3, none, 0, mp_M_inv)
def mp_M_signOf : mm_P := ([(0, .aload_n 0, 1), (1, .getfield 134, 3), (4, .ifCond .ne 11, 3), (7, .aload_n 0, 1), (8, .iload_n 1, 1), (9, .invokevirtual 79, 3), (12, .goto 24, 3), (15, .aload_n 0, 1), (16, .getfield 134, 3), (19, .iconst 1, 1), (20, .if_icmp .ne 11, 3), (23, .aload_n 0, 1), (24, .iload_n 1, 1), (25, .invokevirtual 87, 3), (28, .goto 8, 3), (31, .aload_n 0, 1), (32, .iload_n 1, 1), (33, .invokevirtual 122, 3), (36, .ireturn, 1)],
  [(134, 3, 1, 0)],
  [],
  [(79, 55, 2, 3), (87, 69, 2, 3), (122, 75, 2, 3)],
  [])
def mp_M_signOf_t : mm_T := (⟨"RootCompassModel", "signOf", "(I)I"⟩, prog_5_method_35_code, 2, (some .int), 0, mp_M_signOf)
def mp_M_root : mm_P := ([(0, .aload_n 0, 1), (1, .getfield 134, 3), (4, .ifCond .ne 12, 3), (7, .aload_n 0, 1), (8, .iload_n 1, 1), (9, .iload_n 2, 1), (10, .invokevirtual 83, 3), (13, .goto 26, 3), (16, .aload_n 0, 1), (17, .getfield 134, 3), (20, .iconst 1, 1), (21, .if_icmp .ne 12, 3), (24, .aload_n 0, 1), (25, .iload_n 1, 1), (26, .iload_n 2, 1), (27, .invokevirtual 119, 3), (30, .goto 9, 3), (33, .aload_n 0, 1), (34, .iload_n 1, 1), (35, .iload_n 2, 1), (36, .invokevirtual 143, 3), (39, .istore_n 3, 1), (40, .iload_n 3, 1), (41, .ifCond .eq 14, 3), (44, .aload_n 0, 1), (45, .iload_n 1, 1), (46, .iconst 1, 1), (47, .aload_n 0, 1), (48, .getfield 134, 3), (51, .ishl, 1), (52, .invokevirtual 128, 3), (55, .iload_n 3, 1), (56, .ireturn, 1)],
  [(134, 3, 1, 0)],
  [],
  [(83, 57, 3, 3), (119, 71, 3, 3), (128, 65, 3, 3), (143, 77, 3, 3)],
  [])
def mp_M_root_t : mm_T := (⟨"RootCompassModel", "root", "(II)Z"⟩, prog_5_method_36_code, 4, (some .boolean), 0, mp_M_root)
def mp_M_takeRoot : mm_P := ([(0, .aload_n 0, 1), (1, .aload_n 0, 1), (2, .getfield 146, 3), (5, .ifCond .ne 11, 3), (8, .aload_n 0, 1), (9, .iload_n 2, 1), (10, .invokevirtual 149, 3), (13, .ifCond .ge 7, 3), (16, .iconst 1, 1), (17, .goto 4, 3), (20, .iconst 0, 1), (21, .putfield 146, 3), (24, .aload_n 0, 1), (25, .getfield 146, 3), (28, .ifCond .ne 12, 3), (31, .aload_n 0, 1), (32, .iload_n 1, 1), (33, .iload_n 2, 1), (34, .invokevirtual 152, 3), (37, .ifCond .eq 4, 3), (40, .return_, 1), (41, .aload_n 0, 1), (42, .aload_n 0, 1), (43, .getfield 134, 3), (46, .iconst 2, 1), (47, .if_icmp .ne 7, 3), (50, .iconst 1, 1), (51, .goto 4, 3), (54, .iconst 0, 1), (55, .putfield 146, 3), (58, .aload_n 0, 1), (59, .getfield 146, 3), (62, .ifCond .eq 4, 3), (65, .return_, 1), (66, .aload_n 0, 1), (67, .aload_n 0, 1), (68, .getfield 134, 3), (71, .ifCond .ne 9, 3), (74, .sipush 288, 3), (77, .goto 6, 3), (80, .sipush 289, 3), (83, .iload_n 2, 1), (84, .aload_n 0, 1), (85, .getfield 134, 3), (88, .ifCond .ne 7, 3), (91, .iconst 1, 1), (92, .goto 4, 3), (95, .iconst 2, 1), (96, .invokevirtual 90, 3), (99, .aload_n 0, 1), (100, .dup, 1), (101, .getfield 134, 3), (104, .iconst 1, 1), (105, .iadd, 1), (106, .putfield 134, 3), (109, .aload_n 0, 1), (110, .iload_n 1, 1), (111, .iconst 0, 1), (112, .invokevirtual 128, 3), (115, .aload_n 0, 1), (116, .getfield 7, 3), (119, .iload_n 1, 1), (120, .aload_n 0, 1), (121, .getfield 134, 3), (124, .iadd, 1), (125, .lconst 1, 1), (126, .lastore, 1), (127, .return_, 1)],
  [(7, 3, 4, 2), (134, 3, 1, 0), (146, 3, 3, 1)],
  [],
  [(90, 58, 4, 3), (128, 65, 3, 3), (149, 80, 2, 3), (152, 81, 3, 3)],
  [])
def mp_M_takeRoot_t : mm_T := (⟨"RootCompassModel", "takeRoot", "(II)V"⟩, prog_5_method_37_code, 3, none, 0, mp_M_takeRoot)
def mp_M_xOf : mm_P := ([(0, .bipush 12, 2), (2, .iload_n 0, 1), (3, .imul, 1), (4, .ireturn, 1)],
  [],
  [],
  [],
  [])
def mp_M_xOf_t : mm_T := (⟨"RootCompassModel", "xOf", "(I)I"⟩, prog_5_method_38_code, 1, (some .int), 0, mp_M_xOf)
def mp_M_yOf : mm_P := ([(0, .bipush 12, 2), (2, .iload_n 0, 1), (3, .imul, 1), (4, .iconst 4, 1), (5, .iadd, 1), (6, .ireturn, 1)],
  [],
  [],
  [],
  [])
def mp_M_yOf_t : mm_T := (⟨"RootCompassModel", "yOf", "(I)I"⟩, prog_5_method_39_code, 1, (some .int), 0, mp_M_yOf)
def mp_M_work : mm_P := ([(0, .sipush 368, 3), (3, .iconst 4, 1), (4, .iload_n 0, 1), (5, .imul, 1), (6, .iadd, 1), (7, .ireturn, 1)],
  [],
  [],
  [],
  [])
def mp_M_work_t : mm_T := (⟨"RootCompassModel", "work", "(I)I"⟩, prog_5_method_40_code, 1, (some .int), 0, mp_M_work)
def mp_M_products : mm_P := ([(0, .aload_n 0, 1), (1, .bipush 20, 2), (3, .invokestatic 155, 3), (6, .iload_n 2, 1), (7, .iload_n 3, 1), (8, .invokevirtual 158, 3), (11, .aload_n 0, 1), (12, .bipush 21, 2), (14, .invokestatic 155, 3), (17, .iload 4, 2), (19, .iload 5, 2), (21, .invokevirtual 158, 3), (24, .aload_n 0, 1), (25, .iload_n 1, 1), (26, .bipush 20, 2), (28, .invokestatic 155, 3), (31, .bipush 21, 2), (33, .invokestatic 155, 3), (36, .iconst 4, 1), (37, .invokevirtual 103, 3), (40, .return_, 1)],
  [],
  [],
  [(103, 59, 5, 3), (155, 85, 1, 99), (158, 78, 4, 3)],
  [])
def mp_M_products_t : mm_T := (⟨"RootCompassModel", "products", "(IIIII)V"⟩, prog_5_method_41_code, 6, none, 0, mp_M_products)
def mp_M_cross : mm_P := ([(0, .aload_n 0, 1), (1, .bipush 20, 2), (3, .invokestatic 155, 3), (6, .iload_n 2, 1), (7, .iload_n 3, 1), (8, .invokevirtual 158, 3), (11, .aload_n 0, 1), (12, .bipush 21, 2), (14, .invokestatic 155, 3), (17, .iload 4, 2), (19, .iload 5, 2), (21, .invokevirtual 158, 3), (24, .aload_n 0, 1), (25, .iload_n 1, 1), (26, .bipush 20, 2), (28, .invokestatic 155, 3), (31, .bipush 21, 2), (33, .invokestatic 155, 3), (36, .iconst 4, 1), (37, .invokevirtual 107, 3), (40, .return_, 1)],
  [],
  [],
  [(107, 60, 5, 3), (155, 85, 1, 99), (158, 78, 4, 3)],
  [])
def mp_M_cross_t : mm_T := (⟨"RootCompassModel", "cross", "(IIIII)V"⟩, prog_5_method_42_code, 6, none, 0, mp_M_cross)
def mp_M_squared : mm_P := ([(0, .aload_n 0, 1), (1, .bipush 22, 2), (3, .invokestatic 155, 3), (6, .iload_n 3, 1), (7, .invokestatic 161, 3), (10, .iload_n 2, 1), (11, .invokestatic 161, 3), (14, .iconst 4, 1), (15, .invokevirtual 107, 3), (18, .aload_n 0, 1), (19, .bipush 23, 2), (21, .invokestatic 155, 3), (24, .iload_n 3, 1), (25, .invokestatic 164, 3), (28, .iload_n 2, 1), (29, .invokestatic 164, 3), (32, .iconst 4, 1), (33, .invokevirtual 107, 3), (36, .aload_n 0, 1), (37, .iload_n 1, 1), (38, .bipush 22, 2), (40, .invokestatic 155, 3), (43, .bipush 22, 2), (45, .invokestatic 155, 3), (48, .bipush 23, 2), (50, .invokestatic 155, 3), (53, .bipush 23, 2), (55, .invokestatic 155, 3), (58, .invokevirtual 167, 3), (61, .return_, 1)],
  [],
  [],
  [(107, 60, 5, 3), (155, 85, 1, 99), (161, 83, 1, 99), (164, 84, 1, 99), (167, 86, 6, 3)],
  [])
def mp_M_squared_t : mm_T := (⟨"RootCompassModel", "squared", "(III)V"⟩, prog_5_method_43_code, 4, none, 0, mp_M_squared)
def mp_M_makeLine : mm_P := ([(0, .aload_n 0, 1), (1, .aload_n 0, 1), (2, .iload_n 2, 1), (3, .invokestatic 161, 3), (6, .iload_n 3, 1), (7, .invokestatic 161, 3), (10, .invokevirtual 171, 3), (13, .ifCond .eq 22, 3), (16, .aload_n 0, 1), (17, .iload_n 2, 1), (18, .invokestatic 164, 3), (21, .iload_n 3, 1), (22, .invokestatic 164, 3), (25, .invokevirtual 171, 3), (28, .ifCond .eq 7, 3), (31, .iconst 1, 1), (32, .goto 4, 3), (35, .iconst 0, 1), (36, .putfield 146, 3), (39, .aload_n 0, 1), (40, .getfield 146, 3), (43, .ifCond .eq 4, 3), (46, .return_, 1), (47, .aload_n 0, 1), (48, .iload_n 1, 1), (49, .invokestatic 161, 3), (52, .iload_n 3, 1), (53, .invokestatic 164, 3), (56, .iload_n 2, 1), (57, .invokestatic 164, 3), (60, .iconst 4, 1), (61, .invokevirtual 107, 3), (64, .aload_n 0, 1), (65, .iload_n 1, 1), (66, .invokestatic 164, 3), (69, .iload_n 2, 1), (70, .invokestatic 161, 3), (73, .iload_n 3, 1), (74, .invokestatic 161, 3), (77, .iconst 4, 1), (78, .invokevirtual 107, 3), (81, .aload_n 0, 1), (82, .bipush 12, 2), (84, .iload_n 1, 1), (85, .imul, 1), (86, .bipush 8, 2), (88, .iadd, 1), (89, .iload_n 1, 1), (90, .invokestatic 161, 3), (93, .iload_n 2, 1), (94, .invokestatic 161, 3), (97, .iload_n 1, 1), (98, .invokestatic 164, 3), (101, .iload_n 2, 1), (102, .invokestatic 164, 3), (105, .invokevirtual 167, 3), (108, .return_, 1)],
  [(146, 3, 3, 1)],
  [],
  [(107, 60, 5, 3), (161, 83, 1, 99), (164, 84, 1, 99), (167, 86, 6, 3), (171, 64, 3, 3)],
  [])
def mp_M_makeLine_t : mm_T := (⟨"RootCompassModel", "makeLine", "(III)V"⟩, prog_5_method_44_code, 4, none, 0, mp_M_makeLine)
def mp_M_makeMiddle : mm_P := ([(0, .aload_n 0, 1), (1, .iconst 0, 1), (2, .invokestatic 155, 3), (5, .iload_n 2, 1), (6, .invokestatic 161, 3), (9, .iload_n 3, 1), (10, .invokestatic 161, 3), (13, .iconst 4, 1), (14, .invokevirtual 103, 3), (17, .aload_n 0, 1), (18, .iload_n 1, 1), (19, .invokestatic 161, 3), (22, .iconst 0, 1), (23, .invokestatic 155, 3), (26, .iconst 4, 1), (27, .invokevirtual 116, 3), (30, .aload_n 0, 1), (31, .iconst 0, 1), (32, .invokestatic 155, 3), (35, .iload_n 2, 1), (36, .invokestatic 164, 3), (39, .iload_n 3, 1), (40, .invokestatic 164, 3), (43, .iconst 4, 1), (44, .invokevirtual 103, 3), (47, .aload_n 0, 1), (48, .iload_n 1, 1), (49, .invokestatic 164, 3), (52, .iconst 0, 1), (53, .invokestatic 155, 3), (56, .iconst 4, 1), (57, .invokevirtual 116, 3), (60, .return_, 1)],
  [],
  [],
  [(103, 59, 5, 3), (116, 62, 4, 3), (155, 85, 1, 99), (161, 83, 1, 99), (164, 84, 1, 99)],
  [])
def mp_M_makeMiddle_t : mm_T := (⟨"RootCompassModel", "makeMiddle", "(III)V"⟩, prog_5_method_45_code, 4, none, 0, mp_M_makeMiddle)
def mp_M_meetLines : mm_P := ([(0, .aload_n 0, 1), (1, .iconst 0, 1), (2, .invokestatic 155, 3), (5, .iload_n 2, 1), (6, .invokestatic 161, 3), (9, .iload_n 3, 1), (10, .invokestatic 164, 3), (13, .iload_n 3, 1), (14, .invokestatic 161, 3), (17, .iload_n 2, 1), (18, .invokestatic 164, 3), (21, .invokevirtual 174, 3), (24, .aload_n 0, 1), (25, .aload_n 0, 1), (26, .iconst 0, 1), (27, .invokestatic 155, 3), (30, .iconst 4, 1), (31, .invokevirtual 125, 3), (34, .putfield 146, 3), (37, .aload_n 0, 1), (38, .getfield 146, 3), (41, .ifCond .ne 10, 3), (44, .aload_n 0, 1), (45, .getfield 43, 3), (48, .ifCond .eq 4, 3), (51, .return_, 1), (52, .aload_n 0, 1), (53, .iconst 1, 1), (54, .invokestatic 155, 3), (57, .iconst 0, 1), (58, .invokestatic 155, 3), (61, .invokevirtual 177, 3), (64, .aload_n 0, 1), (65, .iconst 2, 1), (66, .invokestatic 155, 3), (69, .bipush 12, 2), (71, .iload_n 2, 1), (72, .imul, 1), (73, .bipush 8, 2), (75, .iadd, 1), (76, .iload_n 3, 1), (77, .invokestatic 164, 3), (80, .bipush 12, 2), (82, .iload_n 3, 1), (83, .imul, 1), (84, .bipush 8, 2), (86, .iadd, 1), (87, .iload_n 2, 1), (88, .invokestatic 164, 3), (91, .invokevirtual 174, 3), (94, .aload_n 0, 1), (95, .iload_n 1, 1), (96, .invokestatic 161, 3), (99, .iconst 2, 1), (100, .invokestatic 155, 3), (103, .iconst 1, 1), (104, .invokestatic 155, 3), (107, .invokevirtual 158, 3), (110, .aload_n 0, 1), (111, .iconst 2, 1), (112, .invokestatic 155, 3), (115, .iload_n 2, 1), (116, .invokestatic 161, 3), (119, .bipush 12, 2), (121, .iload_n 3, 1), (122, .imul, 1), (123, .bipush 8, 2), (125, .iadd, 1), (126, .iload_n 3, 1), (127, .invokestatic 161, 3), (130, .bipush 12, 2), (132, .iload_n 2, 1), (133, .imul, 1), (134, .bipush 8, 2), (136, .iadd, 1), (137, .invokevirtual 174, 3), (140, .aload_n 0, 1), (141, .iload_n 1, 1), (142, .invokestatic 164, 3), (145, .iconst 2, 1), (146, .invokestatic 155, 3), (149, .iconst 1, 1), (150, .invokestatic 155, 3), (153, .invokevirtual 158, 3), (156, .return_, 1)],
  [(43, 3, 2, 1), (146, 3, 3, 1)],
  [],
  [(125, 63, 3, 3), (155, 85, 1, 99), (158, 78, 4, 3), (161, 83, 1, 99), (164, 84, 1, 99), (174, 87, 6, 3), (177, 79, 3, 3)],
  [])
def mp_M_meetLines_t : mm_T := (⟨"RootCompassModel", "meetLines", "(III)V"⟩, prog_5_method_46_code, 4, none, 0, mp_M_meetLines)
def mp_M_meetCircle : mm_P := ([(0, .aload_n 0, 1), (1, .getfield 26, 3), (4, .iconst 4, 1), (5, .iload_n 3, 1), (6, .imul, 1), (7, .iaload, 1), (8, .istore 5, 2), (10, .iload_n 2, 1), (11, .istore 6, 2), (13, .iload_n 2, 1), (14, .iconst 4, 1), (15, .iadd, 1), (16, .istore 7, 2), (18, .aload_n 0, 1), (19, .iconst 4, 1), (20, .invokestatic 155, 3), (23, .iload 6, 2), (25, .iload 6, 2), (27, .iload 7, 2), (29, .iload 7, 2), (31, .invokevirtual 167, 3), (34, .aload_n 0, 1), (35, .iconst 5, 1), (36, .invokestatic 155, 3), (39, .iload 6, 2), (41, .iload 5, 2), (43, .invokestatic 161, 3), (46, .iload 7, 2), (48, .iload 5, 2), (50, .invokestatic 164, 3), (53, .invokevirtual 167, 3), (56, .aload_n 0, 1), (57, .iconst 5, 1), (58, .invokestatic 155, 3), (61, .iload_n 2, 1), (62, .bipush 8, 2), (64, .iadd, 1), (65, .iconst 5, 1), (66, .invokestatic 155, 3), (69, .iconst 4, 1), (70, .invokevirtual 107, 3), (73, .aload_n 0, 1), (74, .bipush 6, 2), (76, .invokestatic 155, 3), (79, .iconst 4, 1), (80, .invokestatic 155, 3), (83, .invokevirtual 177, 3), (86, .aload_n 0, 1), (87, .bipush 7, 2), (89, .invokestatic 155, 3), (92, .bipush 12, 2), (94, .iload_n 3, 1), (95, .imul, 1), (96, .iconst 4, 1), (97, .invokestatic 155, 3), (100, .iconst 5, 1), (101, .invokestatic 155, 3), (104, .iconst 5, 1), (105, .invokestatic 155, 3), (108, .invokevirtual 174, 3), (111, .aload_n 0, 1), (112, .bipush 8, 2), (114, .invokestatic 155, 3), (117, .bipush 7, 2), (119, .invokestatic 155, 3), (122, .invokevirtual 180, 3), (125, .aload_n 0, 1), (126, .getfield 146, 3), (129, .ifCond .ne 10, 3), (132, .aload_n 0, 1), (133, .getfield 43, 3), (136, .ifCond .eq 4, 3), (139, .return_, 1), (140, .aload_n 0, 1), (141, .bipush 9, 2), (143, .invokestatic 155, 3), (146, .iconst 5, 1), (147, .invokestatic 155, 3), (150, .bipush 6, 2), (152, .invokestatic 155, 3), (155, .invokevirtual 158, 3), (158, .aload_n 0, 1), (159, .bipush 10, 2), (161, .invokestatic 155, 3), (164, .bipush 8, 2), (166, .invokestatic 155, 3), (169, .bipush 6, 2), (171, .invokestatic 155, 3), (174, .invokevirtual 158, 3), (177, .aload_n 0, 1), (178, .bipush 11, 2), (180, .invokestatic 155, 3), (183, .iload 7, 2), (185, .iconst 4, 1), (186, .invokevirtual 93, 3), (189, .aload_n 0, 1), (190, .bipush 12, 2), (192, .invokestatic 155, 3), (195, .iload 6, 2), (197, .bipush 9, 2), (199, .invokestatic 155, 3), (202, .invokevirtual 158, 3), (205, .aload_n 0, 1), (206, .bipush 12, 2), (208, .invokestatic 155, 3), (211, .iload 5, 2), (213, .invokestatic 161, 3), (216, .bipush 12, 2), (218, .invokestatic 155, 3), (221, .iconst 4, 1), (222, .invokevirtual 103, 3), (225, .aload_n 0, 1), (226, .bipush 13, 2), (228, .invokestatic 155, 3), (231, .bipush 11, 2), (233, .invokestatic 155, 3), (236, .bipush 10, 2), (238, .invokestatic 155, 3), (241, .invokevirtual 158, 3), (244, .aload_n 0, 1), (245, .bipush 14, 2), (247, .invokestatic 155, 3), (250, .iload 7, 2), (252, .bipush 9, 2), (254, .invokestatic 155, 3), (257, .invokevirtual 158, 3), (260, .aload_n 0, 1), (261, .bipush 14, 2), (263, .invokestatic 155, 3), (266, .iload 5, 2), (268, .invokestatic 164, 3), (271, .bipush 14, 2), (273, .invokestatic 155, 3), (276, .iconst 4, 1), (277, .invokevirtual 103, 3), (280, .aload_n 0, 1), (281, .bipush 15, 2), (283, .invokestatic 155, 3), (286, .iload 6, 2), (288, .bipush 10, 2), (290, .invokestatic 155, 3), (293, .invokevirtual 158, 3), (296, .iload 4, 2), (298, .ifCond .ne 44, 3), (301, .aload_n 0, 1), (302, .iload_n 1, 1), (303, .invokestatic 161, 3), (306, .bipush 12, 2), (308, .invokestatic 155, 3), (311, .bipush 13, 2), (313, .invokestatic 155, 3), (316, .iconst 4, 1), (317, .invokevirtual 107, 3), (320, .aload_n 0, 1), (321, .iload_n 1, 1), (322, .invokestatic 164, 3), (325, .bipush 14, 2), (327, .invokestatic 155, 3), (330, .bipush 15, 2), (332, .invokestatic 155, 3), (335, .iconst 4, 1), (336, .invokevirtual 107, 3), (339, .goto 41, 3), (342, .aload_n 0, 1), (343, .iload_n 1, 1), (344, .invokestatic 161, 3), (347, .bipush 12, 2), (349, .invokestatic 155, 3), (352, .bipush 13, 2), (354, .invokestatic 155, 3), (357, .iconst 4, 1), (358, .invokevirtual 103, 3), (361, .aload_n 0, 1), (362, .iload_n 1, 1), (363, .invokestatic 164, 3), (366, .bipush 14, 2), (368, .invokestatic 155, 3), (371, .bipush 15, 2), (373, .invokestatic 155, 3), (376, .iconst 4, 1), (377, .invokevirtual 103, 3), (380, .return_, 1)],
  [(26, 3, 10, 2), (43, 3, 2, 1), (146, 3, 3, 1)],
  [],
  [(93, 61, 4, 3), (103, 59, 5, 3), (107, 60, 5, 3), (155, 85, 1, 99), (158, 78, 4, 3), (161, 83, 1, 99), (164, 84, 1, 99), (167, 86, 6, 3), (174, 87, 6, 3), (177, 79, 3, 3), (180, 82, 3, 3)],
  [])
def mp_M_meetCircle_t : mm_T := (⟨"RootCompassModel", "meetCircle", "(IIII)V"⟩, prog_5_method_47_code, 8, none, 0, mp_M_meetCircle)
def mp_M_meetCircles : mm_P := ([(0, .aload_n 0, 1), (1, .getfield 26, 3), (4, .iconst 4, 1), (5, .iload_n 2, 1), (6, .imul, 1), (7, .iaload, 1), (8, .istore 5, 2), (10, .aload_n 0, 1), (11, .getfield 26, 3), (14, .iconst 4, 1), (15, .iload_n 3, 1), (16, .imul, 1), (17, .iaload, 1), (18, .istore 6, 2), (20, .aload_n 0, 1), (21, .iconst 0, 1), (22, .invokestatic 155, 3), (25, .iload 6, 2), (27, .invokestatic 161, 3), (30, .iload 5, 2), (32, .invokestatic 161, 3), (35, .iconst 4, 1), (36, .invokevirtual 107, 3), (39, .aload_n 0, 1), (40, .iconst 0, 1), (41, .invokestatic 155, 3), (44, .iconst 0, 1), (45, .invokestatic 155, 3), (48, .iconst 0, 1), (49, .invokestatic 155, 3), (52, .iconst 4, 1), (53, .invokevirtual 103, 3), (56, .aload_n 0, 1), (57, .iconst 1, 1), (58, .invokestatic 155, 3), (61, .iload 6, 2), (63, .invokestatic 164, 3), (66, .iload 5, 2), (68, .invokestatic 164, 3), (71, .iconst 4, 1), (72, .invokevirtual 107, 3), (75, .aload_n 0, 1), (76, .iconst 1, 1), (77, .invokestatic 155, 3), (80, .iconst 1, 1), (81, .invokestatic 155, 3), (84, .iconst 1, 1), (85, .invokestatic 155, 3), (88, .iconst 4, 1), (89, .invokevirtual 103, 3), (92, .aload_n 0, 1), (93, .iconst 2, 1), (94, .invokestatic 155, 3), (97, .iload 6, 2), (99, .invokestatic 161, 3), (102, .iload 6, 2), (104, .invokestatic 161, 3), (107, .iload 5, 2), (109, .invokestatic 161, 3), (112, .iload 5, 2), (114, .invokestatic 161, 3), (117, .invokevirtual 174, 3), (120, .aload_n 0, 1), (121, .iconst 3, 1), (122, .invokestatic 155, 3), (125, .iload 6, 2), (127, .invokestatic 164, 3), (130, .iload 6, 2), (132, .invokestatic 164, 3), (135, .iload 5, 2), (137, .invokestatic 164, 3), (140, .iload 5, 2), (142, .invokestatic 164, 3), (145, .invokevirtual 174, 3), (148, .aload_n 0, 1), (149, .iconst 2, 1), (150, .invokestatic 155, 3), (153, .iconst 2, 1), (154, .invokestatic 155, 3), (157, .iconst 3, 1), (158, .invokestatic 155, 3), (161, .iconst 4, 1), (162, .invokevirtual 103, 3), (165, .aload_n 0, 1), (166, .iconst 3, 1), (167, .invokestatic 155, 3), (170, .bipush 12, 2), (172, .iload_n 2, 1), (173, .imul, 1), (174, .bipush 12, 2), (176, .iload_n 3, 1), (177, .imul, 1), (178, .iconst 4, 1), (179, .invokevirtual 107, 3), (182, .aload_n 0, 1), (183, .iconst 2, 1), (184, .invokestatic 155, 3), (187, .iconst 3, 1), (188, .invokestatic 155, 3), (191, .iconst 2, 1), (192, .invokestatic 155, 3), (195, .iconst 4, 1), (196, .invokevirtual 103, 3), (199, .aload_n 0, 1), (200, .aload_n 0, 1), (201, .iconst 0, 1), (202, .invokestatic 155, 3), (205, .iconst 4, 1), (206, .invokevirtual 125, 3), (209, .ifCond .eq 19, 3), (212, .aload_n 0, 1), (213, .iconst 1, 1), (214, .invokestatic 155, 3), (217, .iconst 4, 1), (218, .invokevirtual 125, 3), (221, .ifCond .eq 7, 3), (224, .iconst 1, 1), (225, .goto 4, 3), (228, .iconst 0, 1), (229, .putfield 146, 3), (232, .aload_n 0, 1), (233, .getfield 146, 3), (236, .ifCond .ne 22, 3), (239, .aload_n 0, 1), (240, .getfield 43, 3), (243, .ifCond .ne 15, 3), (246, .aload_n 0, 1), (247, .iload_n 1, 1), (248, .iconst 0, 1), (249, .invokestatic 155, 3), (252, .iload_n 2, 1), (253, .iload 4, 2), (255, .invokevirtual 183, 3), (258, .return_, 1)],
  [(26, 3, 10, 2), (43, 3, 2, 1), (146, 3, 3, 1)],
  [],
  [(103, 59, 5, 3), (107, 60, 5, 3), (125, 63, 3, 3), (155, 85, 1, 99), (161, 83, 1, 99), (164, 84, 1, 99), (174, 87, 6, 3), (183, 92, 5, 3)],
  [])
def mp_M_meetCircles_t : mm_T := (⟨"RootCompassModel", "meetCircles", "(IIII)V"⟩, prog_5_method_48_code, 7, none, 0, mp_M_meetCircles)
def mp_M_makeMeeting : mm_P := ([(0, .aload_n 0, 1), (1, .getfield 22, 3), (4, .iload_n 2, 1), (5, .iaload, 1), (6, .iconst 1, 1), (7, .if_icmp .ne 23, 3), (10, .aload_n 0, 1), (11, .getfield 22, 3), (14, .iload_n 3, 1), (15, .iaload, 1), (16, .iconst 1, 1), (17, .if_icmp .ne 13, 3), (20, .aload_n 0, 1), (21, .iload_n 1, 1), (22, .iload_n 2, 1), (23, .iload_n 3, 1), (24, .invokevirtual 186, 3), (27, .goto 75, 3), (30, .aload_n 0, 1), (31, .getfield 22, 3), (34, .iload_n 2, 1), (35, .iaload, 1), (36, .iconst 2, 1), (37, .if_icmp .ne 25, 3), (40, .aload_n 0, 1), (41, .getfield 22, 3), (44, .iload_n 3, 1), (45, .iaload, 1), (46, .iconst 2, 1), (47, .if_icmp .ne 15, 3), (50, .aload_n 0, 1), (51, .iload_n 1, 1), (52, .iload_n 2, 1), (53, .iload_n 3, 1), (54, .iload 4, 2), (56, .invokevirtual 189, 3), (59, .goto 43, 3), (62, .aload_n 0, 1), (63, .iload_n 1, 1), (64, .bipush 12, 2), (66, .aload_n 0, 1), (67, .getfield 22, 3), (70, .iload_n 2, 1), (71, .iaload, 1), (72, .iconst 1, 1), (73, .if_icmp .ne 7, 3), (76, .iload_n 2, 1), (77, .goto 4, 3), (80, .iload_n 3, 1), (81, .imul, 1), (82, .aload_n 0, 1), (83, .getfield 22, 3), (86, .iload_n 2, 1), (87, .iaload, 1), (88, .iconst 1, 1), (89, .if_icmp .ne 7, 3), (92, .iload_n 3, 1), (93, .goto 4, 3), (96, .iload_n 2, 1), (97, .iload 4, 2), (99, .invokevirtual 183, 3), (102, .return_, 1)],
  [(22, 3, 9, 2)],
  [],
  [(183, 92, 5, 3), (186, 91, 4, 3), (189, 93, 5, 3)],
  [])
def mp_M_makeMeeting_t : mm_T := (⟨"RootCompassModel", "makeMeeting", "(IIII)V"⟩, prog_5_method_49_code, 5, none, 0, mp_M_makeMeeting)
def mp_M_make : mm_P := ([(0, .aload_n 0, 1), (1, .iconst 0, 1), (2, .putfield 146, 3), (5, .aload_n 0, 1), (6, .iconst 0, 1), (7, .putfield 43, 3), (10, .aload_n 0, 1), (11, .bipush 12, 2), (13, .iload_n 1, 1), (14, .imul, 1), (15, .iconst 0, 1), (16, .invokevirtual 128, 3), (19, .aload_n 0, 1), (20, .bipush 12, 2), (22, .iload_n 1, 1), (23, .imul, 1), (24, .iconst 4, 1), (25, .iadd, 1), (26, .iconst 0, 1), (27, .invokevirtual 128, 3), (30, .aload_n 0, 1), (31, .bipush 12, 2), (33, .iload_n 1, 1), (34, .imul, 1), (35, .bipush 8, 2), (37, .iadd, 1), (38, .iconst 0, 1), (39, .invokevirtual 128, 3), (42, .iconst 4, 1), (43, .iload_n 1, 1), (44, .imul, 1), (45, .istore_n 2, 1), (46, .aload_n 0, 1), (47, .getfield 22, 3), (50, .iload_n 1, 1), (51, .iaload, 1), (52, .tableswitch 171 0 3 #[32, 87, 109, 149], 32), (84, .aload_n 0, 1), (85, .bipush 12, 2), (87, .iload_n 1, 1), (88, .imul, 1), (89, .aload_n 0, 1), (90, .getfield 26, 3), (93, .iload_n 2, 1), (94, .iaload, 1), (95, .i2l, 1), (96, .aload_n 0, 1), (97, .getfield 26, 3), (100, .iload_n 2, 1), (101, .iconst 1, 1), (102, .iadd, 1), (103, .iaload, 1), (104, .i2l, 1), (105, .invokevirtual 47, 3), (108, .aload_n 0, 1), (109, .bipush 12, 2), (111, .iload_n 1, 1), (112, .imul, 1), (113, .iconst 4, 1), (114, .iadd, 1), (115, .aload_n 0, 1), (116, .getfield 26, 3), (119, .iload_n 2, 1), (120, .iconst 2, 1), (121, .iadd, 1), (122, .iaload, 1), (123, .i2l, 1), (124, .aload_n 0, 1), (125, .getfield 26, 3), (128, .iload_n 2, 1), (129, .iconst 3, 1), (130, .iadd, 1), (131, .iaload, 1), (132, .i2l, 1), (133, .invokevirtual 47, 3), (136, .goto 114, 3), (139, .aload_n 0, 1), (140, .iload_n 1, 1), (141, .aload_n 0, 1), (142, .getfield 26, 3), (145, .iload_n 2, 1), (146, .iaload, 1), (147, .aload_n 0, 1), (148, .getfield 26, 3), (151, .iload_n 2, 1), (152, .iconst 1, 1), (153, .iadd, 1), (154, .iaload, 1), (155, .invokevirtual 192, 3), (158, .goto 92, 3), (161, .aload_n 0, 1), (162, .bipush 12, 2), (164, .iload_n 1, 1), (165, .imul, 1), (166, .aload_n 0, 1), (167, .getfield 26, 3), (170, .iload_n 2, 1), (171, .iconst 1, 1), (172, .iadd, 1), (173, .iaload, 1), (174, .aload_n 0, 1), (175, .getfield 26, 3), (178, .iload_n 2, 1), (179, .iconst 2, 1), (180, .iadd, 1), (181, .iaload, 1), (182, .invokevirtual 195, 3), (185, .aload_n 0, 1), (186, .aload_n 0, 1), (187, .bipush 12, 2), (189, .iload_n 1, 1), (190, .imul, 1), (191, .iconst 4, 1), (192, .invokevirtual 125, 3), (195, .putfield 146, 3), (198, .goto 52, 3), (201, .aload_n 0, 1), (202, .iload_n 1, 1), (203, .aload_n 0, 1), (204, .getfield 26, 3), (207, .iload_n 2, 1), (208, .iaload, 1), (209, .aload_n 0, 1), (210, .getfield 26, 3), (213, .iload_n 2, 1), (214, .iconst 1, 1), (215, .iadd, 1), (216, .iaload, 1), (217, .invokevirtual 198, 3), (220, .goto 30, 3), (223, .aload_n 0, 1), (224, .iload_n 1, 1), (225, .aload_n 0, 1), (226, .getfield 26, 3), (229, .iload_n 2, 1), (230, .iaload, 1), (231, .aload_n 0, 1), (232, .getfield 26, 3), (235, .iload_n 2, 1), (236, .iconst 1, 1), (237, .iadd, 1), (238, .iaload, 1), (239, .aload_n 0, 1), (240, .getfield 26, 3), (243, .iload_n 2, 1), (244, .iconst 2, 1), (245, .iadd, 1), (246, .iaload, 1), (247, .invokevirtual 201, 3), (250, .aload_n 0, 1), (251, .getfield 146, 3), (254, .ifCond .ne 14, 3), (257, .aload_n 0, 1), (258, .getfield 43, 3), (261, .ifCond .ne 7, 3), (264, .iconst 1, 1), (265, .goto 4, 3), (268, .iconst 0, 1), (269, .ireturn, 1)],
  [(22, 3, 9, 2), (26, 3, 10, 2), (43, 3, 2, 1), (146, 3, 3, 1)],
  [],
  [(47, 49, 4, 3), (125, 63, 3, 3), (128, 65, 3, 3), (192, 89, 4, 3), (195, 88, 4, 3), (198, 90, 4, 3), (201, 94, 5, 3)],
  [])
def mp_M_make_t : mm_T := (⟨"RootCompassModel", "make", "(I)Z"⟩, prog_5_method_50_code, 3, (some .boolean), 0, mp_M_make)
def mp_M_redraw : mm_P := ([(0, .aload_n 0, 1), (1, .iconst 0, 1), (2, .putfield 134, 3), (5, .iconst 0, 1), (6, .istore_n 1, 1), (7, .iload_n 1, 1), (8, .aload_n 0, 1), (9, .getfield 204, 3), (12, .if_icmp .ge 19, 3), (15, .aload_n 0, 1), (16, .iload_n 1, 1), (17, .invokevirtual 207, 3), (20, .ifCond .ne 5, 3), (23, .iload_n 1, 1), (24, .ireturn, 1), (25, .iinc 1 1, 3), (28, .goto (-21), 3), (31, .iconst (-1), 1), (32, .ireturn, 1)],
  [(134, 3, 1, 0), (204, 3, 8, 0)],
  [],
  [(207, 95, 2, 3)],
  [])
def mp_M_redraw_t : mm_T := (⟨"RootCompassModel", "redraw", "()I"⟩, prog_5_method_51_code, 2, (some .int), 0, mp_M_redraw)
def mp_M_isPoint : mm_P := ([(0, .aload_n 0, 1), (1, .iload_n 1, 1), (2, .invokevirtual 211, 3), (5, .ifCond .ne 7, 3), (8, .iconst 1, 1), (9, .goto 4, 3), (12, .iconst 0, 1), (13, .ireturn, 1)],
  [],
  [],
  [(211, 98, 2, 3)],
  [])
def mp_M_isPoint_t : mm_T := (⟨"RootCompassModel", "isPoint", "(I)Z"⟩, prog_5_method_52_code, 2, (some .boolean), 0, mp_M_isPoint)
def mp_M_kindOf : mm_P := ([(0, .iload_n 1, 1), (1, .ifCond .lt 11, 3), (4, .iload_n 1, 1), (5, .aload_n 0, 1), (6, .getfield 204, 3), (9, .if_icmp .lt 7, 3), (12, .iconst (-1), 1), (13, .goto 57, 3), (16, .aload_n 0, 1), (17, .getfield 22, 3), (20, .iload_n 1, 1), (21, .ifCond .ge 7, 3), (24, .iconst 0, 1), (25, .goto 4, 3), (28, .iload_n 1, 1), (29, .iaload, 1), (30, .iconst 1, 1), (31, .if_icmp .eq 21, 3), (34, .aload_n 0, 1), (35, .getfield 22, 3), (38, .iload_n 1, 1), (39, .ifCond .ge 7, 3), (42, .iconst 0, 1), (43, .goto 4, 3), (46, .iload_n 1, 1), (47, .iaload, 1), (48, .iconst 2, 1), (49, .if_icmp .ne 20, 3), (52, .aload_n 0, 1), (53, .getfield 22, 3), (56, .iload_n 1, 1), (57, .ifCond .ge 7, 3), (60, .iconst 0, 1), (61, .goto 4, 3), (64, .iload_n 1, 1), (65, .iaload, 1), (66, .goto 4, 3), (69, .iconst 0, 1), (70, .ireturn, 1)],
  [(22, 3, 9, 2), (204, 3, 8, 0)],
  [],
  [],
  [])
def mp_M_kindOf_t : mm_T := (⟨"RootCompassModel", "kindOf", "(I)I"⟩, prog_5_method_53_code, 2, (some .int), 0, mp_M_kindOf)
def mp_M_fresh : mm_P := ([(0, .aload_n 0, 1), (1, .aload_n 0, 1), (2, .getfield 204, 3), (5, .bipush 24, 2), (7, .if_icmp .ne 7, 3), (10, .iconst 2, 1), (11, .goto 4, 3), (14, .iconst 0, 1), (15, .putfield 31, 3), (18, .aload_n 0, 1), (19, .getfield 31, 3), (22, .ifCond .le 5, 3), (25, .iconst 0, 1), (26, .ireturn, 1), (27, .aload_n 0, 1), (28, .getfield 22, 3), (31, .aload_n 0, 1), (32, .getfield 204, 3), (35, .iload_n 1, 1), (36, .iastore, 1), (37, .aload_n 0, 1), (38, .getfield 26, 3), (41, .iconst 4, 1), (42, .aload_n 0, 1), (43, .getfield 204, 3), (46, .imul, 1), (47, .iload_n 2, 1), (48, .iastore, 1), (49, .aload_n 0, 1), (50, .getfield 26, 3), (53, .iconst 4, 1), (54, .aload_n 0, 1), (55, .getfield 204, 3), (58, .imul, 1), (59, .iconst 1, 1), (60, .iadd, 1), (61, .iload_n 3, 1), (62, .iastore, 1), (63, .aload_n 0, 1), (64, .getfield 26, 3), (67, .iconst 4, 1), (68, .aload_n 0, 1), (69, .getfield 204, 3), (72, .imul, 1), (73, .iconst 2, 1), (74, .iadd, 1), (75, .iload 4, 2), (77, .iastore, 1), (78, .aload_n 0, 1), (79, .getfield 26, 3), (82, .iconst 4, 1), (83, .aload_n 0, 1), (84, .getfield 204, 3), (87, .imul, 1), (88, .iconst 3, 1), (89, .iadd, 1), (90, .iload 5, 2), (92, .iastore, 1), (93, .aload_n 0, 1), (94, .getfield 134, 3), (97, .istore 6, 2), (99, .aload_n 0, 1), (100, .aload_n 0, 1), (101, .getfield 204, 3), (104, .invokevirtual 207, 3), (107, .ifCond .ne 16, 3), (110, .aload_n 0, 1), (111, .iload 6, 2), (113, .putfield 134, 3), (116, .aload_n 0, 1), (117, .iconst 3, 1), (118, .putfield 31, 3), (121, .iconst 0, 1), (122, .ireturn, 1), (123, .aload_n 0, 1), (124, .dup, 1), (125, .getfield 204, 3), (128, .iconst 1, 1), (129, .iadd, 1), (130, .putfield 204, 3), (133, .aload_n 0, 1), (134, .getfield 204, 3), (137, .iconst 1, 1), (138, .isub, 1), (139, .ireturn, 1)],
  [(22, 3, 9, 2), (26, 3, 10, 2), (31, 3, 0, 0), (134, 3, 1, 0), (204, 3, 8, 0)],
  [],
  [(207, 95, 2, 3)],
  [])
def mp_M_fresh_t : mm_T := (⟨"RootCompassModel", "fresh", "(IIIII)I"⟩, prog_5_method_54_code, 7, (some .int), 0, mp_M_fresh)
def mp_M_isFraction : mm_P := ([(0, .iload_n 0, 1), (1, .sipush (-10000), 3), (4, .if_icmp .lt 26, 3), (7, .iload_n 0, 1), (8, .sipush 10000, 3), (11, .if_icmp .gt 19, 3), (14, .iload_n 1, 1), (15, .iconst 1, 1), (16, .if_icmp .lt 14, 3), (19, .iload_n 1, 1), (20, .sipush 10000, 3), (23, .if_icmp .gt 7, 3), (26, .iconst 1, 1), (27, .goto 4, 3), (30, .iconst 0, 1), (31, .ireturn, 1)],
  [],
  [],
  [],
  [])
def mp_M_isFraction_t : mm_T := (⟨"RootCompassModel", "isFraction", "(II)Z"⟩, prog_5_method_55_code, 2, (some .boolean), 0, mp_M_isFraction)
def mp_M_free : mm_P := ([(0, .aload_n 0, 1), (1, .iload_n 1, 1), (2, .iload_n 2, 1), (3, .invokestatic 214, 3), (6, .ifCond .eq 16, 3), (9, .iload_n 3, 1), (10, .iload 4, 2), (12, .invokestatic 214, 3), (15, .ifCond .eq 7, 3), (18, .iconst 0, 1), (19, .goto 4, 3), (22, .iconst 1, 1), (23, .putfield 31, 3), (26, .aload_n 0, 1), (27, .getfield 31, 3), (30, .ifCond .le 7, 3), (33, .iconst 0, 1), (34, .goto 13, 3), (37, .aload_n 0, 1), (38, .iconst 0, 1), (39, .iload_n 1, 1), (40, .iload_n 2, 1), (41, .iload_n 3, 1), (42, .iload 4, 2), (44, .invokevirtual 217, 3), (47, .ireturn, 1)],
  [(31, 3, 0, 0)],
  [],
  [(214, 100, 2, 99), (217, 99, 6, 3)],
  [])
def mp_M_free_t : mm_T := (⟨"RootCompassModel", "free", "(IIII)I"⟩, prog_5_method_56_code, 5, (some .int), 0, mp_M_free)
def mp_M_line : mm_P := ([(0, .aload_n 0, 1), (1, .aload_n 0, 1), (2, .iload_n 1, 1), (3, .invokevirtual 221, 3), (6, .ifCond .eq 15, 3), (9, .aload_n 0, 1), (10, .iload_n 2, 1), (11, .invokevirtual 221, 3), (14, .ifCond .eq 7, 3), (17, .iconst 0, 1), (18, .goto 4, 3), (21, .iconst 1, 1), (22, .putfield 31, 3), (25, .aload_n 0, 1), (26, .getfield 31, 3), (29, .ifCond .le 7, 3), (32, .iconst 0, 1), (33, .goto 12, 3), (36, .aload_n 0, 1), (37, .iconst 1, 1), (38, .iload_n 1, 1), (39, .iload_n 2, 1), (40, .iconst 0, 1), (41, .iconst 0, 1), (42, .invokevirtual 217, 3), (45, .ireturn, 1)],
  [(31, 3, 0, 0)],
  [],
  [(217, 99, 6, 3), (221, 97, 2, 3)],
  [])
def mp_M_line_t : mm_T := (⟨"RootCompassModel", "line", "(II)I"⟩, prog_5_method_57_code, 3, (some .int), 0, mp_M_line)
def mp_M_circle : mm_P := ([(0, .aload_n 0, 1), (1, .aload_n 0, 1), (2, .iload_n 1, 1), (3, .invokevirtual 221, 3), (6, .ifCond .eq 23, 3), (9, .aload_n 0, 1), (10, .iload_n 2, 1), (11, .invokevirtual 221, 3), (14, .ifCond .eq 15, 3), (17, .aload_n 0, 1), (18, .iload_n 3, 1), (19, .invokevirtual 221, 3), (22, .ifCond .eq 7, 3), (25, .iconst 0, 1), (26, .goto 4, 3), (29, .iconst 1, 1), (30, .putfield 31, 3), (33, .aload_n 0, 1), (34, .getfield 31, 3), (37, .ifCond .le 7, 3), (40, .iconst 0, 1), (41, .goto 12, 3), (44, .aload_n 0, 1), (45, .iconst 2, 1), (46, .iload_n 1, 1), (47, .iload_n 2, 1), (48, .iload_n 3, 1), (49, .iconst 0, 1), (50, .invokevirtual 217, 3), (53, .ireturn, 1)],
  [(31, 3, 0, 0)],
  [],
  [(217, 99, 6, 3), (221, 97, 2, 3)],
  [])
def mp_M_circle_t : mm_T := (⟨"RootCompassModel", "circle", "(III)I"⟩, prog_5_method_58_code, 4, (some .int), 0, mp_M_circle)
def mp_M_middle : mm_P := ([(0, .aload_n 0, 1), (1, .aload_n 0, 1), (2, .iload_n 1, 1), (3, .invokevirtual 221, 3), (6, .ifCond .eq 15, 3), (9, .aload_n 0, 1), (10, .iload_n 2, 1), (11, .invokevirtual 221, 3), (14, .ifCond .eq 7, 3), (17, .iconst 0, 1), (18, .goto 4, 3), (21, .iconst 1, 1), (22, .putfield 31, 3), (25, .aload_n 0, 1), (26, .getfield 31, 3), (29, .ifCond .le 7, 3), (32, .iconst 0, 1), (33, .goto 12, 3), (36, .aload_n 0, 1), (37, .iconst 3, 1), (38, .iload_n 1, 1), (39, .iload_n 2, 1), (40, .iconst 0, 1), (41, .iconst 0, 1), (42, .invokevirtual 217, 3), (45, .ireturn, 1)],
  [(31, 3, 0, 0)],
  [],
  [(217, 99, 6, 3), (221, 97, 2, 3)],
  [])
def mp_M_middle_t : mm_T := (⟨"RootCompassModel", "middle", "(II)I"⟩, prog_5_method_59_code, 3, (some .int), 0, mp_M_middle)
def mp_M_meet : mm_P := ([(0, .aload_n 0, 1), (1, .iload_n 1, 1), (2, .invokevirtual 211, 3), (5, .iconst 1, 1), (6, .if_icmp .ne 16, 3), (9, .aload_n 0, 1), (10, .iload_n 2, 1), (11, .invokevirtual 211, 3), (14, .iconst 1, 1), (15, .if_icmp .ne 7, 3), (18, .iconst 0, 1), (19, .goto 4, 3), (22, .iconst 1, 1), (23, .istore 4, 2), (25, .aload_n 0, 1), (26, .aload_n 0, 1), (27, .iload_n 1, 1), (28, .invokevirtual 211, 3), (31, .iconst 1, 1), (32, .if_icmp .lt 27, 3), (35, .aload_n 0, 1), (36, .iload_n 2, 1), (37, .invokevirtual 211, 3), (40, .iconst 1, 1), (41, .if_icmp .lt 18, 3), (44, .iload_n 1, 1), (45, .iload_n 2, 1), (46, .if_icmp .eq 13, 3), (49, .iload_n 3, 1), (50, .ifCond .lt 9, 3), (53, .iload_n 3, 1), (54, .iload 4, 2), (56, .if_icmp .le 7, 3), (59, .iconst 1, 1), (60, .goto 4, 3), (63, .iconst 0, 1), (64, .putfield 31, 3), (67, .aload_n 0, 1), (68, .getfield 31, 3), (71, .ifCond .le 7, 3), (74, .iconst 0, 1), (75, .goto 12, 3), (78, .aload_n 0, 1), (79, .iconst 4, 1), (80, .iload_n 1, 1), (81, .iload_n 2, 1), (82, .iload_n 3, 1), (83, .iconst 0, 1), (84, .invokevirtual 217, 3), (87, .ireturn, 1)],
  [(31, 3, 0, 0)],
  [],
  [(211, 98, 2, 3), (217, 99, 6, 3)],
  [])
def mp_M_meet_t : mm_T := (⟨"RootCompassModel", "meet", "(III)I"⟩, prog_5_method_60_code, 5, (some .int), 0, mp_M_meet)
def mp_M_move : mm_P := ([(0, .aload_n 0, 1), (1, .aload_n 0, 1), (2, .iload_n 1, 1), (3, .invokevirtual 221, 3), (6, .ifCond .eq 25, 3), (9, .iload_n 2, 1), (10, .iload_n 3, 1), (11, .invokestatic 214, 3), (14, .ifCond .eq 17, 3), (17, .iload 4, 2), (19, .iload 5, 2), (21, .invokestatic 214, 3), (24, .ifCond .eq 7, 3), (27, .iconst 0, 1), (28, .goto 4, 3), (31, .iconst 1, 1), (32, .putfield 31, 3), (35, .aload_n 0, 1), (36, .getfield 31, 3), (39, .ifCond .le 5, 3), (42, .iconst 0, 1), (43, .ireturn, 1), (44, .aload_n 0, 1), (45, .aload_n 0, 1), (46, .getfield 22, 3), (49, .iload_n 1, 1), (50, .iaload, 1), (51, .ifCond .ne 7, 3), (54, .iconst 0, 1), (55, .goto 4, 3), (58, .iconst 1, 1), (59, .putfield 31, 3), (62, .aload_n 0, 1), (63, .getfield 31, 3), (66, .ifCond .le 5, 3), (69, .iconst 0, 1), (70, .ireturn, 1), (71, .aload_n 0, 1), (72, .getfield 134, 3), (75, .istore 6, 2), (77, .aload_n 0, 1), (78, .getfield 26, 3), (81, .iconst 4, 1), (82, .iload_n 1, 1), (83, .imul, 1), (84, .iaload, 1), (85, .istore 7, 2), (87, .aload_n 0, 1), (88, .getfield 26, 3), (91, .iconst 4, 1), (92, .iload_n 1, 1), (93, .imul, 1), (94, .iconst 1, 1), (95, .iadd, 1), (96, .iaload, 1), (97, .istore 8, 2), (99, .aload_n 0, 1), (100, .getfield 26, 3), (103, .iconst 4, 1), (104, .iload_n 1, 1), (105, .imul, 1), (106, .iconst 2, 1), (107, .iadd, 1), (108, .iaload, 1), (109, .istore 9, 2), (111, .aload_n 0, 1), (112, .getfield 26, 3), (115, .iconst 4, 1), (116, .iload_n 1, 1), (117, .imul, 1), (118, .iconst 3, 1), (119, .iadd, 1), (120, .iaload, 1), (121, .istore 10, 2), (123, .iconst 0, 1), (124, .istore 11, 2), (126, .iload 11, 2), (128, .sipush 292, 3), (131, .if_icmp .ge 37, 3), (134, .aload_n 0, 1), (135, .getfield 16, 3), (138, .iload 11, 2), (140, .aload_n 0, 1), (141, .getfield 7, 3), (144, .iload 11, 2), (146, .laload, 1), (147, .lastore, 1), (148, .aload_n 0, 1), (149, .getfield 19, 3), (152, .iload 11, 2), (154, .aload_n 0, 1), (155, .getfield 13, 3), (158, .iload 11, 2), (160, .laload, 1), (161, .lastore, 1), (162, .iinc 11 1, 3), (165, .goto (-39), 3), (168, .aload_n 0, 1), (169, .iload_n 1, 1), (170, .iload_n 2, 1), (171, .iload_n 3, 1), (172, .iload 4, 2), (174, .iload 5, 2), (176, .invokevirtual 224, 3), (179, .aload_n 0, 1), (180, .invokevirtual 227, 3), (183, .istore 11, 2), (185, .iload 11, 2), (187, .ifCond .lt 67, 3), (190, .aload_n 0, 1), (191, .iload_n 1, 1), (192, .iload 7, 2), (194, .iload 8, 2), (196, .iload 9, 2), (198, .iload 10, 2), (200, .invokevirtual 224, 3), (203, .aload_n 0, 1), (204, .iload 6, 2), (206, .putfield 134, 3), (209, .iconst 0, 1), (210, .istore 12, 2), (212, .iload 12, 2), (214, .sipush 292, 3), (217, .if_icmp .ge 37, 3), (220, .aload_n 0, 1), (221, .getfield 7, 3), (224, .iload 12, 2), (226, .aload_n 0, 1), (227, .getfield 16, 3), (230, .iload 12, 2), (232, .laload, 1), (233, .lastore, 1), (234, .aload_n 0, 1), (235, .getfield 13, 3), (238, .iload 12, 2), (240, .aload_n 0, 1), (241, .getfield 19, 3), (244, .iload 12, 2), (246, .laload, 1), (247, .lastore, 1), (248, .iinc 12 1, 3), (251, .goto (-39), 3), (254, .iload 11, 2), (256, .ireturn, 1)],
  [(7, 3, 4, 2), (13, 3, 5, 2), (16, 3, 6, 2), (19, 3, 7, 2), (22, 3, 9, 2), (26, 3, 10, 2), (31, 3, 0, 0), (134, 3, 1, 0)],
  [],
  [(214, 100, 2, 99), (221, 97, 2, 3), (224, 107, 6, 3), (227, 96, 1, 3)],
  [])
def mp_M_move_t : mm_T := (⟨"RootCompassModel", "move", "(IIIII)I"⟩, prog_5_method_61_code, 13, (some .int), 0, mp_M_move)
def mp_M_become : mm_P := ([(0, .aload_n 0, 1), (1, .getfield 26, 3), (4, .iconst 4, 1), (5, .iload_n 1, 1), (6, .imul, 1), (7, .iload_n 2, 1), (8, .iastore, 1), (9, .aload_n 0, 1), (10, .getfield 26, 3), (13, .iconst 4, 1), (14, .iload_n 1, 1), (15, .imul, 1), (16, .iconst 1, 1), (17, .iadd, 1), (18, .iload_n 3, 1), (19, .iastore, 1), (20, .aload_n 0, 1), (21, .getfield 26, 3), (24, .iconst 4, 1), (25, .iload_n 1, 1), (26, .imul, 1), (27, .iconst 2, 1), (28, .iadd, 1), (29, .iload 4, 2), (31, .iastore, 1), (32, .aload_n 0, 1), (33, .getfield 26, 3), (36, .iconst 4, 1), (37, .iload_n 1, 1), (38, .imul, 1), (39, .iconst 3, 1), (40, .iadd, 1), (41, .iload 5, 2), (43, .iastore, 1), (44, .return_, 1)],
  [(26, 3, 10, 2)],
  [],
  [],
  [])
def mp_M_become_t : mm_T := (⟨"RootCompassModel", "become", "(IIIII)V"⟩, prog_5_method_62_code, 6, none, 0, mp_M_become)
def mp_M_undo : mm_P := ([(0, .aload_n 0, 1), (1, .iconst 0, 1), (2, .putfield 31, 3), (5, .aload_n 0, 1), (6, .getfield 204, 3), (9, .ifCond .ne 5, 3), (12, .iconst 0, 1), (13, .ireturn, 1), (14, .aload_n 0, 1), (15, .dup, 1), (16, .getfield 204, 3), (19, .iconst 1, 1), (20, .isub, 1), (21, .putfield 204, 3), (24, .aload_n 0, 1), (25, .invokevirtual 227, 3), (28, .istore_n 1, 1), (29, .iconst 1, 1), (30, .ireturn, 1)],
  [(31, 3, 0, 0), (204, 3, 8, 0)],
  [],
  [(227, 96, 1, 3)],
  [])
def mp_M_undo_t : mm_T := (⟨"RootCompassModel", "undo", "()Z"⟩, prog_5_method_63_code, 2, (some .boolean), 0, mp_M_undo)
def mp_M_told : mm_P := ([(0, .aload_n 0, 1), (1, .aload_n 0, 1), (2, .getfield 43, 3), (5, .ifCond .eq 7, 3), (8, .iconst 2, 1), (9, .goto 4, 3), (12, .iconst 0, 1), (13, .putfield 31, 3), (16, .iload_n 1, 1), (17, .ifCond .eq 14, 3), (20, .aload_n 0, 1), (21, .getfield 43, 3), (24, .ifCond .ne 7, 3), (27, .iconst 1, 1), (28, .goto 4, 3), (31, .iconst 0, 1), (32, .ireturn, 1)],
  [(31, 3, 0, 0), (43, 3, 2, 1)],
  [],
  [],
  [])
def mp_M_told_t : mm_T := (⟨"RootCompassModel", "told", "(Z)Z"⟩, prog_5_method_64_code, 2, (some .boolean), 0, mp_M_told)
def mp_M_on : mm_P := ([(0, .aload_n 0, 1), (1, .aload_n 0, 1), (2, .iload_n 1, 1), (3, .invokevirtual 221, 3), (6, .ifCond .eq 15, 3), (9, .aload_n 0, 1), (10, .iload_n 2, 1), (11, .invokevirtual 211, 3), (14, .ifCond .le 7, 3), (17, .iconst 0, 1), (18, .goto 4, 3), (21, .iconst 1, 1), (22, .putfield 31, 3), (25, .aload_n 0, 1), (26, .getfield 31, 3), (29, .ifCond .le 5, 3), (32, .iconst 0, 1), (33, .ireturn, 1), (34, .aload_n 0, 1), (35, .iconst 0, 1), (36, .putfield 43, 3), (39, .aload_n 0, 1), (40, .getfield 22, 3), (43, .iload_n 2, 1), (44, .iaload, 1), (45, .iconst 1, 1), (46, .if_icmp .ne 47, 3), (49, .aload_n 0, 1), (50, .iconst 0, 1), (51, .invokestatic 155, 3), (54, .iload_n 2, 1), (55, .invokestatic 161, 3), (58, .iload_n 1, 1), (59, .invokestatic 161, 3), (62, .iload_n 2, 1), (63, .invokestatic 164, 3), (66, .iload_n 1, 1), (67, .invokestatic 164, 3), (70, .invokevirtual 167, 3), (73, .aload_n 0, 1), (74, .aload_n 0, 1), (75, .iconst 0, 1), (76, .invokestatic 155, 3), (79, .bipush 12, 2), (81, .iload_n 2, 1), (82, .imul, 1), (83, .bipush 8, 2), (85, .iadd, 1), (86, .invokevirtual 171, 3), (89, .invokevirtual 231, 3), (92, .ireturn, 1), (93, .aload_n 0, 1), (94, .iconst 0, 1), (95, .invokestatic 155, 3), (98, .aload_n 0, 1), (99, .getfield 26, 3), (102, .iconst 4, 1), (103, .iload_n 2, 1), (104, .imul, 1), (105, .iaload, 1), (106, .iload_n 1, 1), (107, .invokevirtual 195, 3), (110, .aload_n 0, 1), (111, .aload_n 0, 1), (112, .iconst 0, 1), (113, .invokestatic 155, 3), (116, .bipush 12, 2), (118, .iload_n 2, 1), (119, .imul, 1), (120, .invokevirtual 171, 3), (123, .invokevirtual 231, 3), (126, .ireturn, 1)],
  [(22, 3, 9, 2), (26, 3, 10, 2), (31, 3, 0, 0), (43, 3, 2, 1)],
  [],
  [(155, 85, 1, 99), (161, 83, 1, 99), (164, 84, 1, 99), (167, 86, 6, 3), (171, 64, 3, 3), (195, 88, 4, 3), (211, 98, 2, 3), (221, 97, 2, 3), (231, 109, 2, 3)],
  [])
def mp_M_on_t : mm_T := (⟨"RootCompassModel", "on", "(II)Z"⟩, prog_5_method_65_code, 3, (some .boolean), 0, mp_M_on)
def mp_M_same : mm_P := ([(0, .aload_n 0, 1), (1, .aload_n 0, 1), (2, .iload_n 1, 1), (3, .invokevirtual 221, 3), (6, .ifCond .eq 15, 3), (9, .aload_n 0, 1), (10, .iload_n 2, 1), (11, .invokevirtual 221, 3), (14, .ifCond .eq 7, 3), (17, .iconst 0, 1), (18, .goto 4, 3), (21, .iconst 1, 1), (22, .putfield 31, 3), (25, .aload_n 0, 1), (26, .getfield 31, 3), (29, .ifCond .ne 37, 3), (32, .aload_n 0, 1), (33, .iload_n 1, 1), (34, .invokestatic 161, 3), (37, .iload_n 2, 1), (38, .invokestatic 161, 3), (41, .invokevirtual 171, 3), (44, .ifCond .eq 22, 3), (47, .aload_n 0, 1), (48, .iload_n 1, 1), (49, .invokestatic 164, 3), (52, .iload_n 2, 1), (53, .invokestatic 164, 3), (56, .invokevirtual 171, 3), (59, .ifCond .eq 7, 3), (62, .iconst 1, 1), (63, .goto 4, 3), (66, .iconst 0, 1), (67, .ireturn, 1)],
  [(31, 3, 0, 0)],
  [],
  [(161, 83, 1, 99), (164, 84, 1, 99), (171, 64, 3, 3), (221, 97, 2, 3)],
  [])
def mp_M_same_t : mm_T := (⟨"RootCompassModel", "same", "(II)Z"⟩, prog_5_method_66_code, 3, (some .boolean), 0, mp_M_same)
def mp_M_equal : mm_P := ([(0, .aload_n 0, 1), (1, .aload_n 0, 1), (2, .iload_n 1, 1), (3, .invokevirtual 221, 3), (6, .ifCond .eq 32, 3), (9, .aload_n 0, 1), (10, .iload_n 2, 1), (11, .invokevirtual 221, 3), (14, .ifCond .eq 24, 3), (17, .aload_n 0, 1), (18, .iload_n 3, 1), (19, .invokevirtual 221, 3), (22, .ifCond .eq 16, 3), (25, .aload_n 0, 1), (26, .iload 4, 2), (28, .invokevirtual 221, 3), (31, .ifCond .eq 7, 3), (34, .iconst 0, 1), (35, .goto 4, 3), (38, .iconst 1, 1), (39, .putfield 31, 3), (42, .aload_n 0, 1), (43, .getfield 31, 3), (46, .ifCond .le 5, 3), (49, .iconst 0, 1), (50, .ireturn, 1), (51, .aload_n 0, 1), (52, .iconst 0, 1), (53, .putfield 43, 3), (56, .aload_n 0, 1), (57, .iconst 0, 1), (58, .invokestatic 155, 3), (61, .iload_n 1, 1), (62, .iload_n 2, 1), (63, .invokevirtual 195, 3), (66, .aload_n 0, 1), (67, .iconst 1, 1), (68, .invokestatic 155, 3), (71, .iload_n 3, 1), (72, .iload 4, 2), (74, .invokevirtual 195, 3), (77, .aload_n 0, 1), (78, .aload_n 0, 1), (79, .iconst 0, 1), (80, .invokestatic 155, 3), (83, .iconst 1, 1), (84, .invokestatic 155, 3), (87, .invokevirtual 171, 3), (90, .invokevirtual 231, 3), (93, .ireturn, 1)],
  [(31, 3, 0, 0), (43, 3, 2, 1)],
  [],
  [(155, 85, 1, 99), (171, 64, 3, 3), (195, 88, 4, 3), (221, 97, 2, 3), (231, 109, 2, 3)],
  [])
def mp_M_equal_t : mm_T := (⟨"RootCompassModel", "equal", "(IIII)Z"⟩, prog_5_method_67_code, 5, (some .boolean), 0, mp_M_equal)
def mp_M_angle : mm_P := ([(0, .aload_n 0, 1), (1, .aload_n 0, 1), (2, .iload_n 1, 1), (3, .invokevirtual 211, 3), (6, .iconst 1, 1), (7, .if_icmp .ne 16, 3), (10, .aload_n 0, 1), (11, .iload_n 2, 1), (12, .invokevirtual 211, 3), (15, .iconst 1, 1), (16, .if_icmp .ne 7, 3), (19, .iconst 0, 1), (20, .goto 4, 3), (23, .iconst 1, 1), (24, .putfield 31, 3), (27, .aload_n 0, 1), (28, .getfield 31, 3), (31, .ifCond .le 5, 3), (34, .iconst 0, 1), (35, .ireturn, 1), (36, .aload_n 0, 1), (37, .iconst 0, 1), (38, .putfield 43, 3), (41, .aload_n 0, 1), (42, .iconst 0, 1), (43, .invokestatic 155, 3), (46, .iload_n 1, 1), (47, .invokestatic 161, 3), (50, .iload_n 2, 1), (51, .invokestatic 164, 3), (54, .iload_n 2, 1), (55, .invokestatic 161, 3), (58, .iload_n 1, 1), (59, .invokestatic 164, 3), (62, .invokevirtual 174, 3), (65, .aload_n 0, 1), (66, .iconst 0, 1), (67, .invokestatic 155, 3), (70, .iconst 4, 1), (71, .invokevirtual 125, 3), (74, .istore_n 3, 1), (75, .iload_n 3, 1), (76, .ifCond .ne 34, 3), (79, .aload_n 0, 1), (80, .getfield 43, 3), (83, .ifCond .ne 27, 3), (86, .aload_n 0, 1), (87, .iconst 0, 1), (88, .invokestatic 155, 3), (91, .iload_n 1, 1), (92, .invokestatic 161, 3), (95, .iload_n 2, 1), (96, .invokestatic 161, 3), (99, .iload_n 1, 1), (100, .invokestatic 164, 3), (103, .iload_n 2, 1), (104, .invokestatic 164, 3), (107, .invokevirtual 167, 3), (110, .iload_n 3, 1), (111, .ifCond .ne 19, 3), (114, .aload_n 0, 1), (115, .iconst 0, 1), (116, .invokestatic 155, 3), (119, .iconst 4, 1), (120, .invokevirtual 125, 3), (123, .ifCond .eq 7, 3), (126, .iconst 1, 1), (127, .goto 4, 3), (130, .iconst 0, 1), (131, .istore 4, 2), (133, .aload_n 0, 1), (134, .aload_n 0, 1), (135, .getfield 43, 3), (138, .ifCond .eq 7, 3), (141, .iconst 2, 1), (142, .goto 4, 3), (145, .iconst 0, 1), (146, .putfield 31, 3), (149, .aload_n 0, 1), (150, .getfield 43, 3), (153, .ifCond .eq 7, 3), (156, .iconst 0, 1), (157, .goto 21, 3), (160, .iload_n 3, 1), (161, .ifCond .eq 7, 3), (164, .iconst 1, 1), (165, .goto 13, 3), (168, .iload 4, 2), (170, .ifCond .eq 7, 3), (173, .iconst 2, 1), (174, .goto 4, 3), (177, .iconst 0, 1), (178, .ireturn, 1)],
  [(31, 3, 0, 0), (43, 3, 2, 1)],
  [],
  [(125, 63, 3, 3), (155, 85, 1, 99), (161, 83, 1, 99), (164, 84, 1, 99), (167, 86, 6, 3), (174, 87, 6, 3), (211, 98, 2, 3)],
  [])
def mp_M_angle_t : mm_T := (⟨"RootCompassModel", "angle", "(II)I"⟩, prog_5_method_68_code, 5, (some .int), 0, mp_M_angle)
def mp_M_side : mm_P := ([(0, .aload_n 0, 1), (1, .aload_n 0, 1), (2, .iload_n 1, 1), (3, .invokevirtual 221, 3), (6, .ifCond .eq 23, 3), (9, .aload_n 0, 1), (10, .iload_n 2, 1), (11, .invokevirtual 221, 3), (14, .ifCond .eq 15, 3), (17, .aload_n 0, 1), (18, .iload_n 3, 1), (19, .invokevirtual 221, 3), (22, .ifCond .eq 7, 3), (25, .iconst 0, 1), (26, .goto 4, 3), (29, .iconst 1, 1), (30, .putfield 31, 3), (33, .aload_n 0, 1), (34, .getfield 31, 3), (37, .ifCond .le 5, 3), (40, .iconst 0, 1), (41, .ireturn, 1), (42, .aload_n 0, 1), (43, .iconst 0, 1), (44, .putfield 43, 3), (47, .aload_n 0, 1), (48, .iconst 0, 1), (49, .invokestatic 155, 3), (52, .iload_n 2, 1), (53, .invokestatic 161, 3), (56, .iload_n 1, 1), (57, .invokestatic 161, 3), (60, .iconst 4, 1), (61, .invokevirtual 107, 3), (64, .aload_n 0, 1), (65, .iconst 1, 1), (66, .invokestatic 155, 3), (69, .iload_n 3, 1), (70, .invokestatic 164, 3), (73, .iload_n 1, 1), (74, .invokestatic 164, 3), (77, .iconst 4, 1), (78, .invokevirtual 107, 3), (81, .aload_n 0, 1), (82, .iconst 2, 1), (83, .invokestatic 155, 3), (86, .iload_n 2, 1), (87, .invokestatic 164, 3), (90, .iload_n 1, 1), (91, .invokestatic 164, 3), (94, .iconst 4, 1), (95, .invokevirtual 107, 3), (98, .aload_n 0, 1), (99, .iconst 3, 1), (100, .invokestatic 155, 3), (103, .iload_n 3, 1), (104, .invokestatic 161, 3), (107, .iload_n 1, 1), (108, .invokestatic 161, 3), (111, .iconst 4, 1), (112, .invokevirtual 107, 3), (115, .aload_n 0, 1), (116, .iconst 4, 1), (117, .invokestatic 155, 3), (120, .iconst 0, 1), (121, .invokestatic 155, 3), (124, .iconst 1, 1), (125, .invokestatic 155, 3), (128, .iconst 2, 1), (129, .invokestatic 155, 3), (132, .iconst 3, 1), (133, .invokestatic 155, 3), (136, .invokevirtual 174, 3), (139, .aload_n 0, 1), (140, .iconst 4, 1), (141, .invokestatic 155, 3), (144, .invokevirtual 149, 3), (147, .istore 4, 2), (149, .aload_n 0, 1), (150, .aload_n 0, 1), (151, .getfield 43, 3), (154, .ifCond .eq 7, 3), (157, .iconst 2, 1), (158, .goto 4, 3), (161, .iconst 0, 1), (162, .putfield 31, 3), (165, .aload_n 0, 1), (166, .getfield 43, 3), (169, .ifCond .eq 7, 3), (172, .iconst 0, 1), (173, .goto 5, 3), (176, .iload 4, 2), (178, .ireturn, 1)],
  [(31, 3, 0, 0), (43, 3, 2, 1)],
  [],
  [(107, 60, 5, 3), (149, 80, 2, 3), (155, 85, 1, 99), (161, 83, 1, 99), (164, 84, 1, 99), (174, 87, 6, 3), (221, 97, 2, 3)],
  [])
def mp_M_side_t : mm_T := (⟨"RootCompassModel", "side", "(III)I"⟩, prog_5_method_69_code, 5, (some .int), 0, mp_M_side)
def mp_M_sign : mm_P := ([(0, .aload_n 0, 1), (1, .aload_n 0, 1), (2, .iload_n 1, 1), (3, .invokevirtual 221, 3), (6, .ifCond .eq 19, 3), (9, .iload_n 3, 1), (10, .ldc 235, 2), (12, .if_icmp .lt 13, 3), (15, .iload_n 3, 1), (16, .ldc 236, 2), (18, .if_icmp .gt 7, 3), (21, .iconst 0, 1), (22, .goto 4, 3), (25, .iconst 1, 1), (26, .putfield 31, 3), (29, .aload_n 0, 1), (30, .getfield 31, 3), (33, .ifCond .le 5, 3), (36, .iconst 0, 1), (37, .ireturn, 1), (38, .aload_n 0, 1), (39, .iconst 0, 1), (40, .putfield 43, 3), (43, .aload_n 0, 1), (44, .iconst 0, 1), (45, .invokestatic 155, 3), (48, .iconst 0, 1), (49, .invokevirtual 128, 3), (52, .aload_n 0, 1), (53, .getfield 7, 3), (56, .iconst 0, 1), (57, .invokestatic 155, 3), (60, .iload_n 3, 1), (61, .i2l, 1), (62, .lastore, 1), (63, .aload_n 0, 1), (64, .iconst 1, 1), (65, .invokestatic 155, 3), (68, .iload_n 2, 1), (69, .ifCond .eq 10, 3), (72, .iload_n 1, 1), (73, .invokestatic 164, 3), (76, .goto 7, 3), (79, .iload_n 1, 1), (80, .invokestatic 161, 3), (83, .iconst 0, 1), (84, .invokestatic 155, 3), (87, .iconst 4, 1), (88, .invokevirtual 107, 3), (91, .aload_n 0, 1), (92, .iconst 1, 1), (93, .invokestatic 155, 3), (96, .invokevirtual 149, 3), (99, .istore 4, 2), (101, .aload_n 0, 1), (102, .aload_n 0, 1), (103, .getfield 43, 3), (106, .ifCond .eq 7, 3), (109, .iconst 2, 1), (110, .goto 4, 3), (113, .iconst 0, 1), (114, .putfield 31, 3), (117, .aload_n 0, 1), (118, .getfield 43, 3), (121, .ifCond .eq 7, 3), (124, .iconst 0, 1), (125, .goto 5, 3), (128, .iload 4, 2), (130, .ireturn, 1)],
  [(7, 3, 4, 2), (31, 3, 0, 0), (43, 3, 2, 1)],
  [(235, .int (-1000000)), (236, .int 1000000)],
  [(107, 60, 5, 3), (128, 65, 3, 3), (149, 80, 2, 3), (155, 85, 1, 99), (161, 83, 1, 99), (164, 84, 1, 99), (221, 97, 2, 3)],
  [])
def mp_M_sign_t : mm_T := (⟨"RootCompassModel", "sign", "(IZI)I"⟩, prog_5_method_70_code, 5, (some .int), 0, mp_M_sign)
def mp_M_part : mm_P := ([(0, .aload_n 0, 1), (1, .aload_n 0, 1), (2, .iload_n 1, 1), (3, .invokevirtual 221, 3), (6, .ifCond .eq 16, 3), (9, .iload_n 3, 1), (10, .ifCond .lt 12, 3), (13, .iload_n 3, 1), (14, .iconst 4, 1), (15, .if_icmp .ge 7, 3), (18, .iconst 0, 1), (19, .goto 4, 3), (22, .iconst 1, 1), (23, .putfield 31, 3), (26, .aload_n 0, 1), (27, .getfield 31, 3), (30, .ifCond .le 5, 3), (33, .iconst 0, 1), (34, .ireturn, 1), (35, .iload_n 2, 1), (36, .ifCond .eq 10, 3), (39, .iload_n 1, 1), (40, .invokestatic 164, 3), (43, .goto 7, 3), (46, .iload_n 1, 1), (47, .invokestatic 161, 3), (50, .iload_n 3, 1), (51, .iadd, 1), (52, .istore 5, 2), (54, .iload 4, 2), (56, .ifCond .eq 13, 3), (59, .aload_n 0, 1), (60, .getfield 13, 3), (63, .iload 5, 2), (65, .laload, 1), (66, .goto 10, 3), (69, .aload_n 0, 1), (70, .getfield 7, 3), (73, .iload 5, 2), (75, .laload, 1), (76, .l2i, 1), (77, .ireturn, 1)],
  [(7, 3, 4, 2), (13, 3, 5, 2), (31, 3, 0, 0)],
  [],
  [(161, 83, 1, 99), (164, 84, 1, 99), (221, 97, 2, 3)],
  [])
def mp_M_part_t : mm_T := (⟨"RootCompassModel", "part", "(IZIZ)I"⟩, prog_5_method_71_code, 6, (some .int), 0, mp_M_part)
def mp_M_radicand : mm_P := ([(0, .aload_n 0, 1), (1, .iload_n 1, 1), (2, .iconst 1, 1), (3, .if_icmp .lt 20, 3), (6, .iload_n 1, 1), (7, .aload_n 0, 1), (8, .getfield 134, 3), (11, .if_icmp .gt 12, 3), (14, .iload_n 2, 1), (15, .ifCond .lt 8, 3), (18, .iload_n 2, 1), (19, .iconst 3, 1), (20, .if_icmp .le 7, 3), (23, .iconst 1, 1), (24, .goto 4, 3), (27, .iconst 0, 1), (28, .putfield 31, 3), (31, .aload_n 0, 1), (32, .getfield 31, 3), (35, .ifCond .le 5, 3), (38, .iconst 0, 1), (39, .ireturn, 1), (40, .iload_n 2, 1), (41, .iload_n 1, 1), (42, .if_icmp .lt 13, 3), (45, .iload_n 3, 1), (46, .ifCond .eq 7, 3), (49, .iconst 1, 1), (50, .goto 4, 3), (53, .iconst 0, 1), (54, .ireturn, 1), (55, .iload_n 1, 1), (56, .iconst 1, 1), (57, .if_icmp .ne 9, 3), (60, .sipush 288, 3), (63, .goto 8, 3), (66, .sipush 289, 3), (69, .iload_n 2, 1), (70, .iadd, 1), (71, .istore 4, 2), (73, .iload_n 3, 1), (74, .ifCond .eq 13, 3), (77, .aload_n 0, 1), (78, .getfield 13, 3), (81, .iload 4, 2), (83, .laload, 1), (84, .goto 10, 3), (87, .aload_n 0, 1), (88, .getfield 7, 3), (91, .iload 4, 2), (93, .laload, 1), (94, .l2i, 1), (95, .ireturn, 1)],
  [(7, 3, 4, 2), (13, 3, 5, 2), (31, 3, 0, 0), (134, 3, 1, 0)],
  [],
  [],
  [])
def mp_M_radicand_t : mm_T := (⟨"RootCompassModel", "radicand", "(IIZ)I"⟩, prog_5_method_72_code, 5, (some .int), 0, mp_M_radicand)
def mp_M_kind : mm_P := ([(0, .aload_n 0, 1), (1, .iconst 0, 1), (2, .putfield 31, 3), (5, .aload_n 0, 1), (6, .iload_n 1, 1), (7, .invokevirtual 211, 3), (10, .ireturn, 1)],
  [(31, 3, 0, 0)],
  [],
  [(211, 98, 2, 3)],
  [])
def mp_M_kind_t : mm_T := (⟨"RootCompassModel", "kind", "(I)I"⟩, prog_5_method_73_code, 2, (some .int), 0, mp_M_kind)
def mp_M_look : mm_P := ([(0, .aload_n 0, 1), (1, .iconst 0, 1), (2, .putfield 31, 3), (5, .iconst 0, 1), (6, .istore_n 2, 1), (7, .iconst 0, 1), (8, .istore_n 3, 1), (9, .iload_n 3, 1), (10, .aload_n 0, 1), (11, .getfield 204, 3), (14, .if_icmp .ge 26, 3), (17, .iload_n 2, 1), (18, .aload_n 0, 1), (19, .getfield 22, 3), (22, .iload_n 3, 1), (23, .iaload, 1), (24, .ifCond .ne 7, 3), (27, .iconst 1, 1), (28, .goto 4, 3), (31, .iconst 0, 1), (32, .iadd, 1), (33, .istore_n 2, 1), (34, .iinc 3 1, 3), (37, .goto (-28), 3), (40, .iload_n 1, 1), (41, .ifCond .ne 10, 3), (44, .aload_n 0, 1), (45, .getfield 204, 3), (48, .goto 25, 3), (51, .iload_n 1, 1), (52, .iconst 1, 1), (53, .if_icmp .ne 10, 3), (56, .aload_n 0, 1), (57, .getfield 134, 3), (60, .goto 13, 3), (63, .iload_n 1, 1), (64, .iconst 2, 1), (65, .if_icmp .ne 7, 3), (68, .iload_n 2, 1), (69, .goto 4, 3), (72, .iconst (-1), 1), (73, .ireturn, 1)],
  [(22, 3, 9, 2), (31, 3, 0, 0), (134, 3, 1, 0), (204, 3, 8, 0)],
  [],
  [],
  [])
def mp_M_look_t : mm_T := (⟨"RootCompassModel", "look", "(I)I"⟩, prog_5_method_74_code, 4, (some .int), 0, mp_M_look)
def mp_N_radicandOf : mm_P := ([(0, .iload_n 0, 1), (1, .iconst 1, 1), (2, .isub, 1), (3, .iconst 4, 1), (4, .imul, 1), (5, .ireturn, 1)],
  [],
  [],
  [],
  [])
def mp_N_radicandOf_t : mm_T := (⟨"RootCompass$Numbers", "radicandOf", "(I)I"⟩, prog_3_method_2_code, 1, (some .int), 0, mp_N_radicandOf)
def mp_N_home : mm_P := ([(0, .iconst 2, 1), (1, .iload_n 0, 1), (2, .iadd, 1), (3, .iconst 4, 1), (4, .imul, 1), (5, .ireturn, 1)],
  [],
  [],
  [],
  [])
def mp_N_home_t : mm_T := (⟨"RootCompass$Numbers", "home", "(I)I"⟩, prog_3_method_3_code, 1, (some .int), 0, mp_N_home)
def mp_N_begin : mm_P := ([(0, .aload_n 0, 1), (1, .aload_n 0, 1), (2, .getfield 11, 3), (5, .putfield 22, 3), (8, .aload_n 0, 1), (9, .iconst 0, 1), (10, .putfield 25, 3), (13, .return_, 1)],
  [(11, 1, 2, 2), (22, 1, 3, 0), (25, 1, 5, 1)],
  [],
  [],
  [])
def mp_N_begin_t : mm_T := (⟨"RootCompass$Numbers", "begin", "()V"⟩, prog_3_method_4_code, 1, none, 0, mp_N_begin)
def mp_N_read : mm_P := ([(0, .iload_n 2, 1), (1, .ifCond .eq 12, 3), (4, .aload_n 0, 1), (5, .getfield 19, 3), (8, .iload_n 1, 1), (9, .iaload, 1), (10, .goto 9, 3), (13, .aload_n 0, 1), (14, .getfield 15, 3), (17, .iload_n 1, 1), (18, .iaload, 1), (19, .ireturn, 1)],
  [(15, 1, 0, 2), (19, 1, 1, 2)],
  [],
  [],
  [])
def mp_N_read_t : mm_T := (⟨"RootCompass$Numbers", "read", "(IZ)I"⟩, prog_3_method_5_code, 3, (some .int), 0, mp_N_read)
def mp_N_copy : mm_P := ([(0, .aload_n 0, 1), (1, .getfield 15, 3), (4, .iload_n 1, 1), (5, .aload_n 0, 1), (6, .getfield 15, 3), (9, .iload_n 2, 1), (10, .iconst 4, 1), (11, .invokestatic 29, 3), (14, .aload_n 0, 1), (15, .getfield 19, 3), (18, .iload_n 1, 1), (19, .aload_n 0, 1), (20, .getfield 19, 3), (23, .iload_n 2, 1), (24, .iconst 4, 1), (25, .invokestatic 29, 3), (28, .return_, 1)],
  [(15, 1, 0, 2), (19, 1, 1, 2)],
  [],
  [(29, 0, 5, 98)],
  [])
def mp_N_copy_t : mm_T := (⟨"RootCompass$Numbers", "copy", "(II)V"⟩, prog_3_method_6_code, 3, none, 0, mp_N_copy)
def mp_N_alike : mm_P := ([(0, .iconst 0, 1), (1, .istore_n 3, 1), (2, .iload_n 3, 1), (3, .iconst 4, 1), (4, .if_icmp .ge 49, 3), (7, .aload_n 0, 1), (8, .getfield 15, 3), (11, .iload_n 1, 1), (12, .iload_n 3, 1), (13, .iadd, 1), (14, .iaload, 1), (15, .aload_n 0, 1), (16, .getfield 15, 3), (19, .iload_n 2, 1), (20, .iload_n 3, 1), (21, .iadd, 1), (22, .iaload, 1), (23, .if_icmp .ne 22, 3), (26, .aload_n 0, 1), (27, .getfield 19, 3), (30, .iload_n 1, 1), (31, .iload_n 3, 1), (32, .iadd, 1), (33, .iaload, 1), (34, .aload_n 0, 1), (35, .getfield 19, 3), (38, .iload_n 2, 1), (39, .iload_n 3, 1), (40, .iadd, 1), (41, .iaload, 1), (42, .if_icmp .eq 5, 3), (45, .iconst 0, 1), (46, .ireturn, 1), (47, .iinc 3 1, 3), (50, .goto (-48), 3), (53, .iconst 1, 1), (54, .ireturn, 1)],
  [(15, 1, 0, 2), (19, 1, 1, 2)],
  [],
  [],
  [])
def mp_N_alike_t : mm_T := (⟨"RootCompass$Numbers", "alike", "(II)Z"⟩, prog_3_method_7_code, 4, (some .boolean), 0, mp_N_alike)
def mp_N_isNought : mm_P := ([(0, .aload_n 0, 1), (1, .iconst 2, 1), (2, .iload_n 1, 1), (3, .invokevirtual 35, 3), (6, .ireturn, 1)],
  [],
  [],
  [(35, 141, 3, 1)],
  [])
def mp_N_isNought_t : mm_T := (⟨"RootCompass$Numbers", "isNought", "(I)Z"⟩, prog_3_method_8_code, 2, (some .boolean), 0, mp_N_isNought)
def mp_N_whole : mm_P := ([(0, .aload_n 0, 1), (1, .iload_n 1, 1), (2, .iconst 1, 1), (3, .invokevirtual 39, 3), (6, .ireturn, 1)],
  [],
  [],
  [(39, 128, 3, 1)],
  [])
def mp_N_whole_t : mm_T := (⟨"RootCompass$Numbers", "whole", "(I)I"⟩, prog_3_method_9_code, 2, (some .int), 0, mp_N_whole)
def mp_N_quotient : mm_P := ([(0, .aload_n 0, 1), (1, .invokevirtual 43, 3), (4, .istore_n 3, 1), (5, .aload_n 0, 1), (6, .iload_n 3, 1), (7, .iload_n 1, 1), (8, .i2l, 1), (9, .iload_n 2, 1), (10, .i2l, 1), (11, .invokevirtual 47, 3), (14, .iload_n 3, 1), (15, .ireturn, 1)],
  [],
  [],
  [(43, 138, 1, 1), (47, 139, 4, 1)],
  [])
def mp_N_quotient_t : mm_T := (⟨"RootCompass$Numbers", "quotient", "(II)I"⟩, prog_3_method_10_code, 4, (some .int), 0, mp_N_quotient)
def mp_N_plus : mm_P := ([(0, .aload_n 0, 1), (1, .aload_n 0, 1), (2, .getfield 51, 3), (5, .iload_n 1, 1), (6, .iload_n 2, 1), (7, .invokevirtual 54, 3), (10, .ireturn, 1)],
  [(51, 1, 4, 0)],
  [],
  [(54, 142, 4, 1)],
  [])
def mp_N_plus_t : mm_T := (⟨"RootCompass$Numbers", "plus", "(II)I"⟩, prog_3_method_11_code, 3, (some .int), 0, mp_N_plus)
def mp_N_minus : mm_P := ([(0, .aload_n 0, 1), (1, .aload_n 0, 1), (2, .getfield 51, 3), (5, .iload_n 1, 1), (6, .aload_n 0, 1), (7, .aload_n 0, 1), (8, .getfield 51, 3), (11, .iload_n 2, 1), (12, .invokevirtual 58, 3), (15, .invokevirtual 54, 3), (18, .ireturn, 1)],
  [(51, 1, 4, 0)],
  [],
  [(54, 142, 4, 1), (58, 143, 3, 1)],
  [])
def mp_N_minus_t : mm_T := (⟨"RootCompass$Numbers", "minus", "(II)I"⟩, prog_3_method_12_code, 3, (some .int), 0, mp_N_minus)
def mp_N_times : mm_P := ([(0, .aload_n 0, 1), (1, .aload_n 0, 1), (2, .getfield 51, 3), (5, .iload_n 1, 1), (6, .iload_n 2, 1), (7, .invokevirtual 61, 3), (10, .ireturn, 1)],
  [(51, 1, 4, 0)],
  [],
  [(61, 145, 4, 1)],
  [])
def mp_N_times_t : mm_T := (⟨"RootCompass$Numbers", "times", "(II)I"⟩, prog_3_method_13_code, 3, (some .int), 0, mp_N_times)
def mp_N_negated : mm_P := ([(0, .aload_n 0, 1), (1, .aload_n 0, 1), (2, .getfield 51, 3), (5, .iload_n 1, 1), (6, .invokevirtual 58, 3), (9, .ireturn, 1)],
  [(51, 1, 4, 0)],
  [],
  [(58, 143, 3, 1)],
  [])
def mp_N_negated_t : mm_T := (⟨"RootCompass$Numbers", "negated", "(I)I"⟩, prog_3_method_14_code, 2, (some .int), 0, mp_N_negated)
def mp_N_halved : mm_P := ([(0, .aload_n 0, 1), (1, .aload_n 0, 1), (2, .getfield 51, 3), (5, .iload_n 1, 1), (6, .invokevirtual 64, 3), (9, .ireturn, 1)],
  [(51, 1, 4, 0)],
  [],
  [(64, 144, 3, 1)],
  [])
def mp_N_halved_t : mm_T := (⟨"RootCompass$Numbers", "halved", "(I)I"⟩, prog_3_method_15_code, 2, (some .int), 0, mp_N_halved)
def mp_N_inverted : mm_P := ([(0, .aload_n 0, 1), (1, .aload_n 0, 1), (2, .getfield 51, 3), (5, .iload_n 1, 1), (6, .invokevirtual 67, 3), (9, .ireturn, 1)],
  [(51, 1, 4, 0)],
  [],
  [(67, 146, 3, 1)],
  [])
def mp_N_inverted_t : mm_T := (⟨"RootCompass$Numbers", "inverted", "(I)I"⟩, prog_3_method_16_code, 2, (some .int), 0, mp_N_inverted)
def mp_N_signum : mm_P := ([(0, .aload_n 0, 1), (1, .aload_n 0, 1), (2, .getfield 51, 3), (5, .iload_n 1, 1), (6, .invokevirtual 70, 3), (9, .ireturn, 1)],
  [(51, 1, 4, 0)],
  [],
  [(70, 147, 3, 1)],
  [])
def mp_N_signum_t : mm_T := (⟨"RootCompass$Numbers", "signum", "(I)I"⟩, prog_3_method_17_code, 2, (some .int), 0, mp_N_signum)
def mp_N_takeRoot : mm_P := ([(0, .aload_n 0, 1), (1, .aload_n 0, 1), (2, .getfield 51, 3), (5, .iload_n 1, 1), (6, .invokevirtual 70, 3), (9, .ifCond .ge 8, 3), (12, .aload_n 0, 1), (13, .iconst 1, 1), (14, .putfield 25, 3), (17, .aload_n 0, 1), (18, .getfield 25, 3), (21, .ifCond .eq 7, 3), (24, .iconst (-1), 1), (25, .goto 12, 3), (28, .aload_n 0, 1), (29, .aload_n 0, 1), (30, .getfield 51, 3), (33, .iload_n 1, 1), (34, .invokevirtual 73, 3), (37, .istore_n 2, 1), (38, .iload_n 2, 1), (39, .iconst (-1), 1), (40, .if_icmp .eq 5, 3), (43, .iload_n 2, 1), (44, .ireturn, 1), (45, .aload_n 0, 1), (46, .getfield 51, 3), (49, .iconst 2, 1), (50, .if_icmp .ne 8, 3), (53, .aload_n 0, 1), (54, .iconst 1, 1), (55, .putfield 25, 3), (58, .aload_n 0, 1), (59, .getfield 25, 3), (62, .ifCond .eq 10, 3), (65, .aload_n 0, 1), (66, .invokevirtual 43, 3), (69, .goto 8, 3), (72, .aload_n 0, 1), (73, .iload_n 1, 1), (74, .invokevirtual 76, 3), (77, .ireturn, 1)],
  [(25, 1, 5, 1), (51, 1, 4, 0)],
  [],
  [(43, 138, 1, 1), (70, 147, 3, 1), (73, 148, 3, 1), (76, 137, 2, 1)],
  [])
def mp_N_takeRoot_t : mm_T := (⟨"RootCompass$Numbers", "takeRoot", "(I)I"⟩, prog_3_method_18_code, 3, (some .int), 0, mp_N_takeRoot)
def mp_N_newLevel : mm_P := ([(0, .aload_n 0, 1), (1, .iload_n 1, 1), (2, .aload_n 0, 1), (3, .getfield 51, 3), (6, .iconst 1, 1), (7, .iadd, 1), (8, .invokestatic 80, 3), (11, .invokevirtual 83, 3), (14, .aload_n 0, 1), (15, .invokevirtual 43, 3), (18, .istore_n 2, 1), (19, .aload_n 0, 1), (20, .getfield 15, 3), (23, .iload_n 2, 1), (24, .iconst 1, 1), (25, .aload_n 0, 1), (26, .getfield 51, 3), (29, .ishl, 1), (30, .iadd, 1), (31, .iconst 1, 1), (32, .iastore, 1), (33, .aload_n 0, 1), (34, .dup, 1), (35, .getfield 51, 3), (38, .iconst 1, 1), (39, .iadd, 1), (40, .putfield 51, 3), (43, .iload_n 2, 1), (44, .ireturn, 1)],
  [(15, 1, 0, 2), (51, 1, 4, 0)],
  [],
  [(43, 138, 1, 1), (80, 120, 1, 99), (83, 124, 3, 1)],
  [])
def mp_N_newLevel_t : mm_T := (⟨"RootCompass$Numbers", "newLevel", "(I)I"⟩, prog_3_method_19_code, 3, (some .int), 0, mp_N_newLevel)
def mp_N_reserve : mm_P := ([(0, .aload_n 0, 1), (1, .getfield 22, 3), (4, .iconst 4, 1), (5, .iadd, 1), (6, .aload_n 0, 1), (7, .getfield 15, 3), (10, .arraylength, 1), (11, .if_icmp .le 16, 3), (14, .aload_n 0, 1), (15, .iconst 1, 1), (16, .putfield 25, 3), (19, .aload_n 0, 1), (20, .aload_n 0, 1), (21, .getfield 11, 3), (24, .putfield 22, 3), (27, .aload_n 0, 1), (28, .getfield 22, 3), (31, .istore_n 1, 1), (32, .aload_n 0, 1), (33, .dup, 1), (34, .getfield 22, 3), (37, .iconst 4, 1), (38, .iadd, 1), (39, .putfield 22, 3), (42, .iload_n 1, 1), (43, .istore_n 2, 1), (44, .iload_n 2, 1), (45, .aload_n 0, 1), (46, .getfield 22, 3), (49, .if_icmp .ge 23, 3), (52, .aload_n 0, 1), (53, .getfield 15, 3), (56, .iload_n 2, 1), (57, .iconst 0, 1), (58, .iastore, 1), (59, .aload_n 0, 1), (60, .getfield 19, 3), (63, .iload_n 2, 1), (64, .iconst 1, 1), (65, .iastore, 1), (66, .iinc 2 1, 3), (69, .goto (-25), 3), (72, .iload_n 1, 1), (73, .ireturn, 1)],
  [(11, 1, 2, 2), (15, 1, 0, 2), (19, 1, 1, 2), (22, 1, 3, 0), (25, 1, 5, 1)],
  [],
  [],
  [])
def mp_N_reserve_t : mm_T := (⟨"RootCompass$Numbers", "reserve", "()I"⟩, prog_3_method_20_code, 3, (some .int), 0, mp_N_reserve)
def mp_N_put : mm_P := ([(0, .lload_n 2, 1), (1, .lconst 0, 1), (2, .lcmp, 1), (3, .ifCond .eq 10, 3), (6, .aload_n 0, 1), (7, .getfield 25, 3), (10, .ifCond .eq 4, 3), (13, .return_, 1), (14, .lload_n 2, 1), (15, .lconst 0, 1), (16, .lcmp, 1), (17, .ifCond .ge 8, 3), (20, .lload_n 2, 1), (21, .lneg, 1), (22, .goto 4, 3), (25, .lload_n 2, 1), (26, .lstore 6, 2), (28, .lload 4, 2), (30, .lstore 8, 2), (32, .iconst 0, 1), (33, .istore 10, 2), (35, .iload 10, 2), (37, .bipush 100, 2), (39, .if_icmp .ge 31, 3), (42, .lload 8, 2), (44, .lconst 0, 1), (45, .lcmp, 1), (46, .ifCond .eq 24, 3), (49, .lload 6, 2), (51, .lload 8, 2), (53, .lrem, 1), (54, .lstore 11, 2), (56, .lload 8, 2), (58, .lstore 6, 2), (60, .lload 11, 2), (62, .lstore 8, 2), (64, .iinc 10 1, 3), (67, .goto (-32), 3), (70, .lload 6, 2), (72, .lconst 0, 1), (73, .lcmp, 1), (74, .ifCond .ne 4, 3), (77, .return_, 1), (78, .lload_n 2, 1), (79, .lload 6, 2), (81, .ldiv, 1), (82, .lstore 10, 2), (84, .lload 4, 2), (86, .lload 6, 2), (88, .ldiv, 1), (89, .lstore 12, 2), (91, .lload 10, 2), (93, .ldc2_w 87, 3), (96, .lcmp, 1), (97, .ifCond .gt 21, 3), (100, .lload 10, 2), (102, .ldc2_w 89, 3), (105, .lcmp, 1), (106, .ifCond .lt 12, 3), (109, .lload 12, 2), (111, .ldc2_w 87, 3), (114, .lcmp, 1), (115, .ifCond .le 9, 3), (118, .aload_n 0, 1), (119, .iconst 1, 1), (120, .putfield 25, 3), (123, .return_, 1), (124, .aload_n 0, 1), (125, .getfield 15, 3), (128, .iload_n 1, 1), (129, .lload 10, 2), (131, .l2i, 1), (132, .iastore, 1), (133, .aload_n 0, 1), (134, .getfield 19, 3), (137, .iload_n 1, 1), (138, .lload 12, 2), (140, .l2i, 1), (141, .iastore, 1), (142, .return_, 1)],
  [(15, 1, 0, 2), (19, 1, 1, 2), (25, 1, 5, 1)],
  [(87, .long 2147483647), (89, .long (-2147483647))],
  [],
  [])
def mp_N_put_t : mm_T := (⟨"RootCompass$Numbers", "put", "(IJJ)V"⟩, prog_3_method_21_code, 14, none, 0, mp_N_put)
def mp_N_pair : mm_P := ([(0, .iconst 1, 1), (1, .iload_n 1, 1), (2, .ishl, 1), (3, .istore 5, 2), (5, .aload_n 0, 1), (6, .getfield 15, 3), (9, .iload_n 3, 1), (10, .aload_n 0, 1), (11, .getfield 15, 3), (14, .iload_n 2, 1), (15, .iload 5, 2), (17, .invokestatic 29, 3), (20, .aload_n 0, 1), (21, .getfield 19, 3), (24, .iload_n 3, 1), (25, .aload_n 0, 1), (26, .getfield 19, 3), (29, .iload_n 2, 1), (30, .iload 5, 2), (32, .invokestatic 29, 3), (35, .aload_n 0, 1), (36, .getfield 15, 3), (39, .iload 4, 2), (41, .aload_n 0, 1), (42, .getfield 15, 3), (45, .iload_n 2, 1), (46, .iload 5, 2), (48, .iadd, 1), (49, .iload 5, 2), (51, .invokestatic 29, 3), (54, .aload_n 0, 1), (55, .getfield 19, 3), (58, .iload 4, 2), (60, .aload_n 0, 1), (61, .getfield 19, 3), (64, .iload_n 2, 1), (65, .iload 5, 2), (67, .iadd, 1), (68, .iload 5, 2), (70, .invokestatic 29, 3), (73, .aload_n 0, 1), (74, .iload_n 2, 1), (75, .iconst 4, 1), (76, .iadd, 1), (77, .putfield 22, 3), (80, .iload_n 2, 1), (81, .ireturn, 1)],
  [(15, 1, 0, 2), (19, 1, 1, 2), (22, 1, 3, 0)],
  [],
  [(29, 0, 5, 98)],
  [])
def mp_N_pair_t : mm_T := (⟨"RootCompass$Numbers", "pair", "(IIII)I"⟩, prog_3_method_22_code, 6, (some .int), 0, mp_N_pair)
def mp_N_isZero : mm_P := ([(0, .iconst 0, 1), (1, .istore_n 3, 1), (2, .iload_n 3, 1), (3, .iconst 1, 1), (4, .iload_n 1, 1), (5, .ishl, 1), (6, .if_icmp .ge 22, 3), (9, .aload_n 0, 1), (10, .getfield 15, 3), (13, .iload_n 2, 1), (14, .iload_n 3, 1), (15, .iadd, 1), (16, .iaload, 1), (17, .ifCond .eq 5, 3), (20, .iconst 0, 1), (21, .ireturn, 1), (22, .iinc 3 1, 3), (25, .goto (-23), 3), (28, .iconst 1, 1), (29, .ireturn, 1)],
  [(15, 1, 0, 2)],
  [],
  [],
  [])
def mp_N_isZero_t : mm_T := (⟨"RootCompass$Numbers", "isZero", "(II)Z"⟩, prog_3_method_23_code, 4, (some .boolean), 0, mp_N_isZero)
def mp_N_sum : mm_P := ([(0, .aload_n 0, 1), (1, .invokevirtual 43, 3), (4, .istore 4, 2), (6, .iconst 0, 1), (7, .istore 5, 2), (9, .iload 5, 2), (11, .iconst 1, 1), (12, .iload_n 1, 1), (13, .ishl, 1), (14, .if_icmp .ge 90, 3), (17, .aload_n 0, 1), (18, .getfield 15, 3), (21, .iload_n 2, 1), (22, .iload 5, 2), (24, .iadd, 1), (25, .iaload, 1), (26, .i2l, 1), (27, .aload_n 0, 1), (28, .getfield 19, 3), (31, .iload_n 3, 1), (32, .iload 5, 2), (34, .iadd, 1), (35, .iaload, 1), (36, .i2l, 1), (37, .lmul, 1), (38, .lstore 6, 2), (40, .aload_n 0, 1), (41, .getfield 15, 3), (44, .iload_n 3, 1), (45, .iload 5, 2), (47, .iadd, 1), (48, .iaload, 1), (49, .i2l, 1), (50, .aload_n 0, 1), (51, .getfield 19, 3), (54, .iload_n 2, 1), (55, .iload 5, 2), (57, .iadd, 1), (58, .iaload, 1), (59, .i2l, 1), (60, .lmul, 1), (61, .lstore 8, 2), (63, .aload_n 0, 1), (64, .iload 4, 2), (66, .iload 5, 2), (68, .iadd, 1), (69, .lload 6, 2), (71, .lload 8, 2), (73, .ladd, 1), (74, .aload_n 0, 1), (75, .getfield 19, 3), (78, .iload_n 2, 1), (79, .iload 5, 2), (81, .iadd, 1), (82, .iaload, 1), (83, .i2l, 1), (84, .aload_n 0, 1), (85, .getfield 19, 3), (88, .iload_n 3, 1), (89, .iload 5, 2), (91, .iadd, 1), (92, .iaload, 1), (93, .i2l, 1), (94, .lmul, 1), (95, .invokevirtual 47, 3), (98, .iinc 5 1, 3), (101, .goto (-92), 3), (104, .iload 4, 2), (106, .ireturn, 1)],
  [(15, 1, 0, 2), (19, 1, 1, 2)],
  [],
  [(43, 138, 1, 1), (47, 139, 4, 1)],
  [])
def mp_N_sum_t : mm_T := (⟨"RootCompass$Numbers", "sum", "(III)I"⟩, prog_3_method_24_code, 10, (some .int), 0, mp_N_sum)
def mp_N_negative : mm_P := ([(0, .aload_n 0, 1), (1, .invokevirtual 43, 3), (4, .istore_n 3, 1), (5, .iconst 0, 1), (6, .istore 4, 2), (8, .iload 4, 2), (10, .iconst 1, 1), (11, .iload_n 1, 1), (12, .ishl, 1), (13, .if_icmp .ge 46, 3), (16, .aload_n 0, 1), (17, .getfield 15, 3), (20, .iload_n 3, 1), (21, .iload 4, 2), (23, .iadd, 1), (24, .aload_n 0, 1), (25, .getfield 15, 3), (28, .iload_n 2, 1), (29, .iload 4, 2), (31, .iadd, 1), (32, .iaload, 1), (33, .ineg, 1), (34, .iastore, 1), (35, .aload_n 0, 1), (36, .getfield 19, 3), (39, .iload_n 3, 1), (40, .iload 4, 2), (42, .iadd, 1), (43, .aload_n 0, 1), (44, .getfield 19, 3), (47, .iload_n 2, 1), (48, .iload 4, 2), (50, .iadd, 1), (51, .iaload, 1), (52, .iastore, 1), (53, .iinc 4 1, 3), (56, .goto (-48), 3), (59, .iload_n 3, 1), (60, .ireturn, 1)],
  [(15, 1, 0, 2), (19, 1, 1, 2)],
  [],
  [(43, 138, 1, 1)],
  [])
def mp_N_negative_t : mm_T := (⟨"RootCompass$Numbers", "negative", "(II)I"⟩, prog_3_method_25_code, 5, (some .int), 0, mp_N_negative)
def mp_N_half : mm_P := ([(0, .aload_n 0, 1), (1, .invokevirtual 43, 3), (4, .istore_n 3, 1), (5, .iconst 0, 1), (6, .istore 4, 2), (8, .iload 4, 2), (10, .iconst 1, 1), (11, .iload_n 1, 1), (12, .ishl, 1), (13, .if_icmp .ge 41, 3), (16, .aload_n 0, 1), (17, .iload_n 3, 1), (18, .iload 4, 2), (20, .iadd, 1), (21, .aload_n 0, 1), (22, .getfield 15, 3), (25, .iload_n 2, 1), (26, .iload 4, 2), (28, .iadd, 1), (29, .iaload, 1), (30, .i2l, 1), (31, .ldc2_w 91, 3), (34, .aload_n 0, 1), (35, .getfield 19, 3), (38, .iload_n 2, 1), (39, .iload 4, 2), (41, .iadd, 1), (42, .iaload, 1), (43, .i2l, 1), (44, .lmul, 1), (45, .invokevirtual 47, 3), (48, .iinc 4 1, 3), (51, .goto (-43), 3), (54, .iload_n 3, 1), (55, .ireturn, 1)],
  [(15, 1, 0, 2), (19, 1, 1, 2)],
  [(91, .long 2)],
  [(43, 138, 1, 1), (47, 139, 4, 1)],
  [])
def mp_N_half_t : mm_T := (⟨"RootCompass$Numbers", "half", "(II)I"⟩, prog_3_method_26_code, 5, (some .int), 0, mp_N_half)
def mp_N_product : mm_P := ([(0, .aload_n 0, 1), (1, .invokevirtual 43, 3), (4, .istore 4, 2), (6, .aload_n 0, 1), (7, .iload_n 1, 1), (8, .iload_n 2, 1), (9, .invokevirtual 35, 3), (12, .ifCond .ne 12, 3), (15, .aload_n 0, 1), (16, .iload_n 1, 1), (17, .iload_n 3, 1), (18, .invokevirtual 35, 3), (21, .ifCond .eq 6, 3), (24, .iload 4, 2), (26, .ireturn, 1), (27, .iload_n 1, 1), (28, .ifCond .gt 42, 3), (31, .aload_n 0, 1), (32, .iload 4, 2), (34, .aload_n 0, 1), (35, .getfield 15, 3), (38, .iload_n 2, 1), (39, .iaload, 1), (40, .i2l, 1), (41, .aload_n 0, 1), (42, .getfield 15, 3), (45, .iload_n 3, 1), (46, .iaload, 1), (47, .i2l, 1), (48, .lmul, 1), (49, .aload_n 0, 1), (50, .getfield 19, 3), (53, .iload_n 2, 1), (54, .iaload, 1), (55, .i2l, 1), (56, .aload_n 0, 1), (57, .getfield 19, 3), (60, .iload_n 3, 1), (61, .iaload, 1), (62, .i2l, 1), (63, .lmul, 1), (64, .invokevirtual 47, 3), (67, .iload 4, 2), (69, .ireturn, 1), (70, .iload_n 1, 1), (71, .iconst 1, 1), (72, .isub, 1), (73, .istore 5, 2), (75, .iload_n 2, 1), (76, .iconst 1, 1), (77, .iload 5, 2), (79, .ishl, 1), (80, .iadd, 1), (81, .istore 6, 2), (83, .iload_n 3, 1), (84, .iconst 1, 1), (85, .iload 5, 2), (87, .ishl, 1), (88, .iadd, 1), (89, .istore 7, 2), (91, .aload_n 0, 1), (92, .iload 5, 2), (94, .aload_n 0, 1), (95, .iload 5, 2), (97, .iload 6, 2), (99, .iload 7, 2), (101, .invokevirtual 61, 3), (104, .iload_n 1, 1), (105, .invokestatic 80, 3), (108, .invokevirtual 61, 3), (111, .istore 8, 2), (113, .aload_n 0, 1), (114, .iload 5, 2), (116, .aload_n 0, 1), (117, .iload 5, 2), (119, .iload_n 2, 1), (120, .iload_n 3, 1), (121, .invokevirtual 61, 3), (124, .iload 8, 2), (126, .invokevirtual 54, 3), (129, .istore 9, 2), (131, .aload_n 0, 1), (132, .iload 5, 2), (134, .aload_n 0, 1), (135, .iload 5, 2), (137, .iload_n 2, 1), (138, .iload 7, 2), (140, .invokevirtual 61, 3), (143, .aload_n 0, 1), (144, .iload 5, 2), (146, .iload 6, 2), (148, .iload_n 3, 1), (149, .invokevirtual 61, 3), (152, .invokevirtual 54, 3), (155, .istore 10, 2), (157, .aload_n 0, 1), (158, .iload 5, 2), (160, .iload 4, 2), (162, .iload 9, 2), (164, .iload 10, 2), (166, .invokevirtual 93, 3), (169, .ireturn, 1)],
  [(15, 1, 0, 2), (19, 1, 1, 2)],
  [],
  [(35, 141, 3, 1), (43, 138, 1, 1), (47, 139, 4, 1), (54, 142, 4, 1), (61, 145, 4, 1), (80, 120, 1, 99), (93, 140, 5, 1)],
  [])
def mp_N_product_t : mm_T := (⟨"RootCompass$Numbers", "product", "(III)I"⟩, prog_3_method_27_code, 11, (some .int), 0, mp_N_product)
def mp_N_inverse : mm_P := ([(0, .aload_n 0, 1), (1, .invokevirtual 43, 3), (4, .istore_n 3, 1), (5, .aload_n 0, 1), (6, .iload_n 1, 1), (7, .iload_n 2, 1), (8, .invokevirtual 35, 3), (11, .ifCond .eq 10, 3), (14, .aload_n 0, 1), (15, .iconst 1, 1), (16, .putfield 25, 3), (19, .iload_n 3, 1), (20, .ireturn, 1), (21, .iload_n 1, 1), (22, .ifCond .gt 67, 3), (25, .aload_n 0, 1), (26, .getfield 15, 3), (29, .iload_n 3, 1), (30, .aload_n 0, 1), (31, .getfield 15, 3), (34, .iload_n 2, 1), (35, .iaload, 1), (36, .ifCond .ge 13, 3), (39, .aload_n 0, 1), (40, .getfield 19, 3), (43, .iload_n 2, 1), (44, .iaload, 1), (45, .ineg, 1), (46, .goto 9, 3), (49, .aload_n 0, 1), (50, .getfield 19, 3), (53, .iload_n 2, 1), (54, .iaload, 1), (55, .iastore, 1), (56, .aload_n 0, 1), (57, .getfield 19, 3), (60, .iload_n 3, 1), (61, .aload_n 0, 1), (62, .getfield 15, 3), (65, .iload_n 2, 1), (66, .iaload, 1), (67, .ifCond .ge 13, 3), (70, .aload_n 0, 1), (71, .getfield 15, 3), (74, .iload_n 2, 1), (75, .iaload, 1), (76, .ineg, 1), (77, .goto 9, 3), (80, .aload_n 0, 1), (81, .getfield 15, 3), (84, .iload_n 2, 1), (85, .iaload, 1), (86, .iastore, 1), (87, .iload_n 3, 1), (88, .ireturn, 1), (89, .iload_n 1, 1), (90, .iconst 1, 1), (91, .isub, 1), (92, .istore 4, 2), (94, .iload_n 2, 1), (95, .iconst 1, 1), (96, .iload 4, 2), (98, .ishl, 1), (99, .iadd, 1), (100, .istore 5, 2), (102, .aload_n 0, 1), (103, .iload 4, 2), (105, .aload_n 0, 1), (106, .iload 4, 2), (108, .iload 5, 2), (110, .iload 5, 2), (112, .invokevirtual 61, 3), (115, .iload_n 1, 1), (116, .invokestatic 80, 3), (119, .invokevirtual 61, 3), (122, .istore 6, 2), (124, .aload_n 0, 1), (125, .iload 4, 2), (127, .aload_n 0, 1), (128, .iload 4, 2), (130, .aload_n 0, 1), (131, .iload 4, 2), (133, .iload_n 2, 1), (134, .iload_n 2, 1), (135, .invokevirtual 61, 3), (138, .aload_n 0, 1), (139, .iload 4, 2), (141, .iload 6, 2), (143, .invokevirtual 58, 3), (146, .invokevirtual 54, 3), (149, .invokevirtual 67, 3), (152, .istore 7, 2), (154, .aload_n 0, 1), (155, .iload 4, 2), (157, .iload_n 3, 1), (158, .aload_n 0, 1), (159, .iload 4, 2), (161, .iload_n 2, 1), (162, .iload 7, 2), (164, .invokevirtual 61, 3), (167, .aload_n 0, 1), (168, .iload 4, 2), (170, .aload_n 0, 1), (171, .iload 4, 2), (173, .iload 5, 2), (175, .invokevirtual 58, 3), (178, .iload 7, 2), (180, .invokevirtual 61, 3), (183, .invokevirtual 93, 3), (186, .ireturn, 1)],
  [(15, 1, 0, 2), (19, 1, 1, 2), (25, 1, 5, 1)],
  [],
  [(35, 141, 3, 1), (43, 138, 1, 1), (54, 142, 4, 1), (58, 143, 3, 1), (61, 145, 4, 1), (67, 146, 3, 1), (80, 120, 1, 99), (93, 140, 5, 1)],
  [])
def mp_N_inverse_t : mm_T := (⟨"RootCompass$Numbers", "inverse", "(II)I"⟩, prog_3_method_28_code, 8, (some .int), 0, mp_N_inverse)
def mp_N_signOf : mm_P := ([(0, .iload_n 1, 1), (1, .ifCond .gt 14, 3), (4, .aload_n 0, 1), (5, .getfield 15, 3), (8, .iload_n 2, 1), (9, .iaload, 1), (10, .iconst 0, 1), (11, .invokestatic 97, 3), (14, .ireturn, 1), (15, .iload_n 1, 1), (16, .iconst 1, 1), (17, .isub, 1), (18, .istore_n 3, 1), (19, .iload_n 2, 1), (20, .iconst 1, 1), (21, .iload_n 3, 1), (22, .ishl, 1), (23, .iadd, 1), (24, .istore 4, 2), (26, .aload_n 0, 1), (27, .iload_n 3, 1), (28, .iload_n 2, 1), (29, .invokevirtual 70, 3), (32, .istore 5, 2), (34, .aload_n 0, 1), (35, .iload_n 3, 1), (36, .iload 4, 2), (38, .invokevirtual 70, 3), (41, .istore 6, 2), (43, .iload 6, 2), (45, .ifCond .eq 10, 3), (48, .iload 6, 2), (50, .iload 5, 2), (52, .if_icmp .ne 6, 3), (55, .iload 5, 2), (57, .ireturn, 1), (58, .iload 5, 2), (60, .ifCond .ne 6, 3), (63, .iload 6, 2), (65, .ireturn, 1), (66, .aload_n 0, 1), (67, .iload_n 3, 1), (68, .aload_n 0, 1), (69, .iload_n 3, 1), (70, .iload 4, 2), (72, .iload 4, 2), (74, .invokevirtual 61, 3), (77, .iload_n 1, 1), (78, .invokestatic 80, 3), (81, .invokevirtual 61, 3), (84, .istore 7, 2), (86, .iload 5, 2), (88, .aload_n 0, 1), (89, .iload_n 3, 1), (90, .aload_n 0, 1), (91, .iload_n 3, 1), (92, .aload_n 0, 1), (93, .iload_n 3, 1), (94, .iload_n 2, 1), (95, .iload_n 2, 1), (96, .invokevirtual 61, 3), (99, .aload_n 0, 1), (100, .iload_n 3, 1), (101, .iload 7, 2), (103, .invokevirtual 58, 3), (106, .invokevirtual 54, 3), (109, .invokevirtual 70, 3), (112, .imul, 1), (113, .ireturn, 1)],
  [(15, 1, 0, 2)],
  [],
  [(54, 142, 4, 1), (58, 143, 3, 1), (61, 145, 4, 1), (70, 147, 3, 1), (80, 120, 1, 99), (97, 151, 2, 99)],
  [])
def mp_N_signOf_t : mm_T := (⟨"RootCompass$Numbers", "signOf", "(II)I"⟩, prog_3_method_29_code, 8, (some .int), 0, mp_N_signOf)
def mp_N_root : mm_P := ([(0, .iload_n 1, 1), (1, .ifCond .gt 9, 3), (4, .aload_n 0, 1), (5, .iload_n 2, 1), (6, .invokevirtual 102, 3), (9, .ireturn, 1), (10, .iload_n 1, 1), (11, .iconst 1, 1), (12, .isub, 1), (13, .istore_n 3, 1), (14, .iload_n 2, 1), (15, .iconst 1, 1), (16, .iload_n 3, 1), (17, .ishl, 1), (18, .iadd, 1), (19, .istore 4, 2), (21, .aload_n 0, 1), (22, .iload_n 3, 1), (23, .iload 4, 2), (25, .invokevirtual 35, 3), (28, .ifCond .eq 81, 3), (31, .aload_n 0, 1), (32, .iload_n 3, 1), (33, .iload_n 2, 1), (34, .invokevirtual 73, 3), (37, .istore 5, 2), (39, .iload 5, 2), (41, .iconst (-1), 1), (42, .if_icmp .eq 19, 3), (45, .aload_n 0, 1), (46, .iload_n 3, 1), (47, .aload_n 0, 1), (48, .invokevirtual 43, 3), (51, .iload 5, 2), (53, .aload_n 0, 1), (54, .invokevirtual 43, 3), (57, .invokevirtual 93, 3), (60, .ireturn, 1), (61, .aload_n 0, 1), (62, .iload_n 3, 1), (63, .aload_n 0, 1), (64, .iload_n 3, 1), (65, .iload_n 2, 1), (66, .aload_n 0, 1), (67, .iload_n 3, 1), (68, .iload_n 1, 1), (69, .invokestatic 80, 3), (72, .invokevirtual 67, 3), (75, .invokevirtual 61, 3), (78, .invokevirtual 73, 3), (81, .istore 6, 2), (83, .iload 6, 2), (85, .iconst (-1), 1), (86, .if_icmp .ne 7, 3), (89, .iconst (-1), 1), (90, .goto 18, 3), (93, .aload_n 0, 1), (94, .iload_n 3, 1), (95, .aload_n 0, 1), (96, .invokevirtual 43, 3), (99, .aload_n 0, 1), (100, .invokevirtual 43, 3), (103, .iload 6, 2), (105, .invokevirtual 93, 3), (108, .ireturn, 1), (109, .aload_n 0, 1), (110, .iload_n 3, 1), (111, .aload_n 0, 1), (112, .iload_n 3, 1), (113, .iload 4, 2), (115, .iload 4, 2), (117, .invokevirtual 61, 3), (120, .iload_n 1, 1), (121, .invokestatic 80, 3), (124, .invokevirtual 61, 3), (127, .istore 5, 2), (129, .aload_n 0, 1), (130, .iload_n 3, 1), (131, .aload_n 0, 1), (132, .iload_n 3, 1), (133, .iload_n 2, 1), (134, .iload_n 2, 1), (135, .invokevirtual 61, 3), (138, .aload_n 0, 1), (139, .iload_n 3, 1), (140, .iload 5, 2), (142, .invokevirtual 58, 3), (145, .invokevirtual 54, 3), (148, .istore 6, 2), (150, .aload_n 0, 1), (151, .iload_n 3, 1), (152, .iload 6, 2), (154, .invokevirtual 70, 3), (157, .ifCond .ge 7, 3), (160, .iconst (-1), 1), (161, .goto 10, 3), (164, .aload_n 0, 1), (165, .iload_n 3, 1), (166, .iload 6, 2), (168, .invokevirtual 73, 3), (171, .istore 7, 2), (173, .iload 7, 2), (175, .iconst (-1), 1), (176, .if_icmp .ne 5, 3), (179, .iconst (-1), 1), (180, .ireturn, 1), (181, .iconst 0, 1), (182, .istore 8, 2), (184, .iload 8, 2), (186, .iconst 2, 1), (187, .if_icmp .ge 129, 3), (190, .aload_n 0, 1), (191, .iload_n 3, 1), (192, .aload_n 0, 1), (193, .iload_n 3, 1), (194, .iload_n 2, 1), (195, .iload 8, 2), (197, .ifCond .ne 8, 3), (200, .iload 7, 2), (202, .goto 10, 3), (205, .aload_n 0, 1), (206, .iload_n 3, 1), (207, .iload 7, 2), (209, .invokevirtual 58, 3), (212, .invokevirtual 54, 3), (215, .invokevirtual 64, 3), (218, .istore 9, 2), (220, .aload_n 0, 1), (221, .iload_n 3, 1), (222, .iload 9, 2), (224, .invokevirtual 70, 3), (227, .ifCond .le 13, 3), (230, .aload_n 0, 1), (231, .iload_n 3, 1), (232, .iload 9, 2), (234, .invokevirtual 73, 3), (237, .goto 4, 3), (240, .iconst (-1), 1), (241, .istore 10, 2), (243, .iload 10, 2), (245, .iconst (-1), 1), (246, .if_icmp .eq 64, 3), (249, .aload_n 0, 1), (250, .iload_n 3, 1), (251, .iload 4, 2), (253, .aload_n 0, 1), (254, .iload_n 3, 1), (255, .aload_n 0, 1), (256, .iload_n 3, 1), (257, .iload 10, 2), (259, .iload 10, 2), (261, .invokevirtual 54, 3), (264, .invokevirtual 67, 3), (267, .invokevirtual 61, 3), (270, .istore 11, 2), (272, .aload_n 0, 1), (273, .iload_n 3, 1), (274, .aload_n 0, 1), (275, .invokevirtual 43, 3), (278, .iload 10, 2), (280, .iload 11, 2), (282, .invokevirtual 93, 3), (285, .istore 12, 2), (287, .aload_n 0, 1), (288, .iload_n 1, 1), (289, .iload 12, 2), (291, .invokevirtual 70, 3), (294, .ifCond .ge 13, 3), (297, .aload_n 0, 1), (298, .iload_n 1, 1), (299, .iload 12, 2), (301, .invokevirtual 58, 3), (304, .goto 5, 3), (307, .iload 12, 2), (309, .ireturn, 1), (310, .iinc 8 1, 3), (313, .goto (-129), 3), (316, .iconst (-1), 1), (317, .ireturn, 1)],
  [],
  [],
  [(35, 141, 3, 1), (43, 138, 1, 1), (54, 142, 4, 1), (58, 143, 3, 1), (61, 145, 4, 1), (64, 144, 3, 1), (67, 146, 3, 1), (70, 147, 3, 1), (73, 148, 3, 1), (80, 120, 1, 99), (93, 140, 5, 1), (102, 149, 2, 1)],
  [])
def mp_N_root_t : mm_T := (⟨"RootCompass$Numbers", "root", "(II)I"⟩, prog_3_method_30_code, 13, (some .int), 0, mp_N_root)
def mp_N_rootOfFraction : mm_P := ([(0, .aload_n 0, 1), (1, .getfield 15, 3), (4, .iload_n 1, 1), (5, .iaload, 1), (6, .invokestatic 105, 3), (9, .istore_n 2, 1), (10, .aload_n 0, 1), (11, .getfield 19, 3), (14, .iload_n 1, 1), (15, .iaload, 1), (16, .invokestatic 105, 3), (19, .istore_n 3, 1), (20, .iload_n 2, 1), (21, .iconst (-1), 1), (22, .if_icmp .eq 8, 3), (25, .iload_n 3, 1), (26, .iconst (-1), 1), (27, .if_icmp .ne 5, 3), (30, .iconst (-1), 1), (31, .ireturn, 1), (32, .aload_n 0, 1), (33, .invokevirtual 43, 3), (36, .istore 4, 2), (38, .aload_n 0, 1), (39, .getfield 15, 3), (42, .iload 4, 2), (44, .iload_n 2, 1), (45, .iastore, 1), (46, .aload_n 0, 1), (47, .getfield 19, 3), (50, .iload 4, 2), (52, .iload_n 3, 1), (53, .iastore, 1), (54, .iload 4, 2), (56, .ireturn, 1)],
  [(15, 1, 0, 2), (19, 1, 1, 2)],
  [],
  [(43, 138, 1, 1), (105, 150, 1, 99)],
  [])
def mp_N_rootOfFraction_t : mm_T := (⟨"RootCompass$Numbers", "rootOfFraction", "(I)I"⟩, prog_3_method_31_code, 5, (some .int), 0, mp_N_rootOfFraction)
def mp_N_rootOfWhole : mm_P := ([(0, .iconst 0, 1), (1, .istore_n 1, 1), (2, .ldc 108, 2), (4, .istore_n 2, 1), (5, .iload_n 2, 1), (6, .ifCond .le 28, 3), (9, .iload_n 1, 1), (10, .iload_n 2, 1), (11, .iadd, 1), (12, .i2l, 1), (13, .lstore_n 3, 1), (14, .lload_n 3, 1), (15, .lload_n 3, 1), (16, .lmul, 1), (17, .iload_n 0, 1), (18, .i2l, 1), (19, .lcmp, 1), (20, .ifCond .gt 7, 3), (23, .iload_n 1, 1), (24, .iload_n 2, 1), (25, .iadd, 1), (26, .istore_n 1, 1), (27, .iload_n 2, 1), (28, .iconst 1, 1), (29, .ishr, 1), (30, .istore_n 2, 1), (31, .goto (-26), 3), (34, .iload_n 1, 1), (35, .iload_n 1, 1), (36, .imul, 1), (37, .iload_n 0, 1), (38, .if_icmp .ne 7, 3), (41, .iload_n 1, 1), (42, .goto 4, 3), (45, .iconst (-1), 1), (46, .ireturn, 1)],
  [],
  [(108, .int 32768)],
  [],
  [])
def mp_N_rootOfWhole_t : mm_T := (⟨"RootCompass$Numbers", "rootOfWhole", "(I)I"⟩, prog_3_method_32_code, 5, (some .int), 0, mp_N_rootOfWhole)
def mp_J_compare : mm_P := ([(0, .iload_n 0, 1), (1, .iload_n 1, 1), (2, .if_icmp .ge 7, 3), (5, .iconst (-1), 1), (6, .goto 13, 3), (9, .iload_n 0, 1), (10, .iload_n 1, 1), (11, .if_icmp .ne 7, 3), (14, .iconst 0, 1), (15, .goto 4, 3), (18, .iconst 1, 1), (19, .ireturn, 1)],
  [],
  [],
  [],
  [])
def mp_J_compare_t : mm_T := (⟨"java/lang/Integer", "compare", "(II)I"⟩, prog_10_method_40_code, 2, (some .int), 0, mp_J_compare)
def mm_T0 : List mm_T := [mp_C_free_t, mp_C_line_t, mp_C_circle_t, mp_C_middle_t, mp_C_meet_t, mp_C_move_t, mp_C_undo_t, mp_C_on_t, mp_C_same_t, mp_C_equal_t, mp_C_angle_t, mp_C_side_t, mp_C_sign_t, mp_C_part_t, mp_C_radicand_t, mp_C_kind_t, mp_C_look_t, mp_C_countFreePoints_t, mp_C_isPoint_t, mp_C_isLine_t]
def mm_T1 : List mm_T := [mp_C_isCircle_t, mp_C_isCurve_t, mp_C_isPlace_t, mp_C_isInput_t, mp_C_addStep_t, mp_C_settle_t, mp_C_refuseTooWide_t, mp_C_redraw_t, mp_C_drawLine_t, mp_C_drawCircle_t, mp_C_drawMiddle_t, mp_C_drawMeetingOfLines_t, mp_C_takeLine_t, mp_C_takeCommonLine_t, mp_C_measureCut_t, mp_C_drawCut_t, mp_C_liesOnLine_t, mp_C_coincide_t, mp_C_squareOfDistance_t, mp_C_place_t]
def mm_T2 : List mm_T := [mp_C_copyPlace_t, mp_C_xOf_t, mp_C_yOf_t, mp_C_lineA_t, mp_C_lineB_t, mp_C_lineC_t, mp_C_squareOf_t, mp_M_thrown_t, mp_M_divisor_t, mp_M_put_t, mp_M_add0_t, mp_M_sub0_t, mp_M_mul0_t, mp_M_neg0_t, mp_M_inv0_t, mp_M_sign0_t, mp_M_square_t, mp_M_root0_t, mp_M_set_t, mp_M_add_t]
def mm_T3 : List mm_T := [mp_M_sub_t, mp_M_neg_t, mp_M_halve_t, mp_M_isZero_t, mp_M_alike_t, mp_M_clear_t, mp_M_mul1_t, mp_M_norm1_t, mp_M_inv1_t, mp_M_sign1_t, mp_M_half1_t, mp_M_root1_t, mp_M_mul2_t, mp_M_norm2_t, mp_M_inv2_t, mp_M_sign2_t, mp_M_half2_t, mp_M_root2_t, mp_M_mul_t, mp_M_inv_t]
def mm_T4 : List mm_T := [mp_M_signOf_t, mp_M_root_t, mp_M_takeRoot_t, mp_M_xOf_t, mp_M_yOf_t, mp_M_work_t, mp_M_products_t, mp_M_cross_t, mp_M_squared_t, mp_M_makeLine_t, mp_M_makeMiddle_t, mp_M_meetLines_t, mp_M_meetCircle_t, mp_M_meetCircles_t, mp_M_makeMeeting_t, mp_M_make_t, mp_M_redraw_t, mp_M_isPoint_t, mp_M_kindOf_t, mp_M_fresh_t]
def mm_T5 : List mm_T := [mp_M_isFraction_t, mp_M_free_t, mp_M_line_t, mp_M_circle_t, mp_M_middle_t, mp_M_meet_t, mp_M_move_t, mp_M_become_t, mp_M_undo_t, mp_M_told_t, mp_M_on_t, mp_M_same_t, mp_M_equal_t, mp_M_angle_t, mp_M_side_t, mp_M_sign_t, mp_M_part_t, mp_M_radicand_t, mp_M_kind_t, mp_M_look_t]
def mm_T6 : List mm_T := [mp_N_radicandOf_t, mp_N_home_t, mp_N_begin_t, mp_N_read_t, mp_N_copy_t, mp_N_alike_t, mp_N_isNought_t, mp_N_whole_t, mp_N_quotient_t, mp_N_plus_t, mp_N_minus_t, mp_N_times_t, mp_N_negated_t, mp_N_halved_t, mp_N_inverted_t, mp_N_signum_t, mp_N_takeRoot_t, mp_N_newLevel_t, mp_N_reserve_t, mp_N_put_t]
def mm_T7 : List mm_T := [mp_N_pair_t, mp_N_isZero_t, mp_N_sum_t, mp_N_negative_t, mp_N_half_t, mp_N_product_t, mp_N_inverse_t, mp_N_signOf_t, mp_N_root_t, mp_N_rootOfFraction_t, mp_N_rootOfWhole_t, mp_J_compare_t]
def mm_Tb : List mm_T := mm_T0 ++ (mm_T1 ++ (mm_T2 ++ (mm_T3 ++ (mm_T4 ++ (mm_T5 ++ (mm_T6 ++ (mm_T7)))))))
end
section
def mm_Gb : List Cond := lw_tbl.filter goodWord
theorem mm_Gb_good : ∀ w ∈ mm_Gb, goodWord w = true := fun w h => (List.mem_filter.mp h).2
theorem mg_t1 {w : Cond} (h : w ∈ tables_1_1) (hg : goodWord w = true) : w ∈ mm_Gb := List.mem_filter.mpr ⟨List.mem_append_right _ (show w ∈ tables_1_1 ++ (tables_1_2 ++ (tables_1_3 ++ (tables_1_4))) from List.mem_append_left _ h), hg⟩
theorem mg_t2 {w : Cond} (h : w ∈ tables_1_2) (hg : goodWord w = true) : w ∈ mm_Gb := List.mem_filter.mpr ⟨List.mem_append_right _ (show w ∈ tables_1_1 ++ (tables_1_2 ++ (tables_1_3 ++ (tables_1_4))) from List.mem_append_right _ (List.mem_append_left _ h)), hg⟩
theorem mg_t3 {w : Cond} (h : w ∈ tables_1_3) (hg : goodWord w = true) : w ∈ mm_Gb := List.mem_filter.mpr ⟨List.mem_append_right _ (show w ∈ tables_1_1 ++ (tables_1_2 ++ (tables_1_3 ++ (tables_1_4))) from List.mem_append_right _ (List.mem_append_right _ (List.mem_append_left _ h))), hg⟩
theorem mg_t4 {w : Cond} (h : w ∈ tables_1_4) (hg : goodWord w = true) : w ∈ mm_Gb := List.mem_filter.mpr ⟨List.mem_append_right _ (show w ∈ tables_1_1 ++ (tables_1_2 ++ (tables_1_3 ++ (tables_1_4))) from List.mem_append_right _ (List.mem_append_right _ (List.mem_append_right _ (h)))), hg⟩
theorem mg_s (i : Nat) {q : MethodName × Nat} (h : lw_privs[i]? = some q) : Cond.selects q.1.cls q.1 q.1 ∈ mm_Gb := List.mem_filter.mpr ⟨List.mem_append_left _ (List.mem_map.mpr ⟨q, List.mem_of_getElem? h, rfl⟩), rfl⟩
theorem mg_0 : Cond.fieldLink "RootCompass" 25 "RootCompass" "step" "[I" ∈ mm_Gb := mg_t1 (List.mem_of_getElem? (i := 80) (by decide +kernel)) (by decide +kernel)
theorem mg_1 : Cond.fieldLink "RootCompass" 41 "RootCompass" "count" "I" ∈ mm_Gb := mg_t1 (List.mem_of_getElem? (i := 85) (by decide +kernel)) (by decide +kernel)
theorem mg_2 : Cond.fieldLink "RootCompass" 14 "RootCompass" "numbers" "LRootCompass$Numbers;" ∈ mm_Gb := mg_t1 (List.mem_of_getElem? (i := 78) (by decide +kernel)) (by decide +kernel)
theorem mg_3 : Cond.fieldLink "RootCompass" 38 "RootCompass" "depthBefore" "[I" ∈ mm_Gb := mg_t1 (List.mem_of_getElem? (i := 84) (by decide +kernel)) (by decide +kernel)
theorem mg_4 : Cond.fieldLink "RootCompass" 29 "RootCompass" "first" "[I" ∈ mm_Gb := mg_t1 (List.mem_of_getElem? (i := 81) (by decide +kernel)) (by decide +kernel)
theorem mg_5 : Cond.constant "RootCompass" 153 (-1000000) ∈ mm_Gb := mg_t3 (List.mem_of_getElem? (i := 68) (by decide +kernel)) (by decide +kernel)
theorem mg_6 : Cond.constant "RootCompass" 154 1000000 ∈ mm_Gb := mg_t3 (List.mem_of_getElem? (i := 69) (by decide +kernel)) (by decide +kernel)
theorem mg_7 : Cond.fieldLink "RootCompass" 32 "RootCompass" "second" "[I" ∈ mm_Gb := mg_t1 (List.mem_of_getElem? (i := 82) (by decide +kernel)) (by decide +kernel)
theorem mg_8 : Cond.fieldLink "RootCompass" 35 "RootCompass" "third" "[I" ∈ mm_Gb := mg_t1 (List.mem_of_getElem? (i := 83) (by decide +kernel)) (by decide +kernel)
theorem mg_9 : Cond.fieldLink "RootCompass" 21 "RootCompass" "cut" "LRootCompass$Cut;" ∈ mm_Gb := mg_t1 (List.mem_of_getElem? (i := 79) (by decide +kernel)) (by decide +kernel)
theorem mg_10 : Cond.fieldLink "RootCompassModel" 31 "RootCompassModel" "thrown" "I" ∈ mm_Gb := mg_t3 (List.mem_of_getElem? (i := 120) (by decide +kernel)) (by decide +kernel)
theorem mg_11 : Cond.constantLong "RootCompassModel" 39 2147483647 ∈ mm_Gb := mg_t3 (List.mem_of_getElem? (i := 185) (by decide +kernel)) (by decide +kernel)
theorem mg_12 : Cond.constantLong "RootCompassModel" 41 (-2147483647) ∈ mm_Gb := mg_t3 (List.mem_of_getElem? (i := 186) (by decide +kernel)) (by decide +kernel)
theorem mg_13 : Cond.fieldLink "RootCompassModel" 43 "RootCompassModel" "wide" "Z" ∈ mm_Gb := mg_t3 (List.mem_of_getElem? (i := 122) (by decide +kernel)) (by decide +kernel)
theorem mg_14 : Cond.fieldLink "RootCompassModel" 7 "RootCompassModel" "p" "[J" ∈ mm_Gb := mg_t3 (List.mem_of_getElem? (i := 124) (by decide +kernel)) (by decide +kernel)
theorem mg_15 : Cond.fieldLink "RootCompassModel" 13 "RootCompassModel" "q" "[J" ∈ mm_Gb := mg_t3 (List.mem_of_getElem? (i := 125) (by decide +kernel)) (by decide +kernel)
theorem mg_16 : Cond.constantLong "RootCompassModel" 51 46341 ∈ mm_Gb := mg_t4 (List.mem_of_getElem? (i := 103) (by decide +kernel)) (by decide +kernel)
theorem mg_17 : Cond.constantLong "RootCompassModel" 29 2 ∈ mm_Gb := mg_t3 (List.mem_of_getElem? (i := 119) (by decide +kernel)) (by decide +kernel)
theorem mg_18 : Cond.constantLong "RootCompassModel" 53 (-1) ∈ mm_Gb := mg_t4 (List.mem_of_getElem? (i := 104) (by decide +kernel)) (by decide +kernel)
theorem mg_19 : Cond.fieldLink "RootCompassModel" 134 "RootCompassModel" "depth" "I" ∈ mm_Gb := mg_t3 (List.mem_of_getElem? (i := 121) (by decide +kernel)) (by decide +kernel)
theorem mg_20 : Cond.fieldLink "RootCompassModel" 146 "RootCompassModel" "failed" "Z" ∈ mm_Gb := mg_t3 (List.mem_of_getElem? (i := 123) (by decide +kernel)) (by decide +kernel)
theorem mg_21 : Cond.fieldLink "RootCompassModel" 26 "RootCompassModel" "of" "[I" ∈ mm_Gb := mg_t3 (List.mem_of_getElem? (i := 130) (by decide +kernel)) (by decide +kernel)
theorem mg_22 : Cond.fieldLink "RootCompassModel" 22 "RootCompassModel" "step" "[I" ∈ mm_Gb := mg_t3 (List.mem_of_getElem? (i := 129) (by decide +kernel)) (by decide +kernel)
theorem mg_23 : Cond.fieldLink "RootCompassModel" 204 "RootCompassModel" "objects" "I" ∈ mm_Gb := mg_t3 (List.mem_of_getElem? (i := 128) (by decide +kernel)) (by decide +kernel)
theorem mg_24 : Cond.fieldLink "RootCompassModel" 16 "RootCompassModel" "oldP" "[J" ∈ mm_Gb := mg_t3 (List.mem_of_getElem? (i := 126) (by decide +kernel)) (by decide +kernel)
theorem mg_25 : Cond.fieldLink "RootCompassModel" 19 "RootCompassModel" "oldQ" "[J" ∈ mm_Gb := mg_t3 (List.mem_of_getElem? (i := 127) (by decide +kernel)) (by decide +kernel)
theorem mg_26 : Cond.constant "RootCompassModel" 235 (-1000000) ∈ mm_Gb := mg_t4 (List.mem_of_getElem? (i := 189) (by decide +kernel)) (by decide +kernel)
theorem mg_27 : Cond.constant "RootCompassModel" 236 1000000 ∈ mm_Gb := mg_t4 (List.mem_of_getElem? (i := 190) (by decide +kernel)) (by decide +kernel)
theorem mg_28 : Cond.fieldLink "RootCompass$Numbers" 11 "RootCompass$Numbers" "work" "I" ∈ mm_Gb := mg_t1 (List.mem_of_getElem? (i := 30) (by decide +kernel)) (by decide +kernel)
theorem mg_29 : Cond.fieldLink "RootCompass$Numbers" 22 "RootCompass$Numbers" "next" "I" ∈ mm_Gb := mg_t1 (List.mem_of_getElem? (i := 31) (by decide +kernel)) (by decide +kernel)
theorem mg_30 : Cond.fieldLink "RootCompass$Numbers" 25 "RootCompass$Numbers" "failed" "Z" ∈ mm_Gb := mg_t1 (List.mem_of_getElem? (i := 34) (by decide +kernel)) (by decide +kernel)
theorem mg_31 : Cond.fieldLink "RootCompass$Numbers" 19 "RootCompass$Numbers" "under" "[I" ∈ mm_Gb := mg_t1 (List.mem_of_getElem? (i := 29) (by decide +kernel)) (by decide +kernel)
theorem mg_32 : Cond.fieldLink "RootCompass$Numbers" 15 "RootCompass$Numbers" "over" "[I" ∈ mm_Gb := mg_t1 (List.mem_of_getElem? (i := 28) (by decide +kernel)) (by decide +kernel)
theorem mg_33 : Cond.fieldLink "RootCompass$Numbers" 51 "RootCompass$Numbers" "depth" "I" ∈ mm_Gb := mg_t1 (List.mem_of_getElem? (i := 33) (by decide +kernel)) (by decide +kernel)
theorem mg_34 : Cond.constantLong "RootCompass$Numbers" 87 2147483647 ∈ mm_Gb := mg_t2 (List.mem_of_getElem? (i := 3) (by decide +kernel)) (by decide +kernel)
theorem mg_35 : Cond.constantLong "RootCompass$Numbers" 89 (-2147483647) ∈ mm_Gb := mg_t2 (List.mem_of_getElem? (i := 4) (by decide +kernel)) (by decide +kernel)
theorem mg_36 : Cond.constantLong "RootCompass$Numbers" 91 2 ∈ mm_Gb := mg_t2 (List.mem_of_getElem? (i := 108) (by decide +kernel)) (by decide +kernel)
theorem mg_37 : Cond.constant "RootCompass$Numbers" 108 32768 ∈ mm_Gb := mg_t2 (List.mem_of_getElem? (i := 151) (by decide +kernel)) (by decide +kernel)
theorem mg_38 : Cond.code ⟨"RootCompass", "free", "(IIII)I"⟩ prog_1_method_2_code 6 (some .int) ∈ mm_Gb := mg_t1 (List.mem_of_getElem? (i := 127) (by decide +kernel)) (by decide +kernel)
theorem mg_39 : Cond.initialized "RootCompass" ∈ mm_Gb := mg_t1 (List.mem_of_getElem? (i := 1) (by decide +kernel)) (by decide +kernel)
theorem mg_40 : Cond.instanceMethod ⟨"RootCompass", "free", "(IIII)I"⟩ ∈ mm_Gb := mg_t1 (List.mem_of_getElem? (i := 125) (by decide +kernel)) (by decide +kernel)
theorem mg_41 : Cond.selects "RootCompass" ⟨"RootCompass", "free", "(IIII)I"⟩ ⟨"RootCompass", "free", "(IIII)I"⟩ ∈ mm_Gb := mg_t1 (List.mem_of_getElem? (i := 126) (by decide +kernel)) (by decide +kernel)
theorem mg_42 : Cond.code ⟨"RootCompass", "line", "(II)I"⟩ prog_1_method_3_code 3 (some .int) ∈ mm_Gb := mg_t2 (List.mem_of_getElem? (i := 197) (by decide +kernel)) (by decide +kernel)
theorem mg_43 : Cond.instanceMethod ⟨"RootCompass", "line", "(II)I"⟩ ∈ mm_Gb := mg_t2 (List.mem_of_getElem? (i := 195) (by decide +kernel)) (by decide +kernel)
theorem mg_44 : Cond.selects "RootCompass" ⟨"RootCompass", "line", "(II)I"⟩ ⟨"RootCompass", "line", "(II)I"⟩ ∈ mm_Gb := mg_t2 (List.mem_of_getElem? (i := 196) (by decide +kernel)) (by decide +kernel)
theorem mg_45 : Cond.code ⟨"RootCompass", "circle", "(III)I"⟩ prog_1_method_4_code 4 (some .int) ∈ mm_Gb := mg_t2 (List.mem_of_getElem? (i := 210) (by decide +kernel)) (by decide +kernel)
theorem mg_46 : Cond.instanceMethod ⟨"RootCompass", "circle", "(III)I"⟩ ∈ mm_Gb := mg_t2 (List.mem_of_getElem? (i := 208) (by decide +kernel)) (by decide +kernel)
theorem mg_47 : Cond.selects "RootCompass" ⟨"RootCompass", "circle", "(III)I"⟩ ⟨"RootCompass", "circle", "(III)I"⟩ ∈ mm_Gb := mg_t2 (List.mem_of_getElem? (i := 209) (by decide +kernel)) (by decide +kernel)
theorem mg_48 : Cond.code ⟨"RootCompass", "middle", "(II)I"⟩ prog_1_method_5_code 3 (some .int) ∈ mm_Gb := mg_t2 (List.mem_of_getElem? (i := 217) (by decide +kernel)) (by decide +kernel)
theorem mg_49 : Cond.instanceMethod ⟨"RootCompass", "middle", "(II)I"⟩ ∈ mm_Gb := mg_t2 (List.mem_of_getElem? (i := 215) (by decide +kernel)) (by decide +kernel)
theorem mg_50 : Cond.selects "RootCompass" ⟨"RootCompass", "middle", "(II)I"⟩ ⟨"RootCompass", "middle", "(II)I"⟩ ∈ mm_Gb := mg_t2 (List.mem_of_getElem? (i := 216) (by decide +kernel)) (by decide +kernel)
theorem mg_51 : Cond.code ⟨"RootCompass", "meet", "(III)I"⟩ prog_1_method_6_code 5 (some .int) ∈ mm_Gb := mg_t2 (List.mem_of_getElem? (i := 224) (by decide +kernel)) (by decide +kernel)
theorem mg_52 : Cond.instanceMethod ⟨"RootCompass", "meet", "(III)I"⟩ ∈ mm_Gb := mg_t2 (List.mem_of_getElem? (i := 222) (by decide +kernel)) (by decide +kernel)
theorem mg_53 : Cond.selects "RootCompass" ⟨"RootCompass", "meet", "(III)I"⟩ ⟨"RootCompass", "meet", "(III)I"⟩ ∈ mm_Gb := mg_t2 (List.mem_of_getElem? (i := 223) (by decide +kernel)) (by decide +kernel)
theorem mg_54 : Cond.code ⟨"RootCompass", "move", "(IIIII)I"⟩ prog_1_method_7_code 7 (some .int) ∈ mm_Gb := mg_t3 (List.mem_of_getElem? (i := 5) (by decide +kernel)) (by decide +kernel)
theorem mg_55 : Cond.instanceMethod ⟨"RootCompass", "move", "(IIIII)I"⟩ ∈ mm_Gb := mg_t3 (List.mem_of_getElem? (i := 3) (by decide +kernel)) (by decide +kernel)
theorem mg_56 : Cond.selects "RootCompass" ⟨"RootCompass", "move", "(IIIII)I"⟩ ⟨"RootCompass", "move", "(IIIII)I"⟩ ∈ mm_Gb := mg_t3 (List.mem_of_getElem? (i := 4) (by decide +kernel)) (by decide +kernel)
theorem mg_57 : Cond.code ⟨"RootCompass", "undo", "()Z"⟩ prog_1_method_8_code 1 (some .boolean) ∈ mm_Gb := mg_t1 (List.mem_of_getElem? (i := 106) (by decide +kernel)) (by decide +kernel)
theorem mg_58 : Cond.instanceMethod ⟨"RootCompass", "undo", "()Z"⟩ ∈ mm_Gb := mg_t1 (List.mem_of_getElem? (i := 104) (by decide +kernel)) (by decide +kernel)
theorem mg_59 : Cond.selects "RootCompass" ⟨"RootCompass", "undo", "()Z"⟩ ⟨"RootCompass", "undo", "()Z"⟩ ∈ mm_Gb := mg_t1 (List.mem_of_getElem? (i := 105) (by decide +kernel)) (by decide +kernel)
theorem mg_60 : Cond.code ⟨"RootCompass", "on", "(II)Z"⟩ prog_1_method_9_code 4 (some .boolean) ∈ mm_Gb := mg_t3 (List.mem_of_getElem? (i := 17) (by decide +kernel)) (by decide +kernel)
theorem mg_61 : Cond.instanceMethod ⟨"RootCompass", "on", "(II)Z"⟩ ∈ mm_Gb := mg_t3 (List.mem_of_getElem? (i := 15) (by decide +kernel)) (by decide +kernel)
theorem mg_62 : Cond.selects "RootCompass" ⟨"RootCompass", "on", "(II)Z"⟩ ⟨"RootCompass", "on", "(II)Z"⟩ ∈ mm_Gb := mg_t3 (List.mem_of_getElem? (i := 16) (by decide +kernel)) (by decide +kernel)
theorem mg_63 : Cond.code ⟨"RootCompass", "same", "(II)Z"⟩ prog_1_method_10_code 3 (some .boolean) ∈ mm_Gb := mg_t3 (List.mem_of_getElem? (i := 34) (by decide +kernel)) (by decide +kernel)
theorem mg_64 : Cond.instanceMethod ⟨"RootCompass", "same", "(II)Z"⟩ ∈ mm_Gb := mg_t3 (List.mem_of_getElem? (i := 32) (by decide +kernel)) (by decide +kernel)
theorem mg_65 : Cond.selects "RootCompass" ⟨"RootCompass", "same", "(II)Z"⟩ ⟨"RootCompass", "same", "(II)Z"⟩ ∈ mm_Gb := mg_t3 (List.mem_of_getElem? (i := 33) (by decide +kernel)) (by decide +kernel)
theorem mg_66 : Cond.code ⟨"RootCompass", "equal", "(IIII)Z"⟩ prog_1_method_11_code 6 (some .boolean) ∈ mm_Gb := mg_t3 (List.mem_of_getElem? (i := 41) (by decide +kernel)) (by decide +kernel)
theorem mg_67 : Cond.instanceMethod ⟨"RootCompass", "equal", "(IIII)Z"⟩ ∈ mm_Gb := mg_t3 (List.mem_of_getElem? (i := 39) (by decide +kernel)) (by decide +kernel)
theorem mg_68 : Cond.selects "RootCompass" ⟨"RootCompass", "equal", "(IIII)Z"⟩ ⟨"RootCompass", "equal", "(IIII)Z"⟩ ∈ mm_Gb := mg_t3 (List.mem_of_getElem? (i := 40) (by decide +kernel)) (by decide +kernel)
theorem mg_69 : Cond.code ⟨"RootCompass", "angle", "(II)I"⟩ prog_1_method_12_code 5 (some .int) ∈ mm_Gb := mg_t3 (List.mem_of_getElem? (i := 48) (by decide +kernel)) (by decide +kernel)
theorem mg_70 : Cond.instanceMethod ⟨"RootCompass", "angle", "(II)I"⟩ ∈ mm_Gb := mg_t3 (List.mem_of_getElem? (i := 46) (by decide +kernel)) (by decide +kernel)
theorem mg_71 : Cond.selects "RootCompass" ⟨"RootCompass", "angle", "(II)I"⟩ ⟨"RootCompass", "angle", "(II)I"⟩ ∈ mm_Gb := mg_t3 (List.mem_of_getElem? (i := 47) (by decide +kernel)) (by decide +kernel)
theorem mg_72 : Cond.code ⟨"RootCompass", "side", "(III)I"⟩ prog_1_method_13_code 5 (some .int) ∈ mm_Gb := mg_t3 (List.mem_of_getElem? (i := 56) (by decide +kernel)) (by decide +kernel)
theorem mg_73 : Cond.instanceMethod ⟨"RootCompass", "side", "(III)I"⟩ ∈ mm_Gb := mg_t3 (List.mem_of_getElem? (i := 54) (by decide +kernel)) (by decide +kernel)
theorem mg_74 : Cond.selects "RootCompass" ⟨"RootCompass", "side", "(III)I"⟩ ⟨"RootCompass", "side", "(III)I"⟩ ∈ mm_Gb := mg_t3 (List.mem_of_getElem? (i := 55) (by decide +kernel)) (by decide +kernel)
theorem mg_75 : Cond.code ⟨"RootCompass", "sign", "(IZI)I"⟩ prog_1_method_14_code 5 (some .int) ∈ mm_Gb := mg_t3 (List.mem_of_getElem? (i := 67) (by decide +kernel)) (by decide +kernel)
theorem mg_76 : Cond.instanceMethod ⟨"RootCompass", "sign", "(IZI)I"⟩ ∈ mm_Gb := mg_t3 (List.mem_of_getElem? (i := 65) (by decide +kernel)) (by decide +kernel)
theorem mg_77 : Cond.selects "RootCompass" ⟨"RootCompass", "sign", "(IZI)I"⟩ ⟨"RootCompass", "sign", "(IZI)I"⟩ ∈ mm_Gb := mg_t3 (List.mem_of_getElem? (i := 66) (by decide +kernel)) (by decide +kernel)
theorem mg_78 : Cond.code ⟨"RootCompass", "part", "(IZIZ)I"⟩ prog_1_method_15_code 5 (some .int) ∈ mm_Gb := mg_t3 (List.mem_of_getElem? (i := 82) (by decide +kernel)) (by decide +kernel)
theorem mg_79 : Cond.instanceMethod ⟨"RootCompass", "part", "(IZIZ)I"⟩ ∈ mm_Gb := mg_t3 (List.mem_of_getElem? (i := 80) (by decide +kernel)) (by decide +kernel)
theorem mg_80 : Cond.selects "RootCompass" ⟨"RootCompass", "part", "(IZIZ)I"⟩ ⟨"RootCompass", "part", "(IZIZ)I"⟩ ∈ mm_Gb := mg_t3 (List.mem_of_getElem? (i := 81) (by decide +kernel)) (by decide +kernel)
theorem mg_81 : Cond.code ⟨"RootCompass", "radicand", "(IIZ)I"⟩ prog_1_method_16_code 4 (some .int) ∈ mm_Gb := mg_t3 (List.mem_of_getElem? (i := 95) (by decide +kernel)) (by decide +kernel)
theorem mg_82 : Cond.instanceMethod ⟨"RootCompass", "radicand", "(IIZ)I"⟩ ∈ mm_Gb := mg_t3 (List.mem_of_getElem? (i := 93) (by decide +kernel)) (by decide +kernel)
theorem mg_83 : Cond.selects "RootCompass" ⟨"RootCompass", "radicand", "(IIZ)I"⟩ ⟨"RootCompass", "radicand", "(IIZ)I"⟩ ∈ mm_Gb := mg_t3 (List.mem_of_getElem? (i := 94) (by decide +kernel)) (by decide +kernel)
theorem mg_84 : Cond.code ⟨"RootCompass", "kind", "(I)I"⟩ prog_1_method_17_code 2 (some .int) ∈ mm_Gb := mg_t1 (List.mem_of_getElem? (i := 110) (by decide +kernel)) (by decide +kernel)
theorem mg_85 : Cond.instanceMethod ⟨"RootCompass", "kind", "(I)I"⟩ ∈ mm_Gb := mg_t1 (List.mem_of_getElem? (i := 108) (by decide +kernel)) (by decide +kernel)
theorem mg_86 : Cond.selects "RootCompass" ⟨"RootCompass", "kind", "(I)I"⟩ ⟨"RootCompass", "kind", "(I)I"⟩ ∈ mm_Gb := mg_t1 (List.mem_of_getElem? (i := 109) (by decide +kernel)) (by decide +kernel)
theorem mg_87 : Cond.code ⟨"RootCompass", "look", "(I)I"⟩ prog_1_method_18_code 2 (some .int) ∈ mm_Gb := mg_t1 (List.mem_of_getElem? (i := 114) (by decide +kernel)) (by decide +kernel)
theorem mg_88 : Cond.instanceMethod ⟨"RootCompass", "look", "(I)I"⟩ ∈ mm_Gb := mg_t1 (List.mem_of_getElem? (i := 112) (by decide +kernel)) (by decide +kernel)
theorem mg_89 : Cond.selects "RootCompass" ⟨"RootCompass", "look", "(I)I"⟩ ⟨"RootCompass", "look", "(I)I"⟩ ∈ mm_Gb := mg_t1 (List.mem_of_getElem? (i := 113) (by decide +kernel)) (by decide +kernel)
theorem mg_90 : Cond.code ⟨"RootCompass", "countFreePoints", "()I"⟩ prog_1_method_19_code 3 (some .int) ∈ mm_Gb := mg_t1 (List.mem_of_getElem? (i := 118) (by decide +kernel)) (by decide +kernel)
theorem mg_91 : Cond.instanceMethod ⟨"RootCompass", "countFreePoints", "()I"⟩ ∈ mm_Gb := mg_t1 (List.mem_of_getElem? (i := 117) (by decide +kernel)) (by decide +kernel)
theorem mg_92 : Cond.selects "RootCompass" ⟨"RootCompass", "countFreePoints", "()I"⟩ ⟨"RootCompass", "countFreePoints", "()I"⟩ ∈ mm_Gb := mg_s 0 (q := (⟨"RootCompass", "countFreePoints", "()I"⟩, 8)) (by decide +kernel)
theorem mg_93 : Cond.code ⟨"RootCompass", "isPoint", "(I)Z"⟩ prog_1_method_20_code 2 (some .boolean) ∈ mm_Gb := mg_t2 (List.mem_of_getElem? (i := 201) (by decide +kernel)) (by decide +kernel)
theorem mg_94 : Cond.instanceMethod ⟨"RootCompass", "isPoint", "(I)Z"⟩ ∈ mm_Gb := mg_t2 (List.mem_of_getElem? (i := 200) (by decide +kernel)) (by decide +kernel)
theorem mg_95 : Cond.selects "RootCompass" ⟨"RootCompass", "isPoint", "(I)Z"⟩ ⟨"RootCompass", "isPoint", "(I)Z"⟩ ∈ mm_Gb := mg_s 29 (q := (⟨"RootCompass", "isPoint", "(I)Z"⟩, 8)) (by decide +kernel)
theorem mg_96 : Cond.code ⟨"RootCompass", "isLine", "(I)Z"⟩ prog_1_method_21_code 2 (some .boolean) ∈ mm_Gb := mg_t2 (List.mem_of_getElem? (i := 232) (by decide +kernel)) (by decide +kernel)
theorem mg_97 : Cond.instanceMethod ⟨"RootCompass", "isLine", "(I)Z"⟩ ∈ mm_Gb := mg_t2 (List.mem_of_getElem? (i := 231) (by decide +kernel)) (by decide +kernel)
theorem mg_98 : Cond.selects "RootCompass" ⟨"RootCompass", "isLine", "(I)Z"⟩ ⟨"RootCompass", "isLine", "(I)Z"⟩ ∈ mm_Gb := mg_s 31 (q := (⟨"RootCompass", "isLine", "(I)Z"⟩, 8)) (by decide +kernel)
theorem mg_99 : Cond.code ⟨"RootCompass", "isCircle", "(I)Z"⟩ prog_1_method_22_code 2 (some .boolean) ∈ mm_Gb := mg_t2 (List.mem_of_getElem? (i := 236) (by decide +kernel)) (by decide +kernel)
theorem mg_100 : Cond.instanceMethod ⟨"RootCompass", "isCircle", "(I)Z"⟩ ∈ mm_Gb := mg_t2 (List.mem_of_getElem? (i := 235) (by decide +kernel)) (by decide +kernel)
theorem mg_101 : Cond.selects "RootCompass" ⟨"RootCompass", "isCircle", "(I)Z"⟩ ⟨"RootCompass", "isCircle", "(I)Z"⟩ ∈ mm_Gb := mg_s 32 (q := (⟨"RootCompass", "isCircle", "(I)Z"⟩, 8)) (by decide +kernel)
theorem mg_102 : Cond.code ⟨"RootCompass", "isCurve", "(I)Z"⟩ prog_1_method_23_code 2 (some .boolean) ∈ mm_Gb := mg_t2 (List.mem_of_getElem? (i := 228) (by decide +kernel)) (by decide +kernel)
theorem mg_103 : Cond.instanceMethod ⟨"RootCompass", "isCurve", "(I)Z"⟩ ∈ mm_Gb := mg_t2 (List.mem_of_getElem? (i := 227) (by decide +kernel)) (by decide +kernel)
theorem mg_104 : Cond.selects "RootCompass" ⟨"RootCompass", "isCurve", "(I)Z"⟩ ⟨"RootCompass", "isCurve", "(I)Z"⟩ ∈ mm_Gb := mg_s 30 (q := (⟨"RootCompass", "isCurve", "(I)Z"⟩, 8)) (by decide +kernel)
theorem mg_105 : Cond.code ⟨"RootCompass", "isPlace", "(IIII)Z"⟩ prog_1_method_24_code 4 (some .boolean) ∈ mm_Gb := mg_t1 (List.mem_of_getElem? (i := 130) (by decide +kernel)) (by decide +kernel)
theorem mg_106 : Cond.static ⟨"RootCompass", "isPlace", "(IIII)Z"⟩ ∈ mm_Gb := mg_t1 (List.mem_of_getElem? (i := 129) (by decide +kernel)) (by decide +kernel)
theorem mg_107 : Cond.code ⟨"RootCompass", "isInput", "(II)Z"⟩ prog_1_method_25_code 2 (some .boolean) ∈ mm_Gb := mg_t1 (List.mem_of_getElem? (i := 133) (by decide +kernel)) (by decide +kernel)
theorem mg_108 : Cond.static ⟨"RootCompass", "isInput", "(II)Z"⟩ ∈ mm_Gb := mg_t1 (List.mem_of_getElem? (i := 132) (by decide +kernel)) (by decide +kernel)
theorem mg_109 : Cond.code ⟨"RootCompass", "addStep", "(IIII)I"⟩ prog_1_method_26_code 5 (some .int) ∈ mm_Gb := mg_t1 (List.mem_of_getElem? (i := 206) (by decide +kernel)) (by decide +kernel)
theorem mg_110 : Cond.instanceMethod ⟨"RootCompass", "addStep", "(IIII)I"⟩ ∈ mm_Gb := mg_t1 (List.mem_of_getElem? (i := 205) (by decide +kernel)) (by decide +kernel)
theorem mg_111 : Cond.selects "RootCompass" ⟨"RootCompass", "addStep", "(IIII)I"⟩ ⟨"RootCompass", "addStep", "(IIII)I"⟩ ∈ mm_Gb := mg_s 2 (q := (⟨"RootCompass", "addStep", "(IIII)I"⟩, 8)) (by decide +kernel)
theorem mg_112 : Cond.code ⟨"RootCompass", "settle", "(I)I"⟩ prog_1_method_27_code 2 (some .int) ∈ mm_Gb := mg_t2 (List.mem_of_getElem? (i := 172) (by decide +kernel)) (by decide +kernel)
theorem mg_113 : Cond.instanceMethod ⟨"RootCompass", "settle", "(I)I"⟩ ∈ mm_Gb := mg_t2 (List.mem_of_getElem? (i := 171) (by decide +kernel)) (by decide +kernel)
theorem mg_114 : Cond.selects "RootCompass" ⟨"RootCompass", "settle", "(I)I"⟩ ⟨"RootCompass", "settle", "(I)I"⟩ ∈ mm_Gb := mg_s 28 (q := (⟨"RootCompass", "settle", "(I)I"⟩, 8)) (by decide +kernel)
theorem mg_115 : Cond.code ⟨"RootCompass", "refuseTooWide", "()V"⟩ prog_1_method_28_code 1 none ∈ mm_Gb := mg_t3 (List.mem_of_getElem? (i := 26) (by decide +kernel)) (by decide +kernel)
theorem mg_116 : Cond.instanceMethod ⟨"RootCompass", "refuseTooWide", "()V"⟩ ∈ mm_Gb := mg_t3 (List.mem_of_getElem? (i := 25) (by decide +kernel)) (by decide +kernel)
theorem mg_117 : Cond.selects "RootCompass" ⟨"RootCompass", "refuseTooWide", "()V"⟩ ⟨"RootCompass", "refuseTooWide", "()V"⟩ ∈ mm_Gb := mg_s 35 (q := (⟨"RootCompass", "refuseTooWide", "()V"⟩, 8)) (by decide +kernel)
theorem mg_118 : Cond.code ⟨"RootCompass", "redraw", "(I)I"⟩ prog_1_method_29_code 3 (some .int) ∈ mm_Gb := mg_t2 (List.mem_of_getElem? (i := 24) (by decide +kernel)) (by decide +kernel)
theorem mg_119 : Cond.instanceMethod ⟨"RootCompass", "redraw", "(I)I"⟩ ∈ mm_Gb := mg_t2 (List.mem_of_getElem? (i := 23) (by decide +kernel)) (by decide +kernel)
theorem mg_120 : Cond.selects "RootCompass" ⟨"RootCompass", "redraw", "(I)I"⟩ ⟨"RootCompass", "redraw", "(I)I"⟩ ∈ mm_Gb := mg_s 6 (q := (⟨"RootCompass", "redraw", "(I)I"⟩, 8)) (by decide +kernel)
theorem mg_121 : Cond.code ⟨"RootCompass", "drawLine", "(I)V"⟩ prog_1_method_30_code 6 none ∈ mm_Gb := mg_t2 (List.mem_of_getElem? (i := 28) (by decide +kernel)) (by decide +kernel)
theorem mg_122 : Cond.instanceMethod ⟨"RootCompass", "drawLine", "(I)V"⟩ ∈ mm_Gb := mg_t2 (List.mem_of_getElem? (i := 27) (by decide +kernel)) (by decide +kernel)
theorem mg_123 : Cond.selects "RootCompass" ⟨"RootCompass", "drawLine", "(I)V"⟩ ⟨"RootCompass", "drawLine", "(I)V"⟩ ∈ mm_Gb := mg_s 7 (q := (⟨"RootCompass", "drawLine", "(I)V"⟩, 8)) (by decide +kernel)
theorem mg_124 : Cond.code ⟨"RootCompass", "drawCircle", "(I)V"⟩ prog_1_method_31_code 3 none ∈ mm_Gb := mg_t2 (List.mem_of_getElem? (i := 84) (by decide +kernel)) (by decide +kernel)
theorem mg_125 : Cond.instanceMethod ⟨"RootCompass", "drawCircle", "(I)V"⟩ ∈ mm_Gb := mg_t2 (List.mem_of_getElem? (i := 83) (by decide +kernel)) (by decide +kernel)
theorem mg_126 : Cond.selects "RootCompass" ⟨"RootCompass", "drawCircle", "(I)V"⟩ ⟨"RootCompass", "drawCircle", "(I)V"⟩ ∈ mm_Gb := mg_s 14 (q := (⟨"RootCompass", "drawCircle", "(I)V"⟩, 8)) (by decide +kernel)
theorem mg_127 : Cond.code ⟨"RootCompass", "drawMiddle", "(I)V"⟩ prog_1_method_32_code 4 none ∈ mm_Gb := mg_t2 (List.mem_of_getElem? (i := 99) (by decide +kernel)) (by decide +kernel)
theorem mg_128 : Cond.instanceMethod ⟨"RootCompass", "drawMiddle", "(I)V"⟩ ∈ mm_Gb := mg_t2 (List.mem_of_getElem? (i := 98) (by decide +kernel)) (by decide +kernel)
theorem mg_129 : Cond.selects "RootCompass" ⟨"RootCompass", "drawMiddle", "(I)V"⟩ ⟨"RootCompass", "drawMiddle", "(I)V"⟩ ∈ mm_Gb := mg_s 16 (q := (⟨"RootCompass", "drawMiddle", "(I)V"⟩, 8)) (by decide +kernel)
theorem mg_130 : Cond.code ⟨"RootCompass", "drawMeetingOfLines", "(I)V"⟩ prog_1_method_33_code 8 none ∈ mm_Gb := mg_t2 (List.mem_of_getElem? (i := 112) (by decide +kernel)) (by decide +kernel)
theorem mg_131 : Cond.instanceMethod ⟨"RootCompass", "drawMeetingOfLines", "(I)V"⟩ ∈ mm_Gb := mg_t2 (List.mem_of_getElem? (i := 111) (by decide +kernel)) (by decide +kernel)
theorem mg_132 : Cond.selects "RootCompass" ⟨"RootCompass", "drawMeetingOfLines", "(I)V"⟩ ⟨"RootCompass", "drawMeetingOfLines", "(I)V"⟩ ∈ mm_Gb := mg_s 18 (q := (⟨"RootCompass", "drawMeetingOfLines", "(I)V"⟩, 8)) (by decide +kernel)
theorem mg_133 : Cond.code ⟨"RootCompass", "takeLine", "(I)V"⟩ prog_1_method_34_code 2 none ∈ mm_Gb := mg_t2 (List.mem_of_getElem? (i := 124) (by decide +kernel)) (by decide +kernel)
theorem mg_134 : Cond.instanceMethod ⟨"RootCompass", "takeLine", "(I)V"⟩ ∈ mm_Gb := mg_t2 (List.mem_of_getElem? (i := 123) (by decide +kernel)) (by decide +kernel)
theorem mg_135 : Cond.selects "RootCompass" ⟨"RootCompass", "takeLine", "(I)V"⟩ ⟨"RootCompass", "takeLine", "(I)V"⟩ ∈ mm_Gb := mg_s 20 (q := (⟨"RootCompass", "takeLine", "(I)V"⟩, 8)) (by decide +kernel)
theorem mg_136 : Cond.code ⟨"RootCompass", "takeCommonLine", "(II)V"⟩ prog_1_method_35_code 9 none ∈ mm_Gb := mg_t2 (List.mem_of_getElem? (i := 168) (by decide +kernel)) (by decide +kernel)
theorem mg_137 : Cond.instanceMethod ⟨"RootCompass", "takeCommonLine", "(II)V"⟩ ∈ mm_Gb := mg_t2 (List.mem_of_getElem? (i := 167) (by decide +kernel)) (by decide +kernel)
theorem mg_138 : Cond.selects "RootCompass" ⟨"RootCompass", "takeCommonLine", "(II)V"⟩ ⟨"RootCompass", "takeCommonLine", "(II)V"⟩ ∈ mm_Gb := mg_s 27 (q := (⟨"RootCompass", "takeCommonLine", "(II)V"⟩, 8)) (by decide +kernel)
theorem mg_139 : Cond.code ⟨"RootCompass", "measureCut", "(I)I"⟩ prog_1_method_36_code 6 (some .int) ∈ mm_Gb := mg_t2 (List.mem_of_getElem? (i := 128) (by decide +kernel)) (by decide +kernel)
theorem mg_140 : Cond.instanceMethod ⟨"RootCompass", "measureCut", "(I)I"⟩ ∈ mm_Gb := mg_t2 (List.mem_of_getElem? (i := 127) (by decide +kernel)) (by decide +kernel)
theorem mg_141 : Cond.selects "RootCompass" ⟨"RootCompass", "measureCut", "(I)I"⟩ ⟨"RootCompass", "measureCut", "(I)I"⟩ ∈ mm_Gb := mg_s 21 (q := (⟨"RootCompass", "measureCut", "(I)I"⟩, 8)) (by decide +kernel)
theorem mg_142 : Cond.code ⟨"RootCompass", "drawCut", "(II)V"⟩ prog_1_method_37_code 10 none ∈ mm_Gb := mg_t2 (List.mem_of_getElem? (i := 160) (by decide +kernel)) (by decide +kernel)
theorem mg_143 : Cond.instanceMethod ⟨"RootCompass", "drawCut", "(II)V"⟩ ∈ mm_Gb := mg_t2 (List.mem_of_getElem? (i := 159) (by decide +kernel)) (by decide +kernel)
theorem mg_144 : Cond.selects "RootCompass" ⟨"RootCompass", "drawCut", "(II)V"⟩ ⟨"RootCompass", "drawCut", "(II)V"⟩ ∈ mm_Gb := mg_s 26 (q := (⟨"RootCompass", "drawCut", "(II)V"⟩, 8)) (by decide +kernel)
theorem mg_145 : Cond.code ⟨"RootCompass", "liesOnLine", "(II)Z"⟩ prog_1_method_38_code 4 (some .boolean) ∈ mm_Gb := mg_t3 (List.mem_of_getElem? (i := 22) (by decide +kernel)) (by decide +kernel)
theorem mg_146 : Cond.instanceMethod ⟨"RootCompass", "liesOnLine", "(II)Z"⟩ ∈ mm_Gb := mg_t3 (List.mem_of_getElem? (i := 21) (by decide +kernel)) (by decide +kernel)
theorem mg_147 : Cond.selects "RootCompass" ⟨"RootCompass", "liesOnLine", "(II)Z"⟩ ⟨"RootCompass", "liesOnLine", "(II)Z"⟩ ∈ mm_Gb := mg_s 34 (q := (⟨"RootCompass", "liesOnLine", "(II)Z"⟩, 8)) (by decide +kernel)
theorem mg_148 : Cond.code ⟨"RootCompass", "coincide", "(II)Z"⟩ prog_1_method_39_code 3 (some .boolean) ∈ mm_Gb := mg_t2 (List.mem_of_getElem? (i := 32) (by decide +kernel)) (by decide +kernel)
theorem mg_149 : Cond.instanceMethod ⟨"RootCompass", "coincide", "(II)Z"⟩ ∈ mm_Gb := mg_t2 (List.mem_of_getElem? (i := 31) (by decide +kernel)) (by decide +kernel)
theorem mg_150 : Cond.selects "RootCompass" ⟨"RootCompass", "coincide", "(II)Z"⟩ ⟨"RootCompass", "coincide", "(II)Z"⟩ ∈ mm_Gb := mg_s 8 (q := (⟨"RootCompass", "coincide", "(II)Z"⟩, 8)) (by decide +kernel)
theorem mg_151 : Cond.code ⟨"RootCompass", "squareOfDistance", "(II)I"⟩ prog_1_method_40_code 5 (some .int) ∈ mm_Gb := mg_t2 (List.mem_of_getElem? (i := 88) (by decide +kernel)) (by decide +kernel)
theorem mg_152 : Cond.instanceMethod ⟨"RootCompass", "squareOfDistance", "(II)I"⟩ ∈ mm_Gb := mg_t2 (List.mem_of_getElem? (i := 87) (by decide +kernel)) (by decide +kernel)
theorem mg_153 : Cond.selects "RootCompass" ⟨"RootCompass", "squareOfDistance", "(II)I"⟩ ⟨"RootCompass", "squareOfDistance", "(II)I"⟩ ∈ mm_Gb := mg_s 15 (q := (⟨"RootCompass", "squareOfDistance", "(II)I"⟩, 8)) (by decide +kernel)
theorem mg_154 : Cond.code ⟨"RootCompass", "place", "(IIIII)V"⟩ prog_1_method_41_code 6 none ∈ mm_Gb := mg_t1 (List.mem_of_getElem? (i := 226) (by decide +kernel)) (by decide +kernel)
theorem mg_155 : Cond.instanceMethod ⟨"RootCompass", "place", "(IIIII)V"⟩ ∈ mm_Gb := mg_t1 (List.mem_of_getElem? (i := 225) (by decide +kernel)) (by decide +kernel)
theorem mg_156 : Cond.selects "RootCompass" ⟨"RootCompass", "place", "(IIIII)V"⟩ ⟨"RootCompass", "place", "(IIIII)V"⟩ ∈ mm_Gb := mg_s 3 (q := (⟨"RootCompass", "place", "(IIIII)V"⟩, 8)) (by decide +kernel)
theorem mg_157 : Cond.code ⟨"RootCompass", "copyPlace", "(II)V"⟩ prog_1_method_42_code 3 none ∈ mm_Gb := mg_t3 (List.mem_of_getElem? (i := 10) (by decide +kernel)) (by decide +kernel)
theorem mg_158 : Cond.instanceMethod ⟨"RootCompass", "copyPlace", "(II)V"⟩ ∈ mm_Gb := mg_t3 (List.mem_of_getElem? (i := 9) (by decide +kernel)) (by decide +kernel)
theorem mg_159 : Cond.selects "RootCompass" ⟨"RootCompass", "copyPlace", "(II)V"⟩ ⟨"RootCompass", "copyPlace", "(II)V"⟩ ∈ mm_Gb := mg_s 33 (q := (⟨"RootCompass", "copyPlace", "(II)V"⟩, 8)) (by decide +kernel)
theorem mg_160 : Cond.code ⟨"RootCompass", "xOf", "(I)I"⟩ prog_1_method_43_code 1 (some .int) ∈ mm_Gb := mg_t2 (List.mem_of_getElem? (i := 7) (by decide +kernel)) (by decide +kernel)
theorem mg_161 : Cond.static ⟨"RootCompass", "xOf", "(I)I"⟩ ∈ mm_Gb := mg_t2 (List.mem_of_getElem? (i := 6) (by decide +kernel)) (by decide +kernel)
theorem mg_162 : Cond.code ⟨"RootCompass", "yOf", "(I)I"⟩ prog_1_method_44_code 1 (some .int) ∈ mm_Gb := mg_t2 (List.mem_of_getElem? (i := 20) (by decide +kernel)) (by decide +kernel)
theorem mg_163 : Cond.static ⟨"RootCompass", "yOf", "(I)I"⟩ ∈ mm_Gb := mg_t2 (List.mem_of_getElem? (i := 19) (by decide +kernel)) (by decide +kernel)
theorem mg_164 : Cond.code ⟨"RootCompass", "lineA", "(I)I"⟩ prog_1_method_45_code 1 (some .int) ∈ mm_Gb := mg_t2 (List.mem_of_getElem? (i := 51) (by decide +kernel)) (by decide +kernel)
theorem mg_165 : Cond.static ⟨"RootCompass", "lineA", "(I)I"⟩ ∈ mm_Gb := mg_t2 (List.mem_of_getElem? (i := 50) (by decide +kernel)) (by decide +kernel)
theorem mg_166 : Cond.code ⟨"RootCompass", "lineB", "(I)I"⟩ prog_1_method_46_code 1 (some .int) ∈ mm_Gb := mg_t2 (List.mem_of_getElem? (i := 54) (by decide +kernel)) (by decide +kernel)
theorem mg_167 : Cond.static ⟨"RootCompass", "lineB", "(I)I"⟩ ∈ mm_Gb := mg_t2 (List.mem_of_getElem? (i := 53) (by decide +kernel)) (by decide +kernel)
theorem mg_168 : Cond.code ⟨"RootCompass", "lineC", "(I)I"⟩ prog_1_method_47_code 1 (some .int) ∈ mm_Gb := mg_t2 (List.mem_of_getElem? (i := 80) (by decide +kernel)) (by decide +kernel)
theorem mg_169 : Cond.static ⟨"RootCompass", "lineC", "(I)I"⟩ ∈ mm_Gb := mg_t2 (List.mem_of_getElem? (i := 79) (by decide +kernel)) (by decide +kernel)
theorem mg_170 : Cond.code ⟨"RootCompass", "squareOf", "(I)I"⟩ prog_1_method_48_code 1 (some .int) ∈ mm_Gb := mg_t2 (List.mem_of_getElem? (i := 95) (by decide +kernel)) (by decide +kernel)
theorem mg_171 : Cond.static ⟨"RootCompass", "squareOf", "(I)I"⟩ ∈ mm_Gb := mg_t2 (List.mem_of_getElem? (i := 94) (by decide +kernel)) (by decide +kernel)
theorem mg_172 : Cond.code ⟨"RootCompassModel", "thrown", "()I"⟩ prog_5_method_2_code 1 (some .int) ∈ mm_Gb := mg_t3 (List.mem_of_getElem? (i := 158) (by decide +kernel)) (by decide +kernel)
theorem mg_173 : Cond.initialized "RootCompassModel" ∈ mm_Gb := mg_t1 (List.mem_of_getElem? (i := 4) (by decide +kernel)) (by decide +kernel)
theorem mg_174 : Cond.instanceMethod ⟨"RootCompassModel", "thrown", "()I"⟩ ∈ mm_Gb := mg_t3 (List.mem_of_getElem? (i := 156) (by decide +kernel)) (by decide +kernel)
theorem mg_175 : Cond.selects "RootCompassModel" ⟨"RootCompassModel", "thrown", "()I"⟩ ⟨"RootCompassModel", "thrown", "()I"⟩ ∈ mm_Gb := mg_t3 (List.mem_of_getElem? (i := 157) (by decide +kernel)) (by decide +kernel)
theorem mg_176 : Cond.code ⟨"RootCompassModel", "divisor", "(JJ)J"⟩ prog_5_method_3_code 10 (some .long) ∈ mm_Gb := mg_t3 (List.mem_of_getElem? (i := 184) (by decide +kernel)) (by decide +kernel)
theorem mg_177 : Cond.static ⟨"RootCompassModel", "divisor", "(JJ)J"⟩ ∈ mm_Gb := mg_t3 (List.mem_of_getElem? (i := 183) (by decide +kernel)) (by decide +kernel)
theorem mg_178 : Cond.code ⟨"RootCompassModel", "put", "(IJJ)V"⟩ prog_5_method_4_code 13 none ∈ mm_Gb := mg_t3 (List.mem_of_getElem? (i := 181) (by decide +kernel)) (by decide +kernel)
theorem mg_179 : Cond.instanceMethod ⟨"RootCompassModel", "put", "(IJJ)V"⟩ ∈ mm_Gb := mg_t3 (List.mem_of_getElem? (i := 180) (by decide +kernel)) (by decide +kernel)
theorem mg_180 : Cond.selects "RootCompassModel" ⟨"RootCompassModel", "put", "(IJJ)V"⟩ ⟨"RootCompassModel", "put", "(IJJ)V"⟩ ∈ mm_Gb := mg_s 39 (q := (⟨"RootCompassModel", "put", "(IJJ)V"⟩, 11)) (by decide +kernel)
theorem mg_181 : Cond.code ⟨"RootCompassModel", "add0", "(III)V"⟩ prog_5_method_5_code 4 none ∈ mm_Gb := mg_t3 (List.mem_of_getElem? (i := 231) (by decide +kernel)) (by decide +kernel)
theorem mg_182 : Cond.instanceMethod ⟨"RootCompassModel", "add0", "(III)V"⟩ ∈ mm_Gb := mg_t3 (List.mem_of_getElem? (i := 230) (by decide +kernel)) (by decide +kernel)
theorem mg_183 : Cond.selects "RootCompassModel" ⟨"RootCompassModel", "add0", "(III)V"⟩ ⟨"RootCompassModel", "add0", "(III)V"⟩ ∈ mm_Gb := mg_s 48 (q := (⟨"RootCompassModel", "add0", "(III)V"⟩, 11)) (by decide +kernel)
theorem mg_184 : Cond.code ⟨"RootCompassModel", "sub0", "(III)V"⟩ prog_5_method_6_code 4 none ∈ mm_Gb := mg_t3 (List.mem_of_getElem? (i := 208) (by decide +kernel)) (by decide +kernel)
theorem mg_185 : Cond.instanceMethod ⟨"RootCompassModel", "sub0", "(III)V"⟩ ∈ mm_Gb := mg_t3 (List.mem_of_getElem? (i := 207) (by decide +kernel)) (by decide +kernel)
theorem mg_186 : Cond.selects "RootCompassModel" ⟨"RootCompassModel", "sub0", "(III)V"⟩ ⟨"RootCompassModel", "sub0", "(III)V"⟩ ∈ mm_Gb := mg_s 43 (q := (⟨"RootCompassModel", "sub0", "(III)V"⟩, 11)) (by decide +kernel)
theorem mg_187 : Cond.code ⟨"RootCompassModel", "mul0", "(III)V"⟩ prog_5_method_7_code 4 none ∈ mm_Gb := mg_t3 (List.mem_of_getElem? (i := 223) (by decide +kernel)) (by decide +kernel)
theorem mg_188 : Cond.instanceMethod ⟨"RootCompassModel", "mul0", "(III)V"⟩ ∈ mm_Gb := mg_t3 (List.mem_of_getElem? (i := 222) (by decide +kernel)) (by decide +kernel)
theorem mg_189 : Cond.selects "RootCompassModel" ⟨"RootCompassModel", "mul0", "(III)V"⟩ ⟨"RootCompassModel", "mul0", "(III)V"⟩ ∈ mm_Gb := mg_s 46 (q := (⟨"RootCompassModel", "mul0", "(III)V"⟩, 11)) (by decide +kernel)
theorem mg_190 : Cond.code ⟨"RootCompassModel", "neg0", "(II)V"⟩ prog_5_method_8_code 3 none ∈ mm_Gb := mg_t4 (List.mem_of_getElem? (i := 47) (by decide +kernel)) (by decide +kernel)
theorem mg_191 : Cond.instanceMethod ⟨"RootCompassModel", "neg0", "(II)V"⟩ ∈ mm_Gb := mg_t4 (List.mem_of_getElem? (i := 46) (by decide +kernel)) (by decide +kernel)
theorem mg_192 : Cond.selects "RootCompassModel" ⟨"RootCompassModel", "neg0", "(II)V"⟩ ⟨"RootCompassModel", "neg0", "(II)V"⟩ ∈ mm_Gb := mg_s 62 (q := (⟨"RootCompassModel", "neg0", "(II)V"⟩, 11)) (by decide +kernel)
theorem mg_193 : Cond.code ⟨"RootCompassModel", "inv0", "(II)V"⟩ prog_5_method_9_code 3 none ∈ mm_Gb := mg_t4 (List.mem_of_getElem? (i := 35) (by decide +kernel)) (by decide +kernel)
theorem mg_194 : Cond.instanceMethod ⟨"RootCompassModel", "inv0", "(II)V"⟩ ∈ mm_Gb := mg_t4 (List.mem_of_getElem? (i := 34) (by decide +kernel)) (by decide +kernel)
theorem mg_195 : Cond.selects "RootCompassModel" ⟨"RootCompassModel", "inv0", "(II)V"⟩ ⟨"RootCompassModel", "inv0", "(II)V"⟩ ∈ mm_Gb := mg_s 59 (q := (⟨"RootCompassModel", "inv0", "(II)V"⟩, 11)) (by decide +kernel)
theorem mg_196 : Cond.code ⟨"RootCompassModel", "sign0", "(I)I"⟩ prog_5_method_10_code 2 (some .int) ∈ mm_Gb := mg_t4 (List.mem_of_getElem? (i := 83) (by decide +kernel)) (by decide +kernel)
theorem mg_197 : Cond.instanceMethod ⟨"RootCompassModel", "sign0", "(I)I"⟩ ∈ mm_Gb := mg_t4 (List.mem_of_getElem? (i := 82) (by decide +kernel)) (by decide +kernel)
theorem mg_198 : Cond.selects "RootCompassModel" ⟨"RootCompassModel", "sign0", "(I)I"⟩ ⟨"RootCompassModel", "sign0", "(I)I"⟩ ∈ mm_Gb := mg_s 71 (q := (⟨"RootCompassModel", "sign0", "(I)I"⟩, 11)) (by decide +kernel)
theorem mg_199 : Cond.code ⟨"RootCompassModel", "square", "(J)J"⟩ prog_5_method_11_code 9 (some .long) ∈ mm_Gb := mg_t4 (List.mem_of_getElem? (i := 102) (by decide +kernel)) (by decide +kernel)
theorem mg_200 : Cond.static ⟨"RootCompassModel", "square", "(J)J"⟩ ∈ mm_Gb := mg_t4 (List.mem_of_getElem? (i := 101) (by decide +kernel)) (by decide +kernel)
theorem mg_201 : Cond.code ⟨"RootCompassModel", "root0", "(II)Z"⟩ prog_5_method_12_code 7 (some .boolean) ∈ mm_Gb := mg_t4 (List.mem_of_getElem? (i := 99) (by decide +kernel)) (by decide +kernel)
theorem mg_202 : Cond.instanceMethod ⟨"RootCompassModel", "root0", "(II)Z"⟩ ∈ mm_Gb := mg_t4 (List.mem_of_getElem? (i := 98) (by decide +kernel)) (by decide +kernel)
theorem mg_203 : Cond.selects "RootCompassModel" ⟨"RootCompassModel", "root0", "(II)Z"⟩ ⟨"RootCompassModel", "root0", "(II)Z"⟩ ∈ mm_Gb := mg_s 75 (q := (⟨"RootCompassModel", "root0", "(II)Z"⟩, 11)) (by decide +kernel)
theorem mg_204 : Cond.code ⟨"RootCompassModel", "set", "(III)V"⟩ prog_5_method_13_code 5 none ∈ mm_Gb := mg_t4 (List.mem_of_getElem? (i := 63) (by decide +kernel)) (by decide +kernel)
theorem mg_205 : Cond.instanceMethod ⟨"RootCompassModel", "set", "(III)V"⟩ ∈ mm_Gb := mg_t4 (List.mem_of_getElem? (i := 62) (by decide +kernel)) (by decide +kernel)
theorem mg_206 : Cond.selects "RootCompassModel" ⟨"RootCompassModel", "set", "(III)V"⟩ ⟨"RootCompassModel", "set", "(III)V"⟩ ∈ mm_Gb := mg_s 66 (q := (⟨"RootCompassModel", "set", "(III)V"⟩, 11)) (by decide +kernel)
theorem mg_207 : Cond.code ⟨"RootCompassModel", "add", "(IIII)V"⟩ prog_5_method_14_code 6 none ∈ mm_Gb := mg_t3 (List.mem_of_getElem? (i := 239) (by decide +kernel)) (by decide +kernel)
theorem mg_208 : Cond.instanceMethod ⟨"RootCompassModel", "add", "(IIII)V"⟩ ∈ mm_Gb := mg_t3 (List.mem_of_getElem? (i := 238) (by decide +kernel)) (by decide +kernel)
theorem mg_209 : Cond.selects "RootCompassModel" ⟨"RootCompassModel", "add", "(IIII)V"⟩ ⟨"RootCompassModel", "add", "(IIII)V"⟩ ∈ mm_Gb := mg_s 50 (q := (⟨"RootCompassModel", "add", "(IIII)V"⟩, 11)) (by decide +kernel)
theorem mg_210 : Cond.code ⟨"RootCompassModel", "sub", "(IIII)V"⟩ prog_5_method_15_code 6 none ∈ mm_Gb := mg_t3 (List.mem_of_getElem? (i := 204) (by decide +kernel)) (by decide +kernel)
theorem mg_211 : Cond.instanceMethod ⟨"RootCompassModel", "sub", "(IIII)V"⟩ ∈ mm_Gb := mg_t3 (List.mem_of_getElem? (i := 203) (by decide +kernel)) (by decide +kernel)
theorem mg_212 : Cond.selects "RootCompassModel" ⟨"RootCompassModel", "sub", "(IIII)V"⟩ ⟨"RootCompassModel", "sub", "(IIII)V"⟩ ∈ mm_Gb := mg_s 42 (q := (⟨"RootCompassModel", "sub", "(IIII)V"⟩, 11)) (by decide +kernel)
theorem mg_213 : Cond.code ⟨"RootCompassModel", "neg", "(III)V"⟩ prog_5_method_16_code 5 none ∈ mm_Gb := mg_t4 (List.mem_of_getElem? (i := 59) (by decide +kernel)) (by decide +kernel)
theorem mg_214 : Cond.instanceMethod ⟨"RootCompassModel", "neg", "(III)V"⟩ ∈ mm_Gb := mg_t4 (List.mem_of_getElem? (i := 58) (by decide +kernel)) (by decide +kernel)
theorem mg_215 : Cond.selects "RootCompassModel" ⟨"RootCompassModel", "neg", "(III)V"⟩ ⟨"RootCompassModel", "neg", "(III)V"⟩ ∈ mm_Gb := mg_s 65 (q := (⟨"RootCompassModel", "neg", "(III)V"⟩, 11)) (by decide +kernel)
theorem mg_216 : Cond.code ⟨"RootCompassModel", "halve", "(III)V"⟩ prog_5_method_17_code 5 none ∈ mm_Gb := mg_t4 (List.mem_of_getElem? (i := 15) (by decide +kernel)) (by decide +kernel)
theorem mg_217 : Cond.instanceMethod ⟨"RootCompassModel", "halve", "(III)V"⟩ ∈ mm_Gb := mg_t4 (List.mem_of_getElem? (i := 14) (by decide +kernel)) (by decide +kernel)
theorem mg_218 : Cond.selects "RootCompassModel" ⟨"RootCompassModel", "halve", "(III)V"⟩ ⟨"RootCompassModel", "halve", "(III)V"⟩ ∈ mm_Gb := mg_s 54 (q := (⟨"RootCompassModel", "halve", "(III)V"⟩, 11)) (by decide +kernel)
theorem mg_219 : Cond.code ⟨"RootCompassModel", "isZero", "(II)Z"⟩ prog_5_method_18_code 5 (some .boolean) ∈ mm_Gb := mg_t4 (List.mem_of_getElem? (i := 7) (by decide +kernel)) (by decide +kernel)
theorem mg_220 : Cond.instanceMethod ⟨"RootCompassModel", "isZero", "(II)Z"⟩ ∈ mm_Gb := mg_t4 (List.mem_of_getElem? (i := 6) (by decide +kernel)) (by decide +kernel)
theorem mg_221 : Cond.selects "RootCompassModel" ⟨"RootCompassModel", "isZero", "(II)Z"⟩ ⟨"RootCompassModel", "isZero", "(II)Z"⟩ ∈ mm_Gb := mg_s 52 (q := (⟨"RootCompassModel", "isZero", "(II)Z"⟩, 11)) (by decide +kernel)
theorem mg_222 : Cond.code ⟨"RootCompassModel", "alike", "(II)Z"⟩ prog_5_method_19_code 5 (some .boolean) ∈ mm_Gb := mg_t3 (List.mem_of_getElem? (i := 197) (by decide +kernel)) (by decide +kernel)
theorem mg_223 : Cond.instanceMethod ⟨"RootCompassModel", "alike", "(II)Z"⟩ ∈ mm_Gb := mg_t3 (List.mem_of_getElem? (i := 196) (by decide +kernel)) (by decide +kernel)
theorem mg_224 : Cond.selects "RootCompassModel" ⟨"RootCompassModel", "alike", "(II)Z"⟩ ⟨"RootCompassModel", "alike", "(II)Z"⟩ ∈ mm_Gb := mg_s 41 (q := (⟨"RootCompassModel", "alike", "(II)Z"⟩, 11)) (by decide +kernel)
theorem mg_225 : Cond.code ⟨"RootCompassModel", "clear", "(II)V"⟩ prog_5_method_20_code 4 none ∈ mm_Gb := mg_t3 (List.mem_of_getElem? (i := 177) (by decide +kernel)) (by decide +kernel)
theorem mg_226 : Cond.instanceMethod ⟨"RootCompassModel", "clear", "(II)V"⟩ ∈ mm_Gb := mg_t3 (List.mem_of_getElem? (i := 176) (by decide +kernel)) (by decide +kernel)
theorem mg_227 : Cond.selects "RootCompassModel" ⟨"RootCompassModel", "clear", "(II)V"⟩ ⟨"RootCompassModel", "clear", "(II)V"⟩ ∈ mm_Gb := mg_s 38 (q := (⟨"RootCompassModel", "clear", "(II)V"⟩, 11)) (by decide +kernel)
theorem mg_228 : Cond.code ⟨"RootCompassModel", "mul1", "(III)V"⟩ prog_5_method_21_code 4 none ∈ mm_Gb := mg_t3 (List.mem_of_getElem? (i := 227) (by decide +kernel)) (by decide +kernel)
theorem mg_229 : Cond.instanceMethod ⟨"RootCompassModel", "mul1", "(III)V"⟩ ∈ mm_Gb := mg_t3 (List.mem_of_getElem? (i := 226) (by decide +kernel)) (by decide +kernel)
theorem mg_230 : Cond.selects "RootCompassModel" ⟨"RootCompassModel", "mul1", "(III)V"⟩ ⟨"RootCompassModel", "mul1", "(III)V"⟩ ∈ mm_Gb := mg_s 47 (q := (⟨"RootCompassModel", "mul1", "(III)V"⟩, 11)) (by decide +kernel)
theorem mg_231 : Cond.code ⟨"RootCompassModel", "norm1", "(II)V"⟩ prog_5_method_22_code 3 none ∈ mm_Gb := mg_t4 (List.mem_of_getElem? (i := 43) (by decide +kernel)) (by decide +kernel)
theorem mg_232 : Cond.instanceMethod ⟨"RootCompassModel", "norm1", "(II)V"⟩ ∈ mm_Gb := mg_t4 (List.mem_of_getElem? (i := 42) (by decide +kernel)) (by decide +kernel)
theorem mg_233 : Cond.selects "RootCompassModel" ⟨"RootCompassModel", "norm1", "(II)V"⟩ ⟨"RootCompassModel", "norm1", "(II)V"⟩ ∈ mm_Gb := mg_s 61 (q := (⟨"RootCompassModel", "norm1", "(II)V"⟩, 11)) (by decide +kernel)
theorem mg_234 : Cond.code ⟨"RootCompassModel", "inv1", "(II)V"⟩ prog_5_method_23_code 3 none ∈ mm_Gb := mg_t4 (List.mem_of_getElem? (i := 39) (by decide +kernel)) (by decide +kernel)
theorem mg_235 : Cond.instanceMethod ⟨"RootCompassModel", "inv1", "(II)V"⟩ ∈ mm_Gb := mg_t4 (List.mem_of_getElem? (i := 38) (by decide +kernel)) (by decide +kernel)
theorem mg_236 : Cond.selects "RootCompassModel" ⟨"RootCompassModel", "inv1", "(II)V"⟩ ⟨"RootCompassModel", "inv1", "(II)V"⟩ ∈ mm_Gb := mg_s 60 (q := (⟨"RootCompassModel", "inv1", "(II)V"⟩, 11)) (by decide +kernel)
theorem mg_237 : Cond.code ⟨"RootCompassModel", "sign1", "(I)I"⟩ prog_5_method_24_code 4 (some .int) ∈ mm_Gb := mg_t4 (List.mem_of_getElem? (i := 87) (by decide +kernel)) (by decide +kernel)
theorem mg_238 : Cond.instanceMethod ⟨"RootCompassModel", "sign1", "(I)I"⟩ ∈ mm_Gb := mg_t4 (List.mem_of_getElem? (i := 86) (by decide +kernel)) (by decide +kernel)
theorem mg_239 : Cond.selects "RootCompassModel" ⟨"RootCompassModel", "sign1", "(I)I"⟩ ⟨"RootCompassModel", "sign1", "(I)I"⟩ ∈ mm_Gb := mg_s 72 (q := (⟨"RootCompassModel", "sign1", "(I)I"⟩, 11)) (by decide +kernel)
theorem mg_240 : Cond.code ⟨"RootCompassModel", "half1", "(IIIZ)Z"⟩ prog_5_method_25_code 6 (some .boolean) ∈ mm_Gb := mg_t4 (List.mem_of_getElem? (i := 112) (by decide +kernel)) (by decide +kernel)
theorem mg_241 : Cond.instanceMethod ⟨"RootCompassModel", "half1", "(IIIZ)Z"⟩ ∈ mm_Gb := mg_t4 (List.mem_of_getElem? (i := 111) (by decide +kernel)) (by decide +kernel)
theorem mg_242 : Cond.selects "RootCompassModel" ⟨"RootCompassModel", "half1", "(IIIZ)Z"⟩ ⟨"RootCompassModel", "half1", "(IIIZ)Z"⟩ ∈ mm_Gb := mg_s 77 (q := (⟨"RootCompassModel", "half1", "(IIIZ)Z"⟩, 11)) (by decide +kernel)
theorem mg_243 : Cond.code ⟨"RootCompassModel", "root1", "(II)Z"⟩ prog_5_method_26_code 4 (some .boolean) ∈ mm_Gb := mg_t4 (List.mem_of_getElem? (i := 108) (by decide +kernel)) (by decide +kernel)
theorem mg_244 : Cond.instanceMethod ⟨"RootCompassModel", "root1", "(II)Z"⟩ ∈ mm_Gb := mg_t4 (List.mem_of_getElem? (i := 107) (by decide +kernel)) (by decide +kernel)
theorem mg_245 : Cond.selects "RootCompassModel" ⟨"RootCompassModel", "root1", "(II)Z"⟩ ⟨"RootCompassModel", "root1", "(II)Z"⟩ ∈ mm_Gb := mg_s 76 (q := (⟨"RootCompassModel", "root1", "(II)Z"⟩, 11)) (by decide +kernel)
theorem mg_246 : Cond.code ⟨"RootCompassModel", "mul2", "(III)V"⟩ prog_5_method_27_code 4 none ∈ mm_Gb := mg_t3 (List.mem_of_getElem? (i := 235) (by decide +kernel)) (by decide +kernel)
theorem mg_247 : Cond.instanceMethod ⟨"RootCompassModel", "mul2", "(III)V"⟩ ∈ mm_Gb := mg_t3 (List.mem_of_getElem? (i := 234) (by decide +kernel)) (by decide +kernel)
theorem mg_248 : Cond.selects "RootCompassModel" ⟨"RootCompassModel", "mul2", "(III)V"⟩ ⟨"RootCompassModel", "mul2", "(III)V"⟩ ∈ mm_Gb := mg_s 49 (q := (⟨"RootCompassModel", "mul2", "(III)V"⟩, 11)) (by decide +kernel)
theorem mg_249 : Cond.code ⟨"RootCompassModel", "norm2", "(II)V"⟩ prog_5_method_28_code 3 none ∈ mm_Gb := mg_t4 (List.mem_of_getElem? (i := 55) (by decide +kernel)) (by decide +kernel)
theorem mg_250 : Cond.instanceMethod ⟨"RootCompassModel", "norm2", "(II)V"⟩ ∈ mm_Gb := mg_t4 (List.mem_of_getElem? (i := 54) (by decide +kernel)) (by decide +kernel)
theorem mg_251 : Cond.selects "RootCompassModel" ⟨"RootCompassModel", "norm2", "(II)V"⟩ ⟨"RootCompassModel", "norm2", "(II)V"⟩ ∈ mm_Gb := mg_s 64 (q := (⟨"RootCompassModel", "norm2", "(II)V"⟩, 11)) (by decide +kernel)
theorem mg_252 : Cond.code ⟨"RootCompassModel", "inv2", "(II)V"⟩ prog_5_method_29_code 3 none ∈ mm_Gb := mg_t4 (List.mem_of_getElem? (i := 51) (by decide +kernel)) (by decide +kernel)
theorem mg_253 : Cond.instanceMethod ⟨"RootCompassModel", "inv2", "(II)V"⟩ ∈ mm_Gb := mg_t4 (List.mem_of_getElem? (i := 50) (by decide +kernel)) (by decide +kernel)
theorem mg_254 : Cond.selects "RootCompassModel" ⟨"RootCompassModel", "inv2", "(II)V"⟩ ⟨"RootCompassModel", "inv2", "(II)V"⟩ ∈ mm_Gb := mg_s 63 (q := (⟨"RootCompassModel", "inv2", "(II)V"⟩, 11)) (by decide +kernel)
theorem mg_255 : Cond.code ⟨"RootCompassModel", "sign2", "(I)I"⟩ prog_5_method_30_code 4 (some .int) ∈ mm_Gb := mg_t4 (List.mem_of_getElem? (i := 91) (by decide +kernel)) (by decide +kernel)
theorem mg_256 : Cond.instanceMethod ⟨"RootCompassModel", "sign2", "(I)I"⟩ ∈ mm_Gb := mg_t4 (List.mem_of_getElem? (i := 90) (by decide +kernel)) (by decide +kernel)
theorem mg_257 : Cond.selects "RootCompassModel" ⟨"RootCompassModel", "sign2", "(I)I"⟩ ⟨"RootCompassModel", "sign2", "(I)I"⟩ ∈ mm_Gb := mg_s 73 (q := (⟨"RootCompassModel", "sign2", "(I)I"⟩, 11)) (by decide +kernel)
theorem mg_258 : Cond.code ⟨"RootCompassModel", "half2", "(IIIZ)Z"⟩ prog_5_method_31_code 8 (some .boolean) ∈ mm_Gb := mg_t4 (List.mem_of_getElem? (i := 120) (by decide +kernel)) (by decide +kernel)
theorem mg_259 : Cond.instanceMethod ⟨"RootCompassModel", "half2", "(IIIZ)Z"⟩ ∈ mm_Gb := mg_t4 (List.mem_of_getElem? (i := 119) (by decide +kernel)) (by decide +kernel)
theorem mg_260 : Cond.selects "RootCompassModel" ⟨"RootCompassModel", "half2", "(IIIZ)Z"⟩ ⟨"RootCompassModel", "half2", "(IIIZ)Z"⟩ ∈ mm_Gb := mg_s 79 (q := (⟨"RootCompassModel", "half2", "(IIIZ)Z"⟩, 11)) (by decide +kernel)
theorem mg_261 : Cond.code ⟨"RootCompassModel", "root2", "(II)Z"⟩ prog_5_method_32_code 4 (some .boolean) ∈ mm_Gb := mg_t4 (List.mem_of_getElem? (i := 116) (by decide +kernel)) (by decide +kernel)
theorem mg_262 : Cond.instanceMethod ⟨"RootCompassModel", "root2", "(II)Z"⟩ ∈ mm_Gb := mg_t4 (List.mem_of_getElem? (i := 115) (by decide +kernel)) (by decide +kernel)
theorem mg_263 : Cond.selects "RootCompassModel" ⟨"RootCompassModel", "root2", "(II)Z"⟩ ⟨"RootCompassModel", "root2", "(II)Z"⟩ ∈ mm_Gb := mg_s 78 (q := (⟨"RootCompassModel", "root2", "(II)Z"⟩, 11)) (by decide +kernel)
theorem mg_264 : Cond.code ⟨"RootCompassModel", "mul", "(III)V"⟩ prog_5_method_33_code 4 none ∈ mm_Gb := mg_t3 (List.mem_of_getElem? (i := 219) (by decide +kernel)) (by decide +kernel)
theorem mg_265 : Cond.instanceMethod ⟨"RootCompassModel", "mul", "(III)V"⟩ ∈ mm_Gb := mg_t3 (List.mem_of_getElem? (i := 218) (by decide +kernel)) (by decide +kernel)
theorem mg_266 : Cond.selects "RootCompassModel" ⟨"RootCompassModel", "mul", "(III)V"⟩ ⟨"RootCompassModel", "mul", "(III)V"⟩ ∈ mm_Gb := mg_s 45 (q := (⟨"RootCompassModel", "mul", "(III)V"⟩, 11)) (by decide +kernel)
theorem mg_267 : Cond.code ⟨"RootCompassModel", "inv", "(II)V"⟩ prog_5_method_34_code 3 none ∈ mm_Gb := mg_t4 (List.mem_of_getElem? (i := 31) (by decide +kernel)) (by decide +kernel)
theorem mg_268 : Cond.instanceMethod ⟨"RootCompassModel", "inv", "(II)V"⟩ ∈ mm_Gb := mg_t4 (List.mem_of_getElem? (i := 30) (by decide +kernel)) (by decide +kernel)
theorem mg_269 : Cond.selects "RootCompassModel" ⟨"RootCompassModel", "inv", "(II)V"⟩ ⟨"RootCompassModel", "inv", "(II)V"⟩ ∈ mm_Gb := mg_s 58 (q := (⟨"RootCompassModel", "inv", "(II)V"⟩, 11)) (by decide +kernel)
theorem mg_270 : Cond.code ⟨"RootCompassModel", "signOf", "(I)I"⟩ prog_5_method_35_code 2 (some .int) ∈ mm_Gb := mg_t4 (List.mem_of_getElem? (i := 79) (by decide +kernel)) (by decide +kernel)
theorem mg_271 : Cond.instanceMethod ⟨"RootCompassModel", "signOf", "(I)I"⟩ ∈ mm_Gb := mg_t4 (List.mem_of_getElem? (i := 78) (by decide +kernel)) (by decide +kernel)
theorem mg_272 : Cond.selects "RootCompassModel" ⟨"RootCompassModel", "signOf", "(I)I"⟩ ⟨"RootCompassModel", "signOf", "(I)I"⟩ ∈ mm_Gb := mg_s 70 (q := (⟨"RootCompassModel", "signOf", "(I)I"⟩, 11)) (by decide +kernel)
theorem mg_273 : Cond.code ⟨"RootCompassModel", "root", "(II)Z"⟩ prog_5_method_36_code 4 (some .boolean) ∈ mm_Gb := mg_t4 (List.mem_of_getElem? (i := 95) (by decide +kernel)) (by decide +kernel)
theorem mg_274 : Cond.instanceMethod ⟨"RootCompassModel", "root", "(II)Z"⟩ ∈ mm_Gb := mg_t4 (List.mem_of_getElem? (i := 94) (by decide +kernel)) (by decide +kernel)
theorem mg_275 : Cond.selects "RootCompassModel" ⟨"RootCompassModel", "root", "(II)Z"⟩ ⟨"RootCompassModel", "root", "(II)Z"⟩ ∈ mm_Gb := mg_s 74 (q := (⟨"RootCompassModel", "root", "(II)Z"⟩, 11)) (by decide +kernel)
theorem mg_276 : Cond.code ⟨"RootCompassModel", "takeRoot", "(II)V"⟩ prog_5_method_37_code 3 none ∈ mm_Gb := mg_t4 (List.mem_of_getElem? (i := 75) (by decide +kernel)) (by decide +kernel)
theorem mg_277 : Cond.instanceMethod ⟨"RootCompassModel", "takeRoot", "(II)V"⟩ ∈ mm_Gb := mg_t4 (List.mem_of_getElem? (i := 74) (by decide +kernel)) (by decide +kernel)
theorem mg_278 : Cond.selects "RootCompassModel" ⟨"RootCompassModel", "takeRoot", "(II)V"⟩ ⟨"RootCompassModel", "takeRoot", "(II)V"⟩ ∈ mm_Gb := mg_s 69 (q := (⟨"RootCompassModel", "takeRoot", "(II)V"⟩, 11)) (by decide +kernel)
theorem mg_279 : Cond.code ⟨"RootCompassModel", "xOf", "(I)I"⟩ prog_5_method_38_code 1 (some .int) ∈ mm_Gb := mg_t3 (List.mem_of_getElem? (i := 193) (by decide +kernel)) (by decide +kernel)
theorem mg_280 : Cond.static ⟨"RootCompassModel", "xOf", "(I)I"⟩ ∈ mm_Gb := mg_t3 (List.mem_of_getElem? (i := 192) (by decide +kernel)) (by decide +kernel)
theorem mg_281 : Cond.code ⟨"RootCompassModel", "yOf", "(I)I"⟩ prog_5_method_39_code 1 (some .int) ∈ mm_Gb := mg_t3 (List.mem_of_getElem? (i := 200) (by decide +kernel)) (by decide +kernel)
theorem mg_282 : Cond.static ⟨"RootCompassModel", "yOf", "(I)I"⟩ ∈ mm_Gb := mg_t3 (List.mem_of_getElem? (i := 199) (by decide +kernel)) (by decide +kernel)
theorem mg_283 : Cond.code ⟨"RootCompassModel", "work", "(I)I"⟩ prog_5_method_40_code 1 (some .int) ∈ mm_Gb := mg_t3 (List.mem_of_getElem? (i := 215) (by decide +kernel)) (by decide +kernel)
theorem mg_284 : Cond.static ⟨"RootCompassModel", "work", "(I)I"⟩ ∈ mm_Gb := mg_t3 (List.mem_of_getElem? (i := 214) (by decide +kernel)) (by decide +kernel)
theorem mg_285 : Cond.code ⟨"RootCompassModel", "products", "(IIIII)V"⟩ prog_5_method_41_code 6 none ∈ mm_Gb := mg_t3 (List.mem_of_getElem? (i := 212) (by decide +kernel)) (by decide +kernel)
theorem mg_286 : Cond.instanceMethod ⟨"RootCompassModel", "products", "(IIIII)V"⟩ ∈ mm_Gb := mg_t3 (List.mem_of_getElem? (i := 211) (by decide +kernel)) (by decide +kernel)
theorem mg_287 : Cond.selects "RootCompassModel" ⟨"RootCompassModel", "products", "(IIIII)V"⟩ ⟨"RootCompassModel", "products", "(IIIII)V"⟩ ∈ mm_Gb := mg_s 44 (q := (⟨"RootCompassModel", "products", "(IIIII)V"⟩, 11)) (by decide +kernel)
theorem mg_288 : Cond.code ⟨"RootCompassModel", "cross", "(IIIII)V"⟩ prog_5_method_42_code 6 none ∈ mm_Gb := mg_t4 (List.mem_of_getElem? (i := 27) (by decide +kernel)) (by decide +kernel)
theorem mg_289 : Cond.instanceMethod ⟨"RootCompassModel", "cross", "(IIIII)V"⟩ ∈ mm_Gb := mg_t4 (List.mem_of_getElem? (i := 26) (by decide +kernel)) (by decide +kernel)
theorem mg_290 : Cond.selects "RootCompassModel" ⟨"RootCompassModel", "cross", "(IIIII)V"⟩ ⟨"RootCompassModel", "cross", "(IIIII)V"⟩ ∈ mm_Gb := mg_s 57 (q := (⟨"RootCompassModel", "cross", "(IIIII)V"⟩, 11)) (by decide +kernel)
theorem mg_291 : Cond.code ⟨"RootCompassModel", "squared", "(III)V"⟩ prog_5_method_43_code 4 none ∈ mm_Gb := mg_t4 (List.mem_of_getElem? (i := 3) (by decide +kernel)) (by decide +kernel)
theorem mg_292 : Cond.instanceMethod ⟨"RootCompassModel", "squared", "(III)V"⟩ ∈ mm_Gb := mg_t4 (List.mem_of_getElem? (i := 2) (by decide +kernel)) (by decide +kernel)
theorem mg_293 : Cond.selects "RootCompassModel" ⟨"RootCompassModel", "squared", "(III)V"⟩ ⟨"RootCompassModel", "squared", "(III)V"⟩ ∈ mm_Gb := mg_s 51 (q := (⟨"RootCompassModel", "squared", "(III)V"⟩, 11)) (by decide +kernel)
theorem mg_294 : Cond.code ⟨"RootCompassModel", "makeLine", "(III)V"⟩ prog_5_method_44_code 4 none ∈ mm_Gb := mg_t3 (List.mem_of_getElem? (i := 190) (by decide +kernel)) (by decide +kernel)
theorem mg_295 : Cond.instanceMethod ⟨"RootCompassModel", "makeLine", "(III)V"⟩ ∈ mm_Gb := mg_t3 (List.mem_of_getElem? (i := 189) (by decide +kernel)) (by decide +kernel)
theorem mg_296 : Cond.selects "RootCompassModel" ⟨"RootCompassModel", "makeLine", "(III)V"⟩ ⟨"RootCompassModel", "makeLine", "(III)V"⟩ ∈ mm_Gb := mg_s 40 (q := (⟨"RootCompassModel", "makeLine", "(III)V"⟩, 11)) (by decide +kernel)
theorem mg_297 : Cond.code ⟨"RootCompassModel", "makeMiddle", "(III)V"⟩ prog_5_method_45_code 4 none ∈ mm_Gb := mg_t4 (List.mem_of_getElem? (i := 11) (by decide +kernel)) (by decide +kernel)
theorem mg_298 : Cond.instanceMethod ⟨"RootCompassModel", "makeMiddle", "(III)V"⟩ ∈ mm_Gb := mg_t4 (List.mem_of_getElem? (i := 10) (by decide +kernel)) (by decide +kernel)
theorem mg_299 : Cond.selects "RootCompassModel" ⟨"RootCompassModel", "makeMiddle", "(III)V"⟩ ⟨"RootCompassModel", "makeMiddle", "(III)V"⟩ ∈ mm_Gb := mg_s 53 (q := (⟨"RootCompassModel", "makeMiddle", "(III)V"⟩, 11)) (by decide +kernel)
theorem mg_300 : Cond.code ⟨"RootCompassModel", "meetLines", "(III)V"⟩ prog_5_method_46_code 4 none ∈ mm_Gb := mg_t4 (List.mem_of_getElem? (i := 23) (by decide +kernel)) (by decide +kernel)
theorem mg_301 : Cond.instanceMethod ⟨"RootCompassModel", "meetLines", "(III)V"⟩ ∈ mm_Gb := mg_t4 (List.mem_of_getElem? (i := 22) (by decide +kernel)) (by decide +kernel)
theorem mg_302 : Cond.selects "RootCompassModel" ⟨"RootCompassModel", "meetLines", "(III)V"⟩ ⟨"RootCompassModel", "meetLines", "(III)V"⟩ ∈ mm_Gb := mg_s 56 (q := (⟨"RootCompassModel", "meetLines", "(III)V"⟩, 11)) (by decide +kernel)
theorem mg_303 : Cond.code ⟨"RootCompassModel", "meetCircle", "(IIII)V"⟩ prog_5_method_47_code 8 none ∈ mm_Gb := mg_t4 (List.mem_of_getElem? (i := 71) (by decide +kernel)) (by decide +kernel)
theorem mg_304 : Cond.instanceMethod ⟨"RootCompassModel", "meetCircle", "(IIII)V"⟩ ∈ mm_Gb := mg_t4 (List.mem_of_getElem? (i := 70) (by decide +kernel)) (by decide +kernel)
theorem mg_305 : Cond.selects "RootCompassModel" ⟨"RootCompassModel", "meetCircle", "(IIII)V"⟩ ⟨"RootCompassModel", "meetCircle", "(IIII)V"⟩ ∈ mm_Gb := mg_s 68 (q := (⟨"RootCompassModel", "meetCircle", "(IIII)V"⟩, 11)) (by decide +kernel)
theorem mg_306 : Cond.code ⟨"RootCompassModel", "meetCircles", "(IIII)V"⟩ prog_5_method_48_code 7 none ∈ mm_Gb := mg_t4 (List.mem_of_getElem? (i := 67) (by decide +kernel)) (by decide +kernel)
theorem mg_307 : Cond.instanceMethod ⟨"RootCompassModel", "meetCircles", "(IIII)V"⟩ ∈ mm_Gb := mg_t4 (List.mem_of_getElem? (i := 66) (by decide +kernel)) (by decide +kernel)
theorem mg_308 : Cond.selects "RootCompassModel" ⟨"RootCompassModel", "meetCircles", "(IIII)V"⟩ ⟨"RootCompassModel", "meetCircles", "(IIII)V"⟩ ∈ mm_Gb := mg_s 67 (q := (⟨"RootCompassModel", "meetCircles", "(IIII)V"⟩, 11)) (by decide +kernel)
theorem mg_309 : Cond.code ⟨"RootCompassModel", "makeMeeting", "(IIII)V"⟩ prog_5_method_49_code 5 none ∈ mm_Gb := mg_t4 (List.mem_of_getElem? (i := 19) (by decide +kernel)) (by decide +kernel)
theorem mg_310 : Cond.instanceMethod ⟨"RootCompassModel", "makeMeeting", "(IIII)V"⟩ ∈ mm_Gb := mg_t4 (List.mem_of_getElem? (i := 18) (by decide +kernel)) (by decide +kernel)
theorem mg_311 : Cond.selects "RootCompassModel" ⟨"RootCompassModel", "makeMeeting", "(IIII)V"⟩ ⟨"RootCompassModel", "makeMeeting", "(IIII)V"⟩ ∈ mm_Gb := mg_s 55 (q := (⟨"RootCompassModel", "makeMeeting", "(IIII)V"⟩, 11)) (by decide +kernel)
theorem mg_312 : Cond.code ⟨"RootCompassModel", "make", "(I)Z"⟩ prog_5_method_50_code 3 (some .boolean) ∈ mm_Gb := mg_t3 (List.mem_of_getElem? (i := 173) (by decide +kernel)) (by decide +kernel)
theorem mg_313 : Cond.instanceMethod ⟨"RootCompassModel", "make", "(I)Z"⟩ ∈ mm_Gb := mg_t3 (List.mem_of_getElem? (i := 172) (by decide +kernel)) (by decide +kernel)
theorem mg_314 : Cond.selects "RootCompassModel" ⟨"RootCompassModel", "make", "(I)Z"⟩ ⟨"RootCompassModel", "make", "(I)Z"⟩ ∈ mm_Gb := mg_s 37 (q := (⟨"RootCompassModel", "make", "(I)Z"⟩, 11)) (by decide +kernel)
theorem mg_315 : Cond.code ⟨"RootCompassModel", "redraw", "()I"⟩ prog_5_method_51_code 2 (some .int) ∈ mm_Gb := mg_t4 (List.mem_of_getElem? (i := 156) (by decide +kernel)) (by decide +kernel)
theorem mg_316 : Cond.instanceMethod ⟨"RootCompassModel", "redraw", "()I"⟩ ∈ mm_Gb := mg_t4 (List.mem_of_getElem? (i := 155) (by decide +kernel)) (by decide +kernel)
theorem mg_317 : Cond.selects "RootCompassModel" ⟨"RootCompassModel", "redraw", "()I"⟩ ⟨"RootCompassModel", "redraw", "()I"⟩ ∈ mm_Gb := mg_s 83 (q := (⟨"RootCompassModel", "redraw", "()I"⟩, 11)) (by decide +kernel)
theorem mg_318 : Cond.code ⟨"RootCompassModel", "isPoint", "(I)Z"⟩ prog_5_method_52_code 2 (some .boolean) ∈ mm_Gb := mg_t4 (List.mem_of_getElem? (i := 128) (by decide +kernel)) (by decide +kernel)
theorem mg_319 : Cond.instanceMethod ⟨"RootCompassModel", "isPoint", "(I)Z"⟩ ∈ mm_Gb := mg_t4 (List.mem_of_getElem? (i := 127) (by decide +kernel)) (by decide +kernel)
theorem mg_320 : Cond.selects "RootCompassModel" ⟨"RootCompassModel", "isPoint", "(I)Z"⟩ ⟨"RootCompassModel", "isPoint", "(I)Z"⟩ ∈ mm_Gb := mg_s 80 (q := (⟨"RootCompassModel", "isPoint", "(I)Z"⟩, 11)) (by decide +kernel)
theorem mg_321 : Cond.code ⟨"RootCompassModel", "kindOf", "(I)I"⟩ prog_5_method_53_code 2 (some .int) ∈ mm_Gb := mg_t4 (List.mem_of_getElem? (i := 132) (by decide +kernel)) (by decide +kernel)
theorem mg_322 : Cond.instanceMethod ⟨"RootCompassModel", "kindOf", "(I)I"⟩ ∈ mm_Gb := mg_t4 (List.mem_of_getElem? (i := 131) (by decide +kernel)) (by decide +kernel)
theorem mg_323 : Cond.selects "RootCompassModel" ⟨"RootCompassModel", "kindOf", "(I)I"⟩ ⟨"RootCompassModel", "kindOf", "(I)I"⟩ ∈ mm_Gb := mg_s 81 (q := (⟨"RootCompassModel", "kindOf", "(I)I"⟩, 11)) (by decide +kernel)
theorem mg_324 : Cond.code ⟨"RootCompassModel", "fresh", "(IIIII)I"⟩ prog_5_method_54_code 7 (some .int) ∈ mm_Gb := mg_t3 (List.mem_of_getElem? (i := 169) (by decide +kernel)) (by decide +kernel)
theorem mg_325 : Cond.instanceMethod ⟨"RootCompassModel", "fresh", "(IIIII)I"⟩ ∈ mm_Gb := mg_t3 (List.mem_of_getElem? (i := 168) (by decide +kernel)) (by decide +kernel)
theorem mg_326 : Cond.selects "RootCompassModel" ⟨"RootCompassModel", "fresh", "(IIIII)I"⟩ ⟨"RootCompassModel", "fresh", "(IIIII)I"⟩ ∈ mm_Gb := mg_s 36 (q := (⟨"RootCompassModel", "fresh", "(IIIII)I"⟩, 11)) (by decide +kernel)
theorem mg_327 : Cond.code ⟨"RootCompassModel", "isFraction", "(II)Z"⟩ prog_5_method_55_code 2 (some .boolean) ∈ mm_Gb := mg_t3 (List.mem_of_getElem? (i := 165) (by decide +kernel)) (by decide +kernel)
theorem mg_328 : Cond.static ⟨"RootCompassModel", "isFraction", "(II)Z"⟩ ∈ mm_Gb := mg_t3 (List.mem_of_getElem? (i := 164) (by decide +kernel)) (by decide +kernel)
theorem mg_329 : Cond.code ⟨"RootCompassModel", "free", "(IIII)I"⟩ prog_5_method_56_code 5 (some .int) ∈ mm_Gb := mg_t3 (List.mem_of_getElem? (i := 162) (by decide +kernel)) (by decide +kernel)
theorem mg_330 : Cond.instanceMethod ⟨"RootCompassModel", "free", "(IIII)I"⟩ ∈ mm_Gb := mg_t3 (List.mem_of_getElem? (i := 160) (by decide +kernel)) (by decide +kernel)
theorem mg_331 : Cond.selects "RootCompassModel" ⟨"RootCompassModel", "free", "(IIII)I"⟩ ⟨"RootCompassModel", "free", "(IIII)I"⟩ ∈ mm_Gb := mg_t3 (List.mem_of_getElem? (i := 161) (by decide +kernel)) (by decide +kernel)
theorem mg_332 : Cond.code ⟨"RootCompassModel", "line", "(II)I"⟩ prog_5_method_57_code 3 (some .int) ∈ mm_Gb := mg_t4 (List.mem_of_getElem? (i := 124) (by decide +kernel)) (by decide +kernel)
theorem mg_333 : Cond.instanceMethod ⟨"RootCompassModel", "line", "(II)I"⟩ ∈ mm_Gb := mg_t4 (List.mem_of_getElem? (i := 122) (by decide +kernel)) (by decide +kernel)
theorem mg_334 : Cond.selects "RootCompassModel" ⟨"RootCompassModel", "line", "(II)I"⟩ ⟨"RootCompassModel", "line", "(II)I"⟩ ∈ mm_Gb := mg_t4 (List.mem_of_getElem? (i := 123) (by decide +kernel)) (by decide +kernel)
theorem mg_335 : Cond.code ⟨"RootCompassModel", "circle", "(III)I"⟩ prog_5_method_58_code 4 (some .int) ∈ mm_Gb := mg_t4 (List.mem_of_getElem? (i := 136) (by decide +kernel)) (by decide +kernel)
theorem mg_336 : Cond.instanceMethod ⟨"RootCompassModel", "circle", "(III)I"⟩ ∈ mm_Gb := mg_t4 (List.mem_of_getElem? (i := 134) (by decide +kernel)) (by decide +kernel)
theorem mg_337 : Cond.selects "RootCompassModel" ⟨"RootCompassModel", "circle", "(III)I"⟩ ⟨"RootCompassModel", "circle", "(III)I"⟩ ∈ mm_Gb := mg_t4 (List.mem_of_getElem? (i := 135) (by decide +kernel)) (by decide +kernel)
theorem mg_338 : Cond.code ⟨"RootCompassModel", "middle", "(II)I"⟩ prog_5_method_59_code 3 (some .int) ∈ mm_Gb := mg_t4 (List.mem_of_getElem? (i := 140) (by decide +kernel)) (by decide +kernel)
theorem mg_339 : Cond.instanceMethod ⟨"RootCompassModel", "middle", "(II)I"⟩ ∈ mm_Gb := mg_t4 (List.mem_of_getElem? (i := 138) (by decide +kernel)) (by decide +kernel)
theorem mg_340 : Cond.selects "RootCompassModel" ⟨"RootCompassModel", "middle", "(II)I"⟩ ⟨"RootCompassModel", "middle", "(II)I"⟩ ∈ mm_Gb := mg_t4 (List.mem_of_getElem? (i := 139) (by decide +kernel)) (by decide +kernel)
theorem mg_341 : Cond.code ⟨"RootCompassModel", "meet", "(III)I"⟩ prog_5_method_60_code 5 (some .int) ∈ mm_Gb := mg_t4 (List.mem_of_getElem? (i := 144) (by decide +kernel)) (by decide +kernel)
theorem mg_342 : Cond.instanceMethod ⟨"RootCompassModel", "meet", "(III)I"⟩ ∈ mm_Gb := mg_t4 (List.mem_of_getElem? (i := 142) (by decide +kernel)) (by decide +kernel)
theorem mg_343 : Cond.selects "RootCompassModel" ⟨"RootCompassModel", "meet", "(III)I"⟩ ⟨"RootCompassModel", "meet", "(III)I"⟩ ∈ mm_Gb := mg_t4 (List.mem_of_getElem? (i := 143) (by decide +kernel)) (by decide +kernel)
theorem mg_344 : Cond.code ⟨"RootCompassModel", "move", "(IIIII)I"⟩ prog_5_method_61_code 13 (some .int) ∈ mm_Gb := mg_t4 (List.mem_of_getElem? (i := 148) (by decide +kernel)) (by decide +kernel)
theorem mg_345 : Cond.instanceMethod ⟨"RootCompassModel", "move", "(IIIII)I"⟩ ∈ mm_Gb := mg_t4 (List.mem_of_getElem? (i := 146) (by decide +kernel)) (by decide +kernel)
theorem mg_346 : Cond.selects "RootCompassModel" ⟨"RootCompassModel", "move", "(IIIII)I"⟩ ⟨"RootCompassModel", "move", "(IIIII)I"⟩ ∈ mm_Gb := mg_t4 (List.mem_of_getElem? (i := 147) (by decide +kernel)) (by decide +kernel)
theorem mg_347 : Cond.code ⟨"RootCompassModel", "become", "(IIIII)V"⟩ prog_5_method_62_code 6 none ∈ mm_Gb := mg_t4 (List.mem_of_getElem? (i := 152) (by decide +kernel)) (by decide +kernel)
theorem mg_348 : Cond.instanceMethod ⟨"RootCompassModel", "become", "(IIIII)V"⟩ ∈ mm_Gb := mg_t4 (List.mem_of_getElem? (i := 151) (by decide +kernel)) (by decide +kernel)
theorem mg_349 : Cond.selects "RootCompassModel" ⟨"RootCompassModel", "become", "(IIIII)V"⟩ ⟨"RootCompassModel", "become", "(IIIII)V"⟩ ∈ mm_Gb := mg_s 82 (q := (⟨"RootCompassModel", "become", "(IIIII)V"⟩, 11)) (by decide +kernel)
theorem mg_350 : Cond.code ⟨"RootCompassModel", "undo", "()Z"⟩ prog_5_method_63_code 2 (some .boolean) ∈ mm_Gb := mg_t4 (List.mem_of_getElem? (i := 160) (by decide +kernel)) (by decide +kernel)
theorem mg_351 : Cond.instanceMethod ⟨"RootCompassModel", "undo", "()Z"⟩ ∈ mm_Gb := mg_t4 (List.mem_of_getElem? (i := 158) (by decide +kernel)) (by decide +kernel)
theorem mg_352 : Cond.selects "RootCompassModel" ⟨"RootCompassModel", "undo", "()Z"⟩ ⟨"RootCompassModel", "undo", "()Z"⟩ ∈ mm_Gb := mg_t4 (List.mem_of_getElem? (i := 159) (by decide +kernel)) (by decide +kernel)
theorem mg_353 : Cond.code ⟨"RootCompassModel", "told", "(Z)Z"⟩ prog_5_method_64_code 2 (some .boolean) ∈ mm_Gb := mg_t4 (List.mem_of_getElem? (i := 168) (by decide +kernel)) (by decide +kernel)
theorem mg_354 : Cond.instanceMethod ⟨"RootCompassModel", "told", "(Z)Z"⟩ ∈ mm_Gb := mg_t4 (List.mem_of_getElem? (i := 167) (by decide +kernel)) (by decide +kernel)
theorem mg_355 : Cond.selects "RootCompassModel" ⟨"RootCompassModel", "told", "(Z)Z"⟩ ⟨"RootCompassModel", "told", "(Z)Z"⟩ ∈ mm_Gb := mg_s 84 (q := (⟨"RootCompassModel", "told", "(Z)Z"⟩, 11)) (by decide +kernel)
theorem mg_356 : Cond.code ⟨"RootCompassModel", "on", "(II)Z"⟩ prog_5_method_65_code 3 (some .boolean) ∈ mm_Gb := mg_t4 (List.mem_of_getElem? (i := 164) (by decide +kernel)) (by decide +kernel)
theorem mg_357 : Cond.instanceMethod ⟨"RootCompassModel", "on", "(II)Z"⟩ ∈ mm_Gb := mg_t4 (List.mem_of_getElem? (i := 162) (by decide +kernel)) (by decide +kernel)
theorem mg_358 : Cond.selects "RootCompassModel" ⟨"RootCompassModel", "on", "(II)Z"⟩ ⟨"RootCompassModel", "on", "(II)Z"⟩ ∈ mm_Gb := mg_t4 (List.mem_of_getElem? (i := 163) (by decide +kernel)) (by decide +kernel)
theorem mg_359 : Cond.code ⟨"RootCompassModel", "same", "(II)Z"⟩ prog_5_method_66_code 3 (some .boolean) ∈ mm_Gb := mg_t4 (List.mem_of_getElem? (i := 172) (by decide +kernel)) (by decide +kernel)
theorem mg_360 : Cond.instanceMethod ⟨"RootCompassModel", "same", "(II)Z"⟩ ∈ mm_Gb := mg_t4 (List.mem_of_getElem? (i := 170) (by decide +kernel)) (by decide +kernel)
theorem mg_361 : Cond.selects "RootCompassModel" ⟨"RootCompassModel", "same", "(II)Z"⟩ ⟨"RootCompassModel", "same", "(II)Z"⟩ ∈ mm_Gb := mg_t4 (List.mem_of_getElem? (i := 171) (by decide +kernel)) (by decide +kernel)
theorem mg_362 : Cond.code ⟨"RootCompassModel", "equal", "(IIII)Z"⟩ prog_5_method_67_code 5 (some .boolean) ∈ mm_Gb := mg_t4 (List.mem_of_getElem? (i := 176) (by decide +kernel)) (by decide +kernel)
theorem mg_363 : Cond.instanceMethod ⟨"RootCompassModel", "equal", "(IIII)Z"⟩ ∈ mm_Gb := mg_t4 (List.mem_of_getElem? (i := 174) (by decide +kernel)) (by decide +kernel)
theorem mg_364 : Cond.selects "RootCompassModel" ⟨"RootCompassModel", "equal", "(IIII)Z"⟩ ⟨"RootCompassModel", "equal", "(IIII)Z"⟩ ∈ mm_Gb := mg_t4 (List.mem_of_getElem? (i := 175) (by decide +kernel)) (by decide +kernel)
theorem mg_365 : Cond.code ⟨"RootCompassModel", "angle", "(II)I"⟩ prog_5_method_68_code 5 (some .int) ∈ mm_Gb := mg_t4 (List.mem_of_getElem? (i := 180) (by decide +kernel)) (by decide +kernel)
theorem mg_366 : Cond.instanceMethod ⟨"RootCompassModel", "angle", "(II)I"⟩ ∈ mm_Gb := mg_t4 (List.mem_of_getElem? (i := 178) (by decide +kernel)) (by decide +kernel)
theorem mg_367 : Cond.selects "RootCompassModel" ⟨"RootCompassModel", "angle", "(II)I"⟩ ⟨"RootCompassModel", "angle", "(II)I"⟩ ∈ mm_Gb := mg_t4 (List.mem_of_getElem? (i := 179) (by decide +kernel)) (by decide +kernel)
theorem mg_368 : Cond.code ⟨"RootCompassModel", "side", "(III)I"⟩ prog_5_method_69_code 5 (some .int) ∈ mm_Gb := mg_t4 (List.mem_of_getElem? (i := 184) (by decide +kernel)) (by decide +kernel)
theorem mg_369 : Cond.instanceMethod ⟨"RootCompassModel", "side", "(III)I"⟩ ∈ mm_Gb := mg_t4 (List.mem_of_getElem? (i := 182) (by decide +kernel)) (by decide +kernel)
theorem mg_370 : Cond.selects "RootCompassModel" ⟨"RootCompassModel", "side", "(III)I"⟩ ⟨"RootCompassModel", "side", "(III)I"⟩ ∈ mm_Gb := mg_t4 (List.mem_of_getElem? (i := 183) (by decide +kernel)) (by decide +kernel)
theorem mg_371 : Cond.code ⟨"RootCompassModel", "sign", "(IZI)I"⟩ prog_5_method_70_code 5 (some .int) ∈ mm_Gb := mg_t4 (List.mem_of_getElem? (i := 188) (by decide +kernel)) (by decide +kernel)
theorem mg_372 : Cond.instanceMethod ⟨"RootCompassModel", "sign", "(IZI)I"⟩ ∈ mm_Gb := mg_t4 (List.mem_of_getElem? (i := 186) (by decide +kernel)) (by decide +kernel)
theorem mg_373 : Cond.selects "RootCompassModel" ⟨"RootCompassModel", "sign", "(IZI)I"⟩ ⟨"RootCompassModel", "sign", "(IZI)I"⟩ ∈ mm_Gb := mg_t4 (List.mem_of_getElem? (i := 187) (by decide +kernel)) (by decide +kernel)
theorem mg_374 : Cond.code ⟨"RootCompassModel", "part", "(IZIZ)I"⟩ prog_5_method_71_code 6 (some .int) ∈ mm_Gb := mg_t4 (List.mem_of_getElem? (i := 194) (by decide +kernel)) (by decide +kernel)
theorem mg_375 : Cond.instanceMethod ⟨"RootCompassModel", "part", "(IZIZ)I"⟩ ∈ mm_Gb := mg_t4 (List.mem_of_getElem? (i := 192) (by decide +kernel)) (by decide +kernel)
theorem mg_376 : Cond.selects "RootCompassModel" ⟨"RootCompassModel", "part", "(IZIZ)I"⟩ ⟨"RootCompassModel", "part", "(IZIZ)I"⟩ ∈ mm_Gb := mg_t4 (List.mem_of_getElem? (i := 193) (by decide +kernel)) (by decide +kernel)
theorem mg_377 : Cond.code ⟨"RootCompassModel", "radicand", "(IIZ)I"⟩ prog_5_method_72_code 5 (some .int) ∈ mm_Gb := mg_t4 (List.mem_of_getElem? (i := 198) (by decide +kernel)) (by decide +kernel)
theorem mg_378 : Cond.instanceMethod ⟨"RootCompassModel", "radicand", "(IIZ)I"⟩ ∈ mm_Gb := mg_t4 (List.mem_of_getElem? (i := 196) (by decide +kernel)) (by decide +kernel)
theorem mg_379 : Cond.selects "RootCompassModel" ⟨"RootCompassModel", "radicand", "(IIZ)I"⟩ ⟨"RootCompassModel", "radicand", "(IIZ)I"⟩ ∈ mm_Gb := mg_t4 (List.mem_of_getElem? (i := 197) (by decide +kernel)) (by decide +kernel)
theorem mg_380 : Cond.code ⟨"RootCompassModel", "kind", "(I)I"⟩ prog_5_method_73_code 2 (some .int) ∈ mm_Gb := mg_t4 (List.mem_of_getElem? (i := 202) (by decide +kernel)) (by decide +kernel)
theorem mg_381 : Cond.instanceMethod ⟨"RootCompassModel", "kind", "(I)I"⟩ ∈ mm_Gb := mg_t4 (List.mem_of_getElem? (i := 200) (by decide +kernel)) (by decide +kernel)
theorem mg_382 : Cond.selects "RootCompassModel" ⟨"RootCompassModel", "kind", "(I)I"⟩ ⟨"RootCompassModel", "kind", "(I)I"⟩ ∈ mm_Gb := mg_t4 (List.mem_of_getElem? (i := 201) (by decide +kernel)) (by decide +kernel)
theorem mg_383 : Cond.code ⟨"RootCompassModel", "look", "(I)I"⟩ prog_5_method_74_code 4 (some .int) ∈ mm_Gb := mg_t4 (List.mem_of_getElem? (i := 206) (by decide +kernel)) (by decide +kernel)
theorem mg_384 : Cond.instanceMethod ⟨"RootCompassModel", "look", "(I)I"⟩ ∈ mm_Gb := mg_t4 (List.mem_of_getElem? (i := 204) (by decide +kernel)) (by decide +kernel)
theorem mg_385 : Cond.selects "RootCompassModel" ⟨"RootCompassModel", "look", "(I)I"⟩ ⟨"RootCompassModel", "look", "(I)I"⟩ ∈ mm_Gb := mg_t4 (List.mem_of_getElem? (i := 205) (by decide +kernel)) (by decide +kernel)
theorem mg_386 : Cond.code ⟨"RootCompass$Numbers", "radicandOf", "(I)I"⟩ prog_3_method_2_code 1 (some .int) ∈ mm_Gb := mg_t2 (List.mem_of_getElem? (i := 69) (by decide +kernel)) (by decide +kernel)
theorem mg_387 : Cond.initialized "RootCompass$Numbers" ∈ mm_Gb := mg_t1 (List.mem_of_getElem? (i := 2) (by decide +kernel)) (by decide +kernel)
theorem mg_388 : Cond.static ⟨"RootCompass$Numbers", "radicandOf", "(I)I"⟩ ∈ mm_Gb := mg_t2 (List.mem_of_getElem? (i := 68) (by decide +kernel)) (by decide +kernel)
theorem mg_389 : Cond.code ⟨"RootCompass$Numbers", "home", "(I)I"⟩ prog_3_method_3_code 1 (some .int) ∈ mm_Gb := mg_t2 (List.mem_of_getElem? (i := 10) (by decide +kernel)) (by decide +kernel)
theorem mg_390 : Cond.static ⟨"RootCompass$Numbers", "home", "(I)I"⟩ ∈ mm_Gb := mg_t2 (List.mem_of_getElem? (i := 9) (by decide +kernel)) (by decide +kernel)
theorem mg_391 : Cond.code ⟨"RootCompass$Numbers", "begin", "()V"⟩ prog_3_method_4_code 1 none ∈ mm_Gb := mg_t1 (List.mem_of_getElem? (i := 230) (by decide +kernel)) (by decide +kernel)
theorem mg_392 : Cond.instanceMethod ⟨"RootCompass$Numbers", "begin", "()V"⟩ ∈ mm_Gb := mg_t1 (List.mem_of_getElem? (i := 228) (by decide +kernel)) (by decide +kernel)
theorem mg_393 : Cond.selects "RootCompass$Numbers" ⟨"RootCompass$Numbers", "begin", "()V"⟩ ⟨"RootCompass$Numbers", "begin", "()V"⟩ ∈ mm_Gb := mg_t1 (List.mem_of_getElem? (i := 229) (by decide +kernel)) (by decide +kernel)
theorem mg_394 : Cond.code ⟨"RootCompass$Numbers", "read", "(IZ)I"⟩ prog_3_method_5_code 3 (some .int) ∈ mm_Gb := mg_t3 (List.mem_of_getElem? (i := 87) (by decide +kernel)) (by decide +kernel)
theorem mg_395 : Cond.instanceMethod ⟨"RootCompass$Numbers", "read", "(IZ)I"⟩ ∈ mm_Gb := mg_t3 (List.mem_of_getElem? (i := 85) (by decide +kernel)) (by decide +kernel)
theorem mg_396 : Cond.selects "RootCompass$Numbers" ⟨"RootCompass$Numbers", "read", "(IZ)I"⟩ ⟨"RootCompass$Numbers", "read", "(IZ)I"⟩ ∈ mm_Gb := mg_t3 (List.mem_of_getElem? (i := 86) (by decide +kernel)) (by decide +kernel)
theorem mg_397 : Cond.code ⟨"RootCompass$Numbers", "copy", "(II)V"⟩ prog_3_method_6_code 3 none ∈ mm_Gb := mg_t2 (List.mem_of_getElem? (i := 14) (by decide +kernel)) (by decide +kernel)
theorem mg_398 : Cond.instanceMethod ⟨"RootCompass$Numbers", "copy", "(II)V"⟩ ∈ mm_Gb := mg_t2 (List.mem_of_getElem? (i := 12) (by decide +kernel)) (by decide +kernel)
theorem mg_399 : Cond.selects "RootCompass$Numbers" ⟨"RootCompass$Numbers", "copy", "(II)V"⟩ ⟨"RootCompass$Numbers", "copy", "(II)V"⟩ ∈ mm_Gb := mg_t2 (List.mem_of_getElem? (i := 13) (by decide +kernel)) (by decide +kernel)
theorem mg_400 : Cond.code ⟨"RootCompass$Numbers", "alike", "(II)Z"⟩ prog_3_method_7_code 4 (some .boolean) ∈ mm_Gb := mg_t2 (List.mem_of_getElem? (i := 36) (by decide +kernel)) (by decide +kernel)
theorem mg_401 : Cond.instanceMethod ⟨"RootCompass$Numbers", "alike", "(II)Z"⟩ ∈ mm_Gb := mg_t2 (List.mem_of_getElem? (i := 34) (by decide +kernel)) (by decide +kernel)
theorem mg_402 : Cond.selects "RootCompass$Numbers" ⟨"RootCompass$Numbers", "alike", "(II)Z"⟩ ⟨"RootCompass$Numbers", "alike", "(II)Z"⟩ ∈ mm_Gb := mg_t2 (List.mem_of_getElem? (i := 35) (by decide +kernel)) (by decide +kernel)
theorem mg_403 : Cond.code ⟨"RootCompass$Numbers", "isNought", "(I)Z"⟩ prog_3_method_8_code 2 (some .boolean) ∈ mm_Gb := mg_t2 (List.mem_of_getElem? (i := 92) (by decide +kernel)) (by decide +kernel)
theorem mg_404 : Cond.instanceMethod ⟨"RootCompass$Numbers", "isNought", "(I)Z"⟩ ∈ mm_Gb := mg_t2 (List.mem_of_getElem? (i := 90) (by decide +kernel)) (by decide +kernel)
theorem mg_405 : Cond.selects "RootCompass$Numbers" ⟨"RootCompass$Numbers", "isNought", "(I)Z"⟩ ⟨"RootCompass$Numbers", "isNought", "(I)Z"⟩ ∈ mm_Gb := mg_t2 (List.mem_of_getElem? (i := 91) (by decide +kernel)) (by decide +kernel)
theorem mg_406 : Cond.code ⟨"RootCompass$Numbers", "whole", "(I)I"⟩ prog_3_method_9_code 2 (some .int) ∈ mm_Gb := mg_t3 (List.mem_of_getElem? (i := 74) (by decide +kernel)) (by decide +kernel)
theorem mg_407 : Cond.instanceMethod ⟨"RootCompass$Numbers", "whole", "(I)I"⟩ ∈ mm_Gb := mg_t3 (List.mem_of_getElem? (i := 72) (by decide +kernel)) (by decide +kernel)
theorem mg_408 : Cond.selects "RootCompass$Numbers" ⟨"RootCompass$Numbers", "whole", "(I)I"⟩ ⟨"RootCompass$Numbers", "whole", "(I)I"⟩ ∈ mm_Gb := mg_t3 (List.mem_of_getElem? (i := 73) (by decide +kernel)) (by decide +kernel)
theorem mg_409 : Cond.code ⟨"RootCompass$Numbers", "quotient", "(II)I"⟩ prog_3_method_10_code 4 (some .int) ∈ mm_Gb := mg_t1 (List.mem_of_getElem? (i := 234) (by decide +kernel)) (by decide +kernel)
theorem mg_410 : Cond.instanceMethod ⟨"RootCompass$Numbers", "quotient", "(II)I"⟩ ∈ mm_Gb := mg_t1 (List.mem_of_getElem? (i := 232) (by decide +kernel)) (by decide +kernel)
theorem mg_411 : Cond.selects "RootCompass$Numbers" ⟨"RootCompass$Numbers", "quotient", "(II)I"⟩ ⟨"RootCompass$Numbers", "quotient", "(II)I"⟩ ∈ mm_Gb := mg_t1 (List.mem_of_getElem? (i := 233) (by decide +kernel)) (by decide +kernel)
theorem mg_412 : Cond.code ⟨"RootCompass$Numbers", "plus", "(II)I"⟩ prog_3_method_11_code 3 (some .int) ∈ mm_Gb := mg_t2 (List.mem_of_getElem? (i := 77) (by decide +kernel)) (by decide +kernel)
theorem mg_413 : Cond.instanceMethod ⟨"RootCompass$Numbers", "plus", "(II)I"⟩ ∈ mm_Gb := mg_t2 (List.mem_of_getElem? (i := 75) (by decide +kernel)) (by decide +kernel)
theorem mg_414 : Cond.selects "RootCompass$Numbers" ⟨"RootCompass$Numbers", "plus", "(II)I"⟩ ⟨"RootCompass$Numbers", "plus", "(II)I"⟩ ∈ mm_Gb := mg_t2 (List.mem_of_getElem? (i := 76) (by decide +kernel)) (by decide +kernel)
theorem mg_415 : Cond.code ⟨"RootCompass$Numbers", "minus", "(II)I"⟩ prog_3_method_12_code 3 (some .int) ∈ mm_Gb := mg_t2 (List.mem_of_getElem? (i := 40) (by decide +kernel)) (by decide +kernel)
theorem mg_416 : Cond.instanceMethod ⟨"RootCompass$Numbers", "minus", "(II)I"⟩ ∈ mm_Gb := mg_t2 (List.mem_of_getElem? (i := 38) (by decide +kernel)) (by decide +kernel)
theorem mg_417 : Cond.selects "RootCompass$Numbers" ⟨"RootCompass$Numbers", "minus", "(II)I"⟩ ⟨"RootCompass$Numbers", "minus", "(II)I"⟩ ∈ mm_Gb := mg_t2 (List.mem_of_getElem? (i := 39) (by decide +kernel)) (by decide +kernel)
theorem mg_418 : Cond.code ⟨"RootCompass$Numbers", "times", "(II)I"⟩ prog_3_method_13_code 3 (some .int) ∈ mm_Gb := mg_t2 (List.mem_of_getElem? (i := 58) (by decide +kernel)) (by decide +kernel)
theorem mg_419 : Cond.instanceMethod ⟨"RootCompass$Numbers", "times", "(II)I"⟩ ∈ mm_Gb := mg_t2 (List.mem_of_getElem? (i := 56) (by decide +kernel)) (by decide +kernel)
theorem mg_420 : Cond.selects "RootCompass$Numbers" ⟨"RootCompass$Numbers", "times", "(II)I"⟩ ⟨"RootCompass$Numbers", "times", "(II)I"⟩ ∈ mm_Gb := mg_t2 (List.mem_of_getElem? (i := 57) (by decide +kernel)) (by decide +kernel)
theorem mg_421 : Cond.code ⟨"RootCompass$Numbers", "negated", "(I)I"⟩ prog_3_method_14_code 2 (some .int) ∈ mm_Gb := mg_t2 (List.mem_of_getElem? (i := 164) (by decide +kernel)) (by decide +kernel)
theorem mg_422 : Cond.instanceMethod ⟨"RootCompass$Numbers", "negated", "(I)I"⟩ ∈ mm_Gb := mg_t2 (List.mem_of_getElem? (i := 162) (by decide +kernel)) (by decide +kernel)
theorem mg_423 : Cond.selects "RootCompass$Numbers" ⟨"RootCompass$Numbers", "negated", "(I)I"⟩ ⟨"RootCompass$Numbers", "negated", "(I)I"⟩ ∈ mm_Gb := mg_t2 (List.mem_of_getElem? (i := 163) (by decide +kernel)) (by decide +kernel)
theorem mg_424 : Cond.code ⟨"RootCompass$Numbers", "halved", "(I)I"⟩ prog_3_method_15_code 2 (some .int) ∈ mm_Gb := mg_t2 (List.mem_of_getElem? (i := 103) (by decide +kernel)) (by decide +kernel)
theorem mg_425 : Cond.instanceMethod ⟨"RootCompass$Numbers", "halved", "(I)I"⟩ ∈ mm_Gb := mg_t2 (List.mem_of_getElem? (i := 101) (by decide +kernel)) (by decide +kernel)
theorem mg_426 : Cond.selects "RootCompass$Numbers" ⟨"RootCompass$Numbers", "halved", "(I)I"⟩ ⟨"RootCompass$Numbers", "halved", "(I)I"⟩ ∈ mm_Gb := mg_t2 (List.mem_of_getElem? (i := 102) (by decide +kernel)) (by decide +kernel)
theorem mg_427 : Cond.code ⟨"RootCompass$Numbers", "inverted", "(I)I"⟩ prog_3_method_16_code 2 (some .int) ∈ mm_Gb := mg_t2 (List.mem_of_getElem? (i := 116) (by decide +kernel)) (by decide +kernel)
theorem mg_428 : Cond.instanceMethod ⟨"RootCompass$Numbers", "inverted", "(I)I"⟩ ∈ mm_Gb := mg_t2 (List.mem_of_getElem? (i := 114) (by decide +kernel)) (by decide +kernel)
theorem mg_429 : Cond.selects "RootCompass$Numbers" ⟨"RootCompass$Numbers", "inverted", "(I)I"⟩ ⟨"RootCompass$Numbers", "inverted", "(I)I"⟩ ∈ mm_Gb := mg_t2 (List.mem_of_getElem? (i := 115) (by decide +kernel)) (by decide +kernel)
theorem mg_430 : Cond.code ⟨"RootCompass$Numbers", "signum", "(I)I"⟩ prog_3_method_17_code 2 (some .int) ∈ mm_Gb := mg_t3 (List.mem_of_getElem? (i := 60) (by decide +kernel)) (by decide +kernel)
theorem mg_431 : Cond.instanceMethod ⟨"RootCompass$Numbers", "signum", "(I)I"⟩ ∈ mm_Gb := mg_t3 (List.mem_of_getElem? (i := 58) (by decide +kernel)) (by decide +kernel)
theorem mg_432 : Cond.selects "RootCompass$Numbers" ⟨"RootCompass$Numbers", "signum", "(I)I"⟩ ⟨"RootCompass$Numbers", "signum", "(I)I"⟩ ∈ mm_Gb := mg_t3 (List.mem_of_getElem? (i := 59) (by decide +kernel)) (by decide +kernel)
theorem mg_433 : Cond.code ⟨"RootCompass$Numbers", "takeRoot", "(I)I"⟩ prog_3_method_18_code 3 (some .int) ∈ mm_Gb := mg_t2 (List.mem_of_getElem? (i := 132) (by decide +kernel)) (by decide +kernel)
theorem mg_434 : Cond.instanceMethod ⟨"RootCompass$Numbers", "takeRoot", "(I)I"⟩ ∈ mm_Gb := mg_t2 (List.mem_of_getElem? (i := 130) (by decide +kernel)) (by decide +kernel)
theorem mg_435 : Cond.selects "RootCompass$Numbers" ⟨"RootCompass$Numbers", "takeRoot", "(I)I"⟩ ⟨"RootCompass$Numbers", "takeRoot", "(I)I"⟩ ∈ mm_Gb := mg_t2 (List.mem_of_getElem? (i := 131) (by decide +kernel)) (by decide +kernel)
theorem mg_436 : Cond.code ⟨"RootCompass$Numbers", "newLevel", "(I)I"⟩ prog_3_method_19_code 3 (some .int) ∈ mm_Gb := mg_t2 (List.mem_of_getElem? (i := 155) (by decide +kernel)) (by decide +kernel)
theorem mg_437 : Cond.instanceMethod ⟨"RootCompass$Numbers", "newLevel", "(I)I"⟩ ∈ mm_Gb := mg_t2 (List.mem_of_getElem? (i := 154) (by decide +kernel)) (by decide +kernel)
theorem mg_438 : Cond.selects "RootCompass$Numbers" ⟨"RootCompass$Numbers", "newLevel", "(I)I"⟩ ⟨"RootCompass$Numbers", "newLevel", "(I)I"⟩ ∈ mm_Gb := mg_s 25 (q := (⟨"RootCompass$Numbers", "newLevel", "(I)I"⟩, 6)) (by decide +kernel)
theorem mg_439 : Cond.code ⟨"RootCompass$Numbers", "reserve", "()I"⟩ prog_3_method_20_code 3 (some .int) ∈ mm_Gb := mg_t1 (List.mem_of_getElem? (i := 238) (by decide +kernel)) (by decide +kernel)
theorem mg_440 : Cond.instanceMethod ⟨"RootCompass$Numbers", "reserve", "()I"⟩ ∈ mm_Gb := mg_t1 (List.mem_of_getElem? (i := 237) (by decide +kernel)) (by decide +kernel)
theorem mg_441 : Cond.selects "RootCompass$Numbers" ⟨"RootCompass$Numbers", "reserve", "()I"⟩ ⟨"RootCompass$Numbers", "reserve", "()I"⟩ ∈ mm_Gb := mg_s 4 (q := (⟨"RootCompass$Numbers", "reserve", "()I"⟩, 6)) (by decide +kernel)
theorem mg_442 : Cond.code ⟨"RootCompass$Numbers", "put", "(IJJ)V"⟩ prog_3_method_21_code 14 none ∈ mm_Gb := mg_t2 (List.mem_of_getElem? (i := 2) (by decide +kernel)) (by decide +kernel)
theorem mg_443 : Cond.instanceMethod ⟨"RootCompass$Numbers", "put", "(IJJ)V"⟩ ∈ mm_Gb := mg_t2 (List.mem_of_getElem? (i := 1) (by decide +kernel)) (by decide +kernel)
theorem mg_444 : Cond.selects "RootCompass$Numbers" ⟨"RootCompass$Numbers", "put", "(IJJ)V"⟩ ⟨"RootCompass$Numbers", "put", "(IJJ)V"⟩ ∈ mm_Gb := mg_s 5 (q := (⟨"RootCompass$Numbers", "put", "(IJJ)V"⟩, 6)) (by decide +kernel)
theorem mg_445 : Cond.code ⟨"RootCompass$Numbers", "pair", "(IIII)I"⟩ prog_3_method_22_code 6 (some .int) ∈ mm_Gb := mg_t2 (List.mem_of_getElem? (i := 73) (by decide +kernel)) (by decide +kernel)
theorem mg_446 : Cond.instanceMethod ⟨"RootCompass$Numbers", "pair", "(IIII)I"⟩ ∈ mm_Gb := mg_t2 (List.mem_of_getElem? (i := 72) (by decide +kernel)) (by decide +kernel)
theorem mg_447 : Cond.selects "RootCompass$Numbers" ⟨"RootCompass$Numbers", "pair", "(IIII)I"⟩ ⟨"RootCompass$Numbers", "pair", "(IIII)I"⟩ ∈ mm_Gb := mg_s 13 (q := (⟨"RootCompass$Numbers", "pair", "(IIII)I"⟩, 6)) (by decide +kernel)
theorem mg_448 : Cond.code ⟨"RootCompass$Numbers", "isZero", "(II)Z"⟩ prog_3_method_23_code 4 (some .boolean) ∈ mm_Gb := mg_t2 (List.mem_of_getElem? (i := 66) (by decide +kernel)) (by decide +kernel)
theorem mg_449 : Cond.instanceMethod ⟨"RootCompass$Numbers", "isZero", "(II)Z"⟩ ∈ mm_Gb := mg_t2 (List.mem_of_getElem? (i := 65) (by decide +kernel)) (by decide +kernel)
theorem mg_450 : Cond.selects "RootCompass$Numbers" ⟨"RootCompass$Numbers", "isZero", "(II)Z"⟩ ⟨"RootCompass$Numbers", "isZero", "(II)Z"⟩ ∈ mm_Gb := mg_s 12 (q := (⟨"RootCompass$Numbers", "isZero", "(II)Z"⟩, 6)) (by decide +kernel)
theorem mg_451 : Cond.code ⟨"RootCompass$Numbers", "sum", "(III)I"⟩ prog_3_method_24_code 10 (some .int) ∈ mm_Gb := mg_t2 (List.mem_of_getElem? (i := 48) (by decide +kernel)) (by decide +kernel)
theorem mg_452 : Cond.instanceMethod ⟨"RootCompass$Numbers", "sum", "(III)I"⟩ ∈ mm_Gb := mg_t2 (List.mem_of_getElem? (i := 47) (by decide +kernel)) (by decide +kernel)
theorem mg_453 : Cond.selects "RootCompass$Numbers" ⟨"RootCompass$Numbers", "sum", "(III)I"⟩ ⟨"RootCompass$Numbers", "sum", "(III)I"⟩ ∈ mm_Gb := mg_s 10 (q := (⟨"RootCompass$Numbers", "sum", "(III)I"⟩, 6)) (by decide +kernel)
theorem mg_454 : Cond.code ⟨"RootCompass$Numbers", "negative", "(II)I"⟩ prog_3_method_25_code 5 (some .int) ∈ mm_Gb := mg_t2 (List.mem_of_getElem? (i := 44) (by decide +kernel)) (by decide +kernel)
theorem mg_455 : Cond.instanceMethod ⟨"RootCompass$Numbers", "negative", "(II)I"⟩ ∈ mm_Gb := mg_t2 (List.mem_of_getElem? (i := 43) (by decide +kernel)) (by decide +kernel)
theorem mg_456 : Cond.selects "RootCompass$Numbers" ⟨"RootCompass$Numbers", "negative", "(II)I"⟩ ⟨"RootCompass$Numbers", "negative", "(II)I"⟩ ∈ mm_Gb := mg_s 9 (q := (⟨"RootCompass$Numbers", "negative", "(II)I"⟩, 6)) (by decide +kernel)
theorem mg_457 : Cond.code ⟨"RootCompass$Numbers", "half", "(II)I"⟩ prog_3_method_26_code 5 (some .int) ∈ mm_Gb := mg_t2 (List.mem_of_getElem? (i := 107) (by decide +kernel)) (by decide +kernel)
theorem mg_458 : Cond.instanceMethod ⟨"RootCompass$Numbers", "half", "(II)I"⟩ ∈ mm_Gb := mg_t2 (List.mem_of_getElem? (i := 106) (by decide +kernel)) (by decide +kernel)
theorem mg_459 : Cond.selects "RootCompass$Numbers" ⟨"RootCompass$Numbers", "half", "(II)I"⟩ ⟨"RootCompass$Numbers", "half", "(II)I"⟩ ∈ mm_Gb := mg_s 17 (q := (⟨"RootCompass$Numbers", "half", "(II)I"⟩, 6)) (by decide +kernel)
theorem mg_460 : Cond.code ⟨"RootCompass$Numbers", "product", "(III)I"⟩ prog_3_method_27_code 11 (some .int) ∈ mm_Gb := mg_t2 (List.mem_of_getElem? (i := 62) (by decide +kernel)) (by decide +kernel)
theorem mg_461 : Cond.instanceMethod ⟨"RootCompass$Numbers", "product", "(III)I"⟩ ∈ mm_Gb := mg_t2 (List.mem_of_getElem? (i := 61) (by decide +kernel)) (by decide +kernel)
theorem mg_462 : Cond.selects "RootCompass$Numbers" ⟨"RootCompass$Numbers", "product", "(III)I"⟩ ⟨"RootCompass$Numbers", "product", "(III)I"⟩ ∈ mm_Gb := mg_s 11 (q := (⟨"RootCompass$Numbers", "product", "(III)I"⟩, 6)) (by decide +kernel)
theorem mg_463 : Cond.code ⟨"RootCompass$Numbers", "inverse", "(II)I"⟩ prog_3_method_28_code 8 (some .int) ∈ mm_Gb := mg_t2 (List.mem_of_getElem? (i := 120) (by decide +kernel)) (by decide +kernel)
theorem mg_464 : Cond.instanceMethod ⟨"RootCompass$Numbers", "inverse", "(II)I"⟩ ∈ mm_Gb := mg_t2 (List.mem_of_getElem? (i := 119) (by decide +kernel)) (by decide +kernel)
theorem mg_465 : Cond.selects "RootCompass$Numbers" ⟨"RootCompass$Numbers", "inverse", "(II)I"⟩ ⟨"RootCompass$Numbers", "inverse", "(II)I"⟩ ∈ mm_Gb := mg_s 19 (q := (⟨"RootCompass$Numbers", "inverse", "(II)I"⟩, 6)) (by decide +kernel)
theorem mg_466 : Cond.code ⟨"RootCompass$Numbers", "signOf", "(II)I"⟩ prog_3_method_29_code 8 (some .int) ∈ mm_Gb := mg_t2 (List.mem_of_getElem? (i := 136) (by decide +kernel)) (by decide +kernel)
theorem mg_467 : Cond.instanceMethod ⟨"RootCompass$Numbers", "signOf", "(II)I"⟩ ∈ mm_Gb := mg_t2 (List.mem_of_getElem? (i := 135) (by decide +kernel)) (by decide +kernel)
theorem mg_468 : Cond.selects "RootCompass$Numbers" ⟨"RootCompass$Numbers", "signOf", "(II)I"⟩ ⟨"RootCompass$Numbers", "signOf", "(II)I"⟩ ∈ mm_Gb := mg_s 22 (q := (⟨"RootCompass$Numbers", "signOf", "(II)I"⟩, 6)) (by decide +kernel)
theorem mg_469 : Cond.code ⟨"RootCompass$Numbers", "root", "(II)I"⟩ prog_3_method_30_code 13 (some .int) ∈ mm_Gb := mg_t2 (List.mem_of_getElem? (i := 143) (by decide +kernel)) (by decide +kernel)
theorem mg_470 : Cond.instanceMethod ⟨"RootCompass$Numbers", "root", "(II)I"⟩ ∈ mm_Gb := mg_t2 (List.mem_of_getElem? (i := 142) (by decide +kernel)) (by decide +kernel)
theorem mg_471 : Cond.selects "RootCompass$Numbers" ⟨"RootCompass$Numbers", "root", "(II)I"⟩ ⟨"RootCompass$Numbers", "root", "(II)I"⟩ ∈ mm_Gb := mg_s 23 (q := (⟨"RootCompass$Numbers", "root", "(II)I"⟩, 6)) (by decide +kernel)
theorem mg_472 : Cond.code ⟨"RootCompass$Numbers", "rootOfFraction", "(I)I"⟩ prog_3_method_31_code 5 (some .int) ∈ mm_Gb := mg_t2 (List.mem_of_getElem? (i := 147) (by decide +kernel)) (by decide +kernel)
theorem mg_473 : Cond.instanceMethod ⟨"RootCompass$Numbers", "rootOfFraction", "(I)I"⟩ ∈ mm_Gb := mg_t2 (List.mem_of_getElem? (i := 146) (by decide +kernel)) (by decide +kernel)
theorem mg_474 : Cond.selects "RootCompass$Numbers" ⟨"RootCompass$Numbers", "rootOfFraction", "(I)I"⟩ ⟨"RootCompass$Numbers", "rootOfFraction", "(I)I"⟩ ∈ mm_Gb := mg_s 24 (q := (⟨"RootCompass$Numbers", "rootOfFraction", "(I)I"⟩, 6)) (by decide +kernel)
theorem mg_475 : Cond.code ⟨"RootCompass$Numbers", "rootOfWhole", "(I)I"⟩ prog_3_method_32_code 5 (some .int) ∈ mm_Gb := mg_t2 (List.mem_of_getElem? (i := 150) (by decide +kernel)) (by decide +kernel)
theorem mg_476 : Cond.static ⟨"RootCompass$Numbers", "rootOfWhole", "(I)I"⟩ ∈ mm_Gb := mg_t2 (List.mem_of_getElem? (i := 149) (by decide +kernel)) (by decide +kernel)
theorem mg_477 : Cond.code ⟨"java/lang/Integer", "compare", "(II)I"⟩ prog_10_method_40_code 2 (some .int) ∈ mm_Gb := mg_t2 (List.mem_of_getElem? (i := 139) (by decide +kernel)) (by decide +kernel)
theorem mg_478 : Cond.initialized "java/lang/Integer" ∈ mm_Gb := mg_t1 (List.mem_of_getElem? (i := 11) (by decide +kernel)) (by decide +kernel)
theorem mg_479 : Cond.static ⟨"java/lang/Integer", "compare", "(II)I"⟩ ∈ mm_Gb := mg_t2 (List.mem_of_getElem? (i := 138) (by decide +kernel)) (by decide +kernel)
theorem mg_480 : Cond.methodLink "RootCompass" 45 ⟨"RootCompass", "isPlace", "(IIII)Z"⟩ ∈ mm_Gb := mg_t1 (List.mem_of_getElem? (i := 128) (by decide +kernel)) (by decide +kernel)
theorem mg_481 : Cond.methodLink "RootCompass" 56 ⟨"RootCompass", "addStep", "(IIII)I"⟩ ∈ mm_Gb := mg_t1 (List.mem_of_getElem? (i := 203) (by decide +kernel)) (by decide +kernel)
theorem mg_482 : Cond.methodLink "RootCompass" 60 ⟨"RootCompass", "place", "(IIIII)V"⟩ ∈ mm_Gb := mg_t1 (List.mem_of_getElem? (i := 223) (by decide +kernel)) (by decide +kernel)
theorem mg_483 : Cond.methodLink "RootCompass" 64 ⟨"RootCompass", "redraw", "(I)I"⟩ ∈ mm_Gb := mg_t2 (List.mem_of_getElem? (i := 21) (by decide +kernel)) (by decide +kernel)
theorem mg_484 : Cond.methodLink "RootCompass" 68 ⟨"RootCompass", "settle", "(I)I"⟩ ∈ mm_Gb := mg_t2 (List.mem_of_getElem? (i := 169) (by decide +kernel)) (by decide +kernel)
theorem mg_485 : Cond.methodLink "RootCompass" 71 ⟨"RootCompass", "isPoint", "(I)Z"⟩ ∈ mm_Gb := mg_t2 (List.mem_of_getElem? (i := 198) (by decide +kernel)) (by decide +kernel)
theorem mg_486 : Cond.methodLink "RootCompass" 77 ⟨"RootCompass", "isCurve", "(I)Z"⟩ ∈ mm_Gb := mg_t2 (List.mem_of_getElem? (i := 225) (by decide +kernel)) (by decide +kernel)
theorem mg_487 : Cond.methodLink "RootCompass" 82 ⟨"RootCompass", "isCircle", "(I)Z"⟩ ∈ mm_Gb := mg_t2 (List.mem_of_getElem? (i := 233) (by decide +kernel)) (by decide +kernel)
theorem mg_488 : Cond.methodLink "RootCompass" 87 ⟨"RootCompass", "isLine", "(I)Z"⟩ ∈ mm_Gb := mg_t2 (List.mem_of_getElem? (i := 229) (by decide +kernel)) (by decide +kernel)
theorem mg_489 : Cond.methodLink "RootCompass" 92 ⟨"RootCompass", "copyPlace", "(II)V"⟩ ∈ mm_Gb := mg_t3 (List.mem_of_getElem? (i := 7) (by decide +kernel)) (by decide +kernel)
theorem mg_490 : Cond.methodLink "RootCompass" 101 ⟨"RootCompass$Numbers", "begin", "()V"⟩ ∈ mm_Gb := mg_t1 (List.mem_of_getElem? (i := 227) (by decide +kernel)) (by decide +kernel)
theorem mg_491 : Cond.methodLink "RootCompass" 104 ⟨"RootCompass", "liesOnLine", "(II)Z"⟩ ∈ mm_Gb := mg_t3 (List.mem_of_getElem? (i := 19) (by decide +kernel)) (by decide +kernel)
theorem mg_492 : Cond.methodLink "RootCompass" 108 ⟨"RootCompass", "squareOfDistance", "(II)I"⟩ ∈ mm_Gb := mg_t2 (List.mem_of_getElem? (i := 85) (by decide +kernel)) (by decide +kernel)
theorem mg_493 : Cond.methodLink "RootCompass" 112 ⟨"RootCompass", "squareOf", "(I)I"⟩ ∈ mm_Gb := mg_t2 (List.mem_of_getElem? (i := 93) (by decide +kernel)) (by decide +kernel)
theorem mg_494 : Cond.methodLink "RootCompass" 115 ⟨"RootCompass$Numbers", "alike", "(II)Z"⟩ ∈ mm_Gb := mg_t2 (List.mem_of_getElem? (i := 33) (by decide +kernel)) (by decide +kernel)
theorem mg_495 : Cond.methodLink "RootCompass" 118 ⟨"RootCompass", "refuseTooWide", "()V"⟩ ∈ mm_Gb := mg_t3 (List.mem_of_getElem? (i := 23) (by decide +kernel)) (by decide +kernel)
theorem mg_496 : Cond.methodLink "RootCompass" 121 ⟨"RootCompass", "coincide", "(II)Z"⟩ ∈ mm_Gb := mg_t2 (List.mem_of_getElem? (i := 29) (by decide +kernel)) (by decide +kernel)
theorem mg_497 : Cond.methodLink "RootCompass" 126 ⟨"RootCompass", "lineA", "(I)I"⟩ ∈ mm_Gb := mg_t2 (List.mem_of_getElem? (i := 49) (by decide +kernel)) (by decide +kernel)
theorem mg_498 : Cond.methodLink "RootCompass" 129 ⟨"RootCompass", "lineB", "(I)I"⟩ ∈ mm_Gb := mg_t2 (List.mem_of_getElem? (i := 52) (by decide +kernel)) (by decide +kernel)
theorem mg_499 : Cond.methodLink "RootCompass" 132 ⟨"RootCompass$Numbers", "times", "(II)I"⟩ ∈ mm_Gb := mg_t2 (List.mem_of_getElem? (i := 55) (by decide +kernel)) (by decide +kernel)
theorem mg_500 : Cond.methodLink "RootCompass" 135 ⟨"RootCompass$Numbers", "plus", "(II)I"⟩ ∈ mm_Gb := mg_t2 (List.mem_of_getElem? (i := 74) (by decide +kernel)) (by decide +kernel)
theorem mg_501 : Cond.methodLink "RootCompass" 138 ⟨"RootCompass$Numbers", "isNought", "(I)Z"⟩ ∈ mm_Gb := mg_t2 (List.mem_of_getElem? (i := 89) (by decide +kernel)) (by decide +kernel)
theorem mg_502 : Cond.methodLink "RootCompass" 141 ⟨"RootCompass", "xOf", "(I)I"⟩ ∈ mm_Gb := mg_t2 (List.mem_of_getElem? (i := 5) (by decide +kernel)) (by decide +kernel)
theorem mg_503 : Cond.methodLink "RootCompass" 144 ⟨"RootCompass$Numbers", "minus", "(II)I"⟩ ∈ mm_Gb := mg_t2 (List.mem_of_getElem? (i := 37) (by decide +kernel)) (by decide +kernel)
theorem mg_504 : Cond.methodLink "RootCompass" 147 ⟨"RootCompass", "yOf", "(I)I"⟩ ∈ mm_Gb := mg_t2 (List.mem_of_getElem? (i := 18) (by decide +kernel)) (by decide +kernel)
theorem mg_505 : Cond.methodLink "RootCompass" 150 ⟨"RootCompass$Numbers", "signum", "(I)I"⟩ ∈ mm_Gb := mg_t3 (List.mem_of_getElem? (i := 57) (by decide +kernel)) (by decide +kernel)
theorem mg_506 : Cond.methodLink "RootCompass" 157 ⟨"RootCompass$Numbers", "whole", "(I)I"⟩ ∈ mm_Gb := mg_t3 (List.mem_of_getElem? (i := 71) (by decide +kernel)) (by decide +kernel)
theorem mg_507 : Cond.methodLink "RootCompass" 162 ⟨"RootCompass$Numbers", "read", "(IZ)I"⟩ ∈ mm_Gb := mg_t3 (List.mem_of_getElem? (i := 84) (by decide +kernel)) (by decide +kernel)
theorem mg_508 : Cond.methodLink "RootCompass" 171 ⟨"RootCompass$Numbers", "radicandOf", "(I)I"⟩ ∈ mm_Gb := mg_t3 (List.mem_of_getElem? (i := 112) (by decide +kernel)) (by decide +kernel)
theorem mg_509 : Cond.methodLink "RootCompass" 174 ⟨"RootCompass", "countFreePoints", "()I"⟩ ∈ mm_Gb := mg_t1 (List.mem_of_getElem? (i := 115) (by decide +kernel)) (by decide +kernel)
theorem mg_510 : Cond.methodLink "RootCompass" 178 ⟨"RootCompass", "kind", "(I)I"⟩ ∈ mm_Gb := mg_t2 (List.mem_of_getElem? (i := 202) (by decide +kernel)) (by decide +kernel)
theorem mg_511 : Cond.methodLink "RootCompass" 181 ⟨"RootCompass", "isInput", "(II)Z"⟩ ∈ mm_Gb := mg_t1 (List.mem_of_getElem? (i := 131) (by decide +kernel)) (by decide +kernel)
theorem mg_512 : Cond.methodLink "RootCompass" 189 ⟨"RootCompass", "undo", "()Z"⟩ ∈ mm_Gb := mg_t2 (List.mem_of_getElem? (i := 173) (by decide +kernel)) (by decide +kernel)
theorem mg_513 : Cond.methodLink "RootCompass" 204 ⟨"RootCompass", "drawLine", "(I)V"⟩ ∈ mm_Gb := mg_t2 (List.mem_of_getElem? (i := 25) (by decide +kernel)) (by decide +kernel)
theorem mg_514 : Cond.methodLink "RootCompass" 207 ⟨"RootCompass", "drawCircle", "(I)V"⟩ ∈ mm_Gb := mg_t2 (List.mem_of_getElem? (i := 81) (by decide +kernel)) (by decide +kernel)
theorem mg_515 : Cond.methodLink "RootCompass" 210 ⟨"RootCompass", "drawMiddle", "(I)V"⟩ ∈ mm_Gb := mg_t2 (List.mem_of_getElem? (i := 96) (by decide +kernel)) (by decide +kernel)
theorem mg_516 : Cond.methodLink "RootCompass" 213 ⟨"RootCompass", "drawMeetingOfLines", "(I)V"⟩ ∈ mm_Gb := mg_t2 (List.mem_of_getElem? (i := 109) (by decide +kernel)) (by decide +kernel)
theorem mg_517 : Cond.methodLink "RootCompass" 216 ⟨"RootCompass", "takeLine", "(I)V"⟩ ∈ mm_Gb := mg_t2 (List.mem_of_getElem? (i := 121) (by decide +kernel)) (by decide +kernel)
theorem mg_518 : Cond.methodLink "RootCompass" 219 ⟨"RootCompass", "measureCut", "(I)I"⟩ ∈ mm_Gb := mg_t2 (List.mem_of_getElem? (i := 125) (by decide +kernel)) (by decide +kernel)
theorem mg_519 : Cond.methodLink "RootCompass" 222 ⟨"RootCompass$Numbers", "takeRoot", "(I)I"⟩ ∈ mm_Gb := mg_t2 (List.mem_of_getElem? (i := 129) (by decide +kernel)) (by decide +kernel)
theorem mg_520 : Cond.methodLink "RootCompass" 225 ⟨"RootCompass", "drawCut", "(II)V"⟩ ∈ mm_Gb := mg_t2 (List.mem_of_getElem? (i := 157) (by decide +kernel)) (by decide +kernel)
theorem mg_521 : Cond.methodLink "RootCompass" 228 ⟨"RootCompass", "takeCommonLine", "(II)V"⟩ ∈ mm_Gb := mg_t2 (List.mem_of_getElem? (i := 165) (by decide +kernel)) (by decide +kernel)
theorem mg_522 : Cond.methodLink "RootCompass" 231 ⟨"RootCompass$Numbers", "copy", "(II)V"⟩ ∈ mm_Gb := mg_t2 (List.mem_of_getElem? (i := 11) (by decide +kernel)) (by decide +kernel)
theorem mg_523 : Cond.methodLink "RootCompass" 234 ⟨"RootCompass", "lineC", "(I)I"⟩ ∈ mm_Gb := mg_t2 (List.mem_of_getElem? (i := 78) (by decide +kernel)) (by decide +kernel)
theorem mg_524 : Cond.methodLink "RootCompass" 237 ⟨"RootCompass$Numbers", "halved", "(I)I"⟩ ∈ mm_Gb := mg_t2 (List.mem_of_getElem? (i := 100) (by decide +kernel)) (by decide +kernel)
theorem mg_525 : Cond.methodLink "RootCompass" 240 ⟨"RootCompass$Numbers", "inverted", "(I)I"⟩ ∈ mm_Gb := mg_t2 (List.mem_of_getElem? (i := 113) (by decide +kernel)) (by decide +kernel)
theorem mg_526 : Cond.methodLink "RootCompass" 264 ⟨"RootCompass$Numbers", "negated", "(I)I"⟩ ∈ mm_Gb := mg_t2 (List.mem_of_getElem? (i := 161) (by decide +kernel)) (by decide +kernel)
theorem mg_527 : Cond.methodLink "RootCompass" 267 ⟨"RootCompass$Numbers", "quotient", "(II)I"⟩ ∈ mm_Gb := mg_t1 (List.mem_of_getElem? (i := 231) (by decide +kernel)) (by decide +kernel)
theorem mg_528 : Cond.methodLink "RootCompass" 270 ⟨"RootCompass$Numbers", "home", "(I)I"⟩ ∈ mm_Gb := mg_t2 (List.mem_of_getElem? (i := 8) (by decide +kernel)) (by decide +kernel)
theorem mg_529 : Cond.methodLink "RootCompassModel" 35 ⟨"RootCompassModel", "divisor", "(JJ)J"⟩ ∈ mm_Gb := mg_t3 (List.mem_of_getElem? (i := 182) (by decide +kernel)) (by decide +kernel)
theorem mg_530 : Cond.methodLink "RootCompassModel" 47 ⟨"RootCompassModel", "put", "(IJJ)V"⟩ ∈ mm_Gb := mg_t3 (List.mem_of_getElem? (i := 178) (by decide +kernel)) (by decide +kernel)
theorem mg_531 : Cond.methodLink "RootCompassModel" 55 ⟨"RootCompassModel", "square", "(J)J"⟩ ∈ mm_Gb := mg_t4 (List.mem_of_getElem? (i := 100) (by decide +kernel)) (by decide +kernel)
theorem mg_532 : Cond.methodLink "RootCompassModel" 59 ⟨"RootCompassModel", "add0", "(III)V"⟩ ∈ mm_Gb := mg_t3 (List.mem_of_getElem? (i := 228) (by decide +kernel)) (by decide +kernel)
theorem mg_533 : Cond.methodLink "RootCompassModel" 63 ⟨"RootCompassModel", "sub0", "(III)V"⟩ ∈ mm_Gb := mg_t3 (List.mem_of_getElem? (i := 205) (by decide +kernel)) (by decide +kernel)
theorem mg_534 : Cond.methodLink "RootCompassModel" 66 ⟨"RootCompassModel", "neg0", "(II)V"⟩ ∈ mm_Gb := mg_t4 (List.mem_of_getElem? (i := 44) (by decide +kernel)) (by decide +kernel)
theorem mg_535 : Cond.methodLink "RootCompassModel" 70 ⟨"RootCompassModel", "mul0", "(III)V"⟩ ∈ mm_Gb := mg_t3 (List.mem_of_getElem? (i := 220) (by decide +kernel)) (by decide +kernel)
theorem mg_536 : Cond.methodLink "RootCompassModel" 73 ⟨"RootCompassModel", "norm1", "(II)V"⟩ ∈ mm_Gb := mg_t4 (List.mem_of_getElem? (i := 40) (by decide +kernel)) (by decide +kernel)
theorem mg_537 : Cond.methodLink "RootCompassModel" 76 ⟨"RootCompassModel", "inv0", "(II)V"⟩ ∈ mm_Gb := mg_t4 (List.mem_of_getElem? (i := 32) (by decide +kernel)) (by decide +kernel)
theorem mg_538 : Cond.methodLink "RootCompassModel" 79 ⟨"RootCompassModel", "sign0", "(I)I"⟩ ∈ mm_Gb := mg_t4 (List.mem_of_getElem? (i := 80) (by decide +kernel)) (by decide +kernel)
theorem mg_539 : Cond.methodLink "RootCompassModel" 83 ⟨"RootCompassModel", "root0", "(II)Z"⟩ ∈ mm_Gb := mg_t4 (List.mem_of_getElem? (i := 96) (by decide +kernel)) (by decide +kernel)
theorem mg_540 : Cond.methodLink "RootCompassModel" 87 ⟨"RootCompassModel", "sign1", "(I)I"⟩ ∈ mm_Gb := mg_t4 (List.mem_of_getElem? (i := 84) (by decide +kernel)) (by decide +kernel)
theorem mg_541 : Cond.methodLink "RootCompassModel" 90 ⟨"RootCompassModel", "set", "(III)V"⟩ ∈ mm_Gb := mg_t4 (List.mem_of_getElem? (i := 60) (by decide +kernel)) (by decide +kernel)
theorem mg_542 : Cond.methodLink "RootCompassModel" 93 ⟨"RootCompassModel", "neg", "(III)V"⟩ ∈ mm_Gb := mg_t4 (List.mem_of_getElem? (i := 56) (by decide +kernel)) (by decide +kernel)
theorem mg_543 : Cond.methodLink "RootCompassModel" 96 ⟨"RootCompassModel", "half1", "(IIIZ)Z"⟩ ∈ mm_Gb := mg_t4 (List.mem_of_getElem? (i := 109) (by decide +kernel)) (by decide +kernel)
theorem mg_544 : Cond.methodLink "RootCompassModel" 100 ⟨"RootCompassModel", "mul1", "(III)V"⟩ ∈ mm_Gb := mg_t3 (List.mem_of_getElem? (i := 224) (by decide +kernel)) (by decide +kernel)
theorem mg_545 : Cond.methodLink "RootCompassModel" 103 ⟨"RootCompassModel", "add", "(IIII)V"⟩ ∈ mm_Gb := mg_t3 (List.mem_of_getElem? (i := 236) (by decide +kernel)) (by decide +kernel)
theorem mg_546 : Cond.methodLink "RootCompassModel" 107 ⟨"RootCompassModel", "sub", "(IIII)V"⟩ ∈ mm_Gb := mg_t3 (List.mem_of_getElem? (i := 201) (by decide +kernel)) (by decide +kernel)
theorem mg_547 : Cond.methodLink "RootCompassModel" 110 ⟨"RootCompassModel", "norm2", "(II)V"⟩ ∈ mm_Gb := mg_t4 (List.mem_of_getElem? (i := 52) (by decide +kernel)) (by decide +kernel)
theorem mg_548 : Cond.methodLink "RootCompassModel" 113 ⟨"RootCompassModel", "inv1", "(II)V"⟩ ∈ mm_Gb := mg_t4 (List.mem_of_getElem? (i := 36) (by decide +kernel)) (by decide +kernel)
theorem mg_549 : Cond.methodLink "RootCompassModel" 116 ⟨"RootCompassModel", "halve", "(III)V"⟩ ∈ mm_Gb := mg_t4 (List.mem_of_getElem? (i := 12) (by decide +kernel)) (by decide +kernel)
theorem mg_550 : Cond.methodLink "RootCompassModel" 119 ⟨"RootCompassModel", "root1", "(II)Z"⟩ ∈ mm_Gb := mg_t4 (List.mem_of_getElem? (i := 105) (by decide +kernel)) (by decide +kernel)
theorem mg_551 : Cond.methodLink "RootCompassModel" 122 ⟨"RootCompassModel", "sign2", "(I)I"⟩ ∈ mm_Gb := mg_t4 (List.mem_of_getElem? (i := 88) (by decide +kernel)) (by decide +kernel)
theorem mg_552 : Cond.methodLink "RootCompassModel" 125 ⟨"RootCompassModel", "isZero", "(II)Z"⟩ ∈ mm_Gb := mg_t4 (List.mem_of_getElem? (i := 4) (by decide +kernel)) (by decide +kernel)
theorem mg_553 : Cond.methodLink "RootCompassModel" 128 ⟨"RootCompassModel", "clear", "(II)V"⟩ ∈ mm_Gb := mg_t3 (List.mem_of_getElem? (i := 174) (by decide +kernel)) (by decide +kernel)
theorem mg_554 : Cond.methodLink "RootCompassModel" 131 ⟨"RootCompassModel", "half2", "(IIIZ)Z"⟩ ∈ mm_Gb := mg_t4 (List.mem_of_getElem? (i := 117) (by decide +kernel)) (by decide +kernel)
theorem mg_555 : Cond.methodLink "RootCompassModel" 137 ⟨"RootCompassModel", "mul2", "(III)V"⟩ ∈ mm_Gb := mg_t3 (List.mem_of_getElem? (i := 232) (by decide +kernel)) (by decide +kernel)
theorem mg_556 : Cond.methodLink "RootCompassModel" 140 ⟨"RootCompassModel", "inv2", "(II)V"⟩ ∈ mm_Gb := mg_t4 (List.mem_of_getElem? (i := 48) (by decide +kernel)) (by decide +kernel)
theorem mg_557 : Cond.methodLink "RootCompassModel" 143 ⟨"RootCompassModel", "root2", "(II)Z"⟩ ∈ mm_Gb := mg_t4 (List.mem_of_getElem? (i := 113) (by decide +kernel)) (by decide +kernel)
theorem mg_558 : Cond.methodLink "RootCompassModel" 149 ⟨"RootCompassModel", "signOf", "(I)I"⟩ ∈ mm_Gb := mg_t4 (List.mem_of_getElem? (i := 76) (by decide +kernel)) (by decide +kernel)
theorem mg_559 : Cond.methodLink "RootCompassModel" 152 ⟨"RootCompassModel", "root", "(II)Z"⟩ ∈ mm_Gb := mg_t4 (List.mem_of_getElem? (i := 92) (by decide +kernel)) (by decide +kernel)
theorem mg_560 : Cond.methodLink "RootCompassModel" 155 ⟨"RootCompassModel", "work", "(I)I"⟩ ∈ mm_Gb := mg_t3 (List.mem_of_getElem? (i := 213) (by decide +kernel)) (by decide +kernel)
theorem mg_561 : Cond.methodLink "RootCompassModel" 158 ⟨"RootCompassModel", "mul", "(III)V"⟩ ∈ mm_Gb := mg_t3 (List.mem_of_getElem? (i := 216) (by decide +kernel)) (by decide +kernel)
theorem mg_562 : Cond.methodLink "RootCompassModel" 161 ⟨"RootCompassModel", "xOf", "(I)I"⟩ ∈ mm_Gb := mg_t3 (List.mem_of_getElem? (i := 191) (by decide +kernel)) (by decide +kernel)
theorem mg_563 : Cond.methodLink "RootCompassModel" 164 ⟨"RootCompassModel", "yOf", "(I)I"⟩ ∈ mm_Gb := mg_t3 (List.mem_of_getElem? (i := 198) (by decide +kernel)) (by decide +kernel)
theorem mg_564 : Cond.methodLink "RootCompassModel" 167 ⟨"RootCompassModel", "products", "(IIIII)V"⟩ ∈ mm_Gb := mg_t3 (List.mem_of_getElem? (i := 209) (by decide +kernel)) (by decide +kernel)
theorem mg_565 : Cond.methodLink "RootCompassModel" 171 ⟨"RootCompassModel", "alike", "(II)Z"⟩ ∈ mm_Gb := mg_t3 (List.mem_of_getElem? (i := 194) (by decide +kernel)) (by decide +kernel)
theorem mg_566 : Cond.methodLink "RootCompassModel" 174 ⟨"RootCompassModel", "cross", "(IIIII)V"⟩ ∈ mm_Gb := mg_t4 (List.mem_of_getElem? (i := 24) (by decide +kernel)) (by decide +kernel)
theorem mg_567 : Cond.methodLink "RootCompassModel" 177 ⟨"RootCompassModel", "inv", "(II)V"⟩ ∈ mm_Gb := mg_t4 (List.mem_of_getElem? (i := 28) (by decide +kernel)) (by decide +kernel)
theorem mg_568 : Cond.methodLink "RootCompassModel" 180 ⟨"RootCompassModel", "takeRoot", "(II)V"⟩ ∈ mm_Gb := mg_t4 (List.mem_of_getElem? (i := 72) (by decide +kernel)) (by decide +kernel)
theorem mg_569 : Cond.methodLink "RootCompassModel" 183 ⟨"RootCompassModel", "meetCircle", "(IIII)V"⟩ ∈ mm_Gb := mg_t4 (List.mem_of_getElem? (i := 68) (by decide +kernel)) (by decide +kernel)
theorem mg_570 : Cond.methodLink "RootCompassModel" 186 ⟨"RootCompassModel", "meetLines", "(III)V"⟩ ∈ mm_Gb := mg_t4 (List.mem_of_getElem? (i := 20) (by decide +kernel)) (by decide +kernel)
theorem mg_571 : Cond.methodLink "RootCompassModel" 189 ⟨"RootCompassModel", "meetCircles", "(IIII)V"⟩ ∈ mm_Gb := mg_t4 (List.mem_of_getElem? (i := 64) (by decide +kernel)) (by decide +kernel)
theorem mg_572 : Cond.methodLink "RootCompassModel" 192 ⟨"RootCompassModel", "makeLine", "(III)V"⟩ ∈ mm_Gb := mg_t3 (List.mem_of_getElem? (i := 187) (by decide +kernel)) (by decide +kernel)
theorem mg_573 : Cond.methodLink "RootCompassModel" 195 ⟨"RootCompassModel", "squared", "(III)V"⟩ ∈ mm_Gb := mg_t4 (List.mem_of_getElem? (i := 0) (by decide +kernel)) (by decide +kernel)
theorem mg_574 : Cond.methodLink "RootCompassModel" 198 ⟨"RootCompassModel", "makeMiddle", "(III)V"⟩ ∈ mm_Gb := mg_t4 (List.mem_of_getElem? (i := 8) (by decide +kernel)) (by decide +kernel)
theorem mg_575 : Cond.methodLink "RootCompassModel" 201 ⟨"RootCompassModel", "makeMeeting", "(IIII)V"⟩ ∈ mm_Gb := mg_t4 (List.mem_of_getElem? (i := 16) (by decide +kernel)) (by decide +kernel)
theorem mg_576 : Cond.methodLink "RootCompassModel" 207 ⟨"RootCompassModel", "make", "(I)Z"⟩ ∈ mm_Gb := mg_t3 (List.mem_of_getElem? (i := 170) (by decide +kernel)) (by decide +kernel)
theorem mg_577 : Cond.methodLink "RootCompassModel" 211 ⟨"RootCompassModel", "kindOf", "(I)I"⟩ ∈ mm_Gb := mg_t4 (List.mem_of_getElem? (i := 129) (by decide +kernel)) (by decide +kernel)
theorem mg_578 : Cond.methodLink "RootCompassModel" 214 ⟨"RootCompassModel", "isFraction", "(II)Z"⟩ ∈ mm_Gb := mg_t3 (List.mem_of_getElem? (i := 163) (by decide +kernel)) (by decide +kernel)
theorem mg_579 : Cond.methodLink "RootCompassModel" 217 ⟨"RootCompassModel", "fresh", "(IIIII)I"⟩ ∈ mm_Gb := mg_t3 (List.mem_of_getElem? (i := 166) (by decide +kernel)) (by decide +kernel)
theorem mg_580 : Cond.methodLink "RootCompassModel" 221 ⟨"RootCompassModel", "isPoint", "(I)Z"⟩ ∈ mm_Gb := mg_t4 (List.mem_of_getElem? (i := 125) (by decide +kernel)) (by decide +kernel)
theorem mg_581 : Cond.methodLink "RootCompassModel" 224 ⟨"RootCompassModel", "become", "(IIIII)V"⟩ ∈ mm_Gb := mg_t4 (List.mem_of_getElem? (i := 149) (by decide +kernel)) (by decide +kernel)
theorem mg_582 : Cond.methodLink "RootCompassModel" 227 ⟨"RootCompassModel", "redraw", "()I"⟩ ∈ mm_Gb := mg_t4 (List.mem_of_getElem? (i := 153) (by decide +kernel)) (by decide +kernel)
theorem mg_583 : Cond.methodLink "RootCompassModel" 231 ⟨"RootCompassModel", "told", "(Z)Z"⟩ ∈ mm_Gb := mg_t4 (List.mem_of_getElem? (i := 165) (by decide +kernel)) (by decide +kernel)
theorem mg_584 : Cond.methodLink "RootCompass$Numbers" 29 ⟨"java/lang/System", "arraycopy", "(Ljava/lang/Object;ILjava/lang/Object;II)V"⟩ ∈ mm_Gb := mg_t2 (List.mem_of_getElem? (i := 15) (by decide +kernel)) (by decide +kernel)
theorem mg_585 : Cond.native ⟨"java/lang/System", "arraycopy", "(Ljava/lang/Object;ILjava/lang/Object;II)V"⟩ ∈ mm_Gb := mg_t2 (List.mem_of_getElem? (i := 17) (by decide +kernel)) (by decide +kernel)
theorem mg_586 : Cond.static ⟨"java/lang/System", "arraycopy", "(Ljava/lang/Object;ILjava/lang/Object;II)V"⟩ ∈ mm_Gb := mg_t2 (List.mem_of_getElem? (i := 16) (by decide +kernel)) (by decide +kernel)
theorem mg_587 : Cond.initialized "java/lang/System" ∈ mm_Gb := mg_t1 (List.mem_of_getElem? (i := 10) (by decide +kernel)) (by decide +kernel)
theorem mg_588 : Cond.methodLink "RootCompass$Numbers" 35 ⟨"RootCompass$Numbers", "isZero", "(II)Z"⟩ ∈ mm_Gb := mg_t2 (List.mem_of_getElem? (i := 63) (by decide +kernel)) (by decide +kernel)
theorem mg_589 : Cond.methodLink "RootCompass$Numbers" 39 ⟨"RootCompass$Numbers", "quotient", "(II)I"⟩ ∈ mm_Gb := mg_t3 (List.mem_of_getElem? (i := 75) (by decide +kernel)) (by decide +kernel)
theorem mg_590 : Cond.methodLink "RootCompass$Numbers" 43 ⟨"RootCompass$Numbers", "reserve", "()I"⟩ ∈ mm_Gb := mg_t1 (List.mem_of_getElem? (i := 235) (by decide +kernel)) (by decide +kernel)
theorem mg_591 : Cond.methodLink "RootCompass$Numbers" 47 ⟨"RootCompass$Numbers", "put", "(IJJ)V"⟩ ∈ mm_Gb := mg_t1 (List.mem_of_getElem? (i := 239) (by decide +kernel)) (by decide +kernel)
theorem mg_592 : Cond.methodLink "RootCompass$Numbers" 54 ⟨"RootCompass$Numbers", "sum", "(III)I"⟩ ∈ mm_Gb := mg_t2 (List.mem_of_getElem? (i := 45) (by decide +kernel)) (by decide +kernel)
theorem mg_593 : Cond.methodLink "RootCompass$Numbers" 58 ⟨"RootCompass$Numbers", "negative", "(II)I"⟩ ∈ mm_Gb := mg_t2 (List.mem_of_getElem? (i := 41) (by decide +kernel)) (by decide +kernel)
theorem mg_594 : Cond.methodLink "RootCompass$Numbers" 61 ⟨"RootCompass$Numbers", "product", "(III)I"⟩ ∈ mm_Gb := mg_t2 (List.mem_of_getElem? (i := 59) (by decide +kernel)) (by decide +kernel)
theorem mg_595 : Cond.methodLink "RootCompass$Numbers" 64 ⟨"RootCompass$Numbers", "half", "(II)I"⟩ ∈ mm_Gb := mg_t2 (List.mem_of_getElem? (i := 104) (by decide +kernel)) (by decide +kernel)
theorem mg_596 : Cond.methodLink "RootCompass$Numbers" 67 ⟨"RootCompass$Numbers", "inverse", "(II)I"⟩ ∈ mm_Gb := mg_t2 (List.mem_of_getElem? (i := 117) (by decide +kernel)) (by decide +kernel)
theorem mg_597 : Cond.methodLink "RootCompass$Numbers" 70 ⟨"RootCompass$Numbers", "signOf", "(II)I"⟩ ∈ mm_Gb := mg_t2 (List.mem_of_getElem? (i := 133) (by decide +kernel)) (by decide +kernel)
theorem mg_598 : Cond.methodLink "RootCompass$Numbers" 73 ⟨"RootCompass$Numbers", "root", "(II)I"⟩ ∈ mm_Gb := mg_t2 (List.mem_of_getElem? (i := 140) (by decide +kernel)) (by decide +kernel)
theorem mg_599 : Cond.methodLink "RootCompass$Numbers" 76 ⟨"RootCompass$Numbers", "newLevel", "(I)I"⟩ ∈ mm_Gb := mg_t2 (List.mem_of_getElem? (i := 152) (by decide +kernel)) (by decide +kernel)
theorem mg_600 : Cond.methodLink "RootCompass$Numbers" 80 ⟨"RootCompass$Numbers", "radicandOf", "(I)I"⟩ ∈ mm_Gb := mg_t2 (List.mem_of_getElem? (i := 67) (by decide +kernel)) (by decide +kernel)
theorem mg_601 : Cond.methodLink "RootCompass$Numbers" 83 ⟨"RootCompass$Numbers", "copy", "(II)V"⟩ ∈ mm_Gb := mg_t2 (List.mem_of_getElem? (i := 156) (by decide +kernel)) (by decide +kernel)
theorem mg_602 : Cond.methodLink "RootCompass$Numbers" 93 ⟨"RootCompass$Numbers", "pair", "(IIII)I"⟩ ∈ mm_Gb := mg_t2 (List.mem_of_getElem? (i := 70) (by decide +kernel)) (by decide +kernel)
theorem mg_603 : Cond.methodLink "RootCompass$Numbers" 97 ⟨"java/lang/Integer", "compare", "(II)I"⟩ ∈ mm_Gb := mg_t2 (List.mem_of_getElem? (i := 137) (by decide +kernel)) (by decide +kernel)
theorem mg_604 : Cond.methodLink "RootCompass$Numbers" 102 ⟨"RootCompass$Numbers", "rootOfFraction", "(I)I"⟩ ∈ mm_Gb := mg_t2 (List.mem_of_getElem? (i := 144) (by decide +kernel)) (by decide +kernel)
theorem mg_605 : Cond.methodLink "RootCompass$Numbers" 105 ⟨"RootCompass$Numbers", "rootOfWhole", "(I)I"⟩ ∈ mm_Gb := mg_t2 (List.mem_of_getElem? (i := 148) (by decide +kernel)) (by decide +kernel)
def mm_RM : String := "RootCompassModel"
def mm_TM : u_T := fun k => match k with
  | 0 => ("RootCompassModel", "thrown", "I", false)
  | 1 => ("RootCompassModel", "depth", "I", false)
  | 2 => ("RootCompassModel", "wide", "Z", false)
  | 3 => ("RootCompassModel", "failed", "Z", false)
  | 4 => ("RootCompassModel", "p", "[J", true)
  | 5 => ("RootCompassModel", "q", "[J", true)
  | 6 => ("RootCompassModel", "oldP", "[J", true)
  | 7 => ("RootCompassModel", "oldQ", "[J", true)
  | 8 => ("RootCompassModel", "objects", "I", false)
  | 9 => ("RootCompassModel", "step", "[I", true)
  | _ => ("RootCompassModel", "of", "[I", true)
def mm_tyM : Nat → FieldType := fun k => match k with
  | 0 => .int
  | 1 => .int
  | 2 => .boolean
  | 3 => .boolean
  | 4 => .array .long
  | 5 => .array .long
  | 6 => .array .long
  | 7 => .array .long
  | 8 => .int
  | 9 => .array .int
  | _ => .array .int
theorem mm_nmM : ∀ a, a < 11 → ∀ b, b < 11 → a ≠ b → (mm_TM a).2.1 ≠ (mm_TM b).2.1 := by decide +kernel
theorem mm_tyM_ok : ∀ k, k < 11 → parseFieldDescriptor (mm_TM k).2.2.1 = some (mm_tyM k) := by decide +kernel
def mm_clb : List vw_C := [(RX0, TX0, 7), (RX1, TX1, 6), (RX2, TX2, 8), (mm_RM, mm_TM, 11)]
theorem mi_0 : ∀ w ∈ u_ws RX0 TX0 7, w ∈ mm_Gb := by decide +kernel
theorem mi_1 : ∀ w ∈ u_ws RX1 TX1 6, w ∈ mm_Gb := by decide +kernel
theorem mi_2 : ∀ w ∈ u_ws RX2 TX2 8, w ∈ mm_Gb := by decide +kernel
theorem mi_3 : ∀ w ∈ u_ws mm_RM mm_TM 11, w ∈ mm_Gb := by decide +kernel
def mm_Zb : mm_Sx := ([("RootCompass", 51, "a number is out of its range"), ("RootCompass", 75, "no such points"), ("RootCompass", 80, "no two such lines or circles"), ("RootCompass", 85, "no such meeting"), ("RootCompass", 90, "no such free point"), ("RootCompass", 99, "no such point, or no such line or circle"), ("RootCompass", 124, "no such lines"), ("RootCompass", 155, "no such point, or n is out of its range"), ("RootCompass", 160, "no such point or part"), ("RootCompass", 168, "no such level or part"), ("RootCompass", 186, "there are 24 objects"), ("RootCompass", 195, "this can\'t be made"), ("RootCompass", 202, "a fraction is too wide")], [("RootCompass", 96, "RootCompass$Numbers", "depth", "I", "RootCompass"), ("RootCompass", 198, "RootCompass$Numbers", "failed", "Z", "RootCompass"), ("RootCompass", 243, "RootCompass$Cut", "a", "I", "RootCompass"), ("RootCompass", 246, "RootCompass$Cut", "b", "I", "RootCompass"), ("RootCompass", 249, "RootCompass$Cut", "c", "I", "RootCompass"), ("RootCompass", 252, "RootCompass$Cut", "x", "I", "RootCompass"), ("RootCompass", 255, "RootCompass$Cut", "y", "I", "RootCompass"), ("RootCompass", 258, "RootCompass$Cut", "e", "I", "RootCompass"), ("RootCompass", 261, "RootCompass$Cut", "m", "I", "RootCompass")], ["java/lang/IllegalArgumentException", "java/lang/IllegalStateException", "java/lang/IndexOutOfBoundsException", "java/lang/UnsupportedOperationException"])
theorem mn_0 : ("RootCompass", 96, "RootCompass$Numbers", "depth", "I", "RootCompass") ∈ mm_Zb.2.1 := List.mem_of_getElem? (i := 0) rfl
theorem mn_1 : ("RootCompass", 198, "RootCompass$Numbers", "failed", "Z", "RootCompass") ∈ mm_Zb.2.1 := List.mem_of_getElem? (i := 1) rfl
theorem mn_2 : ("RootCompass", 243, "RootCompass$Cut", "a", "I", "RootCompass") ∈ mm_Zb.2.1 := List.mem_of_getElem? (i := 2) rfl
theorem mn_3 : ("RootCompass", 246, "RootCompass$Cut", "b", "I", "RootCompass") ∈ mm_Zb.2.1 := List.mem_of_getElem? (i := 3) rfl
theorem mn_4 : ("RootCompass", 249, "RootCompass$Cut", "c", "I", "RootCompass") ∈ mm_Zb.2.1 := List.mem_of_getElem? (i := 4) rfl
theorem mn_5 : ("RootCompass", 252, "RootCompass$Cut", "x", "I", "RootCompass") ∈ mm_Zb.2.1 := List.mem_of_getElem? (i := 5) rfl
theorem mn_6 : ("RootCompass", 255, "RootCompass$Cut", "y", "I", "RootCompass") ∈ mm_Zb.2.1 := List.mem_of_getElem? (i := 6) rfl
theorem mn_7 : ("RootCompass", 258, "RootCompass$Cut", "e", "I", "RootCompass") ∈ mm_Zb.2.1 := List.mem_of_getElem? (i := 7) rfl
theorem mn_8 : ("RootCompass", 261, "RootCompass$Cut", "m", "I", "RootCompass") ∈ mm_Zb.2.1 := List.mem_of_getElem? (i := 8) rfl
theorem mt_0 : mm_Tb[0]? = some mp_C_free_t := rfl
theorem mt_1 : mm_Tb[1]? = some mp_C_line_t := rfl
theorem mt_2 : mm_Tb[2]? = some mp_C_circle_t := rfl
theorem mt_3 : mm_Tb[3]? = some mp_C_middle_t := rfl
theorem mt_4 : mm_Tb[4]? = some mp_C_meet_t := rfl
theorem mt_5 : mm_Tb[5]? = some mp_C_move_t := rfl
theorem mt_6 : mm_Tb[6]? = some mp_C_undo_t := rfl
theorem mt_7 : mm_Tb[7]? = some mp_C_on_t := rfl
theorem mt_8 : mm_Tb[8]? = some mp_C_same_t := rfl
theorem mt_9 : mm_Tb[9]? = some mp_C_equal_t := rfl
theorem mt_10 : mm_Tb[10]? = some mp_C_angle_t := rfl
theorem mt_11 : mm_Tb[11]? = some mp_C_side_t := rfl
theorem mt_12 : mm_Tb[12]? = some mp_C_sign_t := rfl
theorem mt_13 : mm_Tb[13]? = some mp_C_part_t := rfl
theorem mt_14 : mm_Tb[14]? = some mp_C_radicand_t := rfl
theorem mt_15 : mm_Tb[15]? = some mp_C_kind_t := rfl
theorem mt_16 : mm_Tb[16]? = some mp_C_look_t := rfl
theorem mt_17 : mm_Tb[17]? = some mp_C_countFreePoints_t := rfl
theorem mt_18 : mm_Tb[18]? = some mp_C_isPoint_t := rfl
theorem mt_19 : mm_Tb[19]? = some mp_C_isLine_t := rfl
theorem mt_20 : mm_Tb[20]? = some mp_C_isCircle_t := rfl
theorem mt_21 : mm_Tb[21]? = some mp_C_isCurve_t := rfl
theorem mt_22 : mm_Tb[22]? = some mp_C_isPlace_t := rfl
theorem mt_23 : mm_Tb[23]? = some mp_C_isInput_t := rfl
theorem mt_24 : mm_Tb[24]? = some mp_C_addStep_t := rfl
theorem mt_25 : mm_Tb[25]? = some mp_C_settle_t := rfl
theorem mt_26 : mm_Tb[26]? = some mp_C_refuseTooWide_t := rfl
theorem mt_27 : mm_Tb[27]? = some mp_C_redraw_t := rfl
theorem mt_28 : mm_Tb[28]? = some mp_C_drawLine_t := rfl
theorem mt_29 : mm_Tb[29]? = some mp_C_drawCircle_t := rfl
theorem mt_30 : mm_Tb[30]? = some mp_C_drawMiddle_t := rfl
theorem mt_31 : mm_Tb[31]? = some mp_C_drawMeetingOfLines_t := rfl
theorem mt_32 : mm_Tb[32]? = some mp_C_takeLine_t := rfl
theorem mt_33 : mm_Tb[33]? = some mp_C_takeCommonLine_t := rfl
theorem mt_34 : mm_Tb[34]? = some mp_C_measureCut_t := rfl
theorem mt_35 : mm_Tb[35]? = some mp_C_drawCut_t := rfl
theorem mt_36 : mm_Tb[36]? = some mp_C_liesOnLine_t := rfl
theorem mt_37 : mm_Tb[37]? = some mp_C_coincide_t := rfl
theorem mt_38 : mm_Tb[38]? = some mp_C_squareOfDistance_t := rfl
theorem mt_39 : mm_Tb[39]? = some mp_C_place_t := rfl
theorem mt_40 : mm_Tb[40]? = some mp_C_copyPlace_t := rfl
theorem mt_41 : mm_Tb[41]? = some mp_C_xOf_t := rfl
theorem mt_42 : mm_Tb[42]? = some mp_C_yOf_t := rfl
theorem mt_43 : mm_Tb[43]? = some mp_C_lineA_t := rfl
theorem mt_44 : mm_Tb[44]? = some mp_C_lineB_t := rfl
theorem mt_45 : mm_Tb[45]? = some mp_C_lineC_t := rfl
theorem mt_46 : mm_Tb[46]? = some mp_C_squareOf_t := rfl
theorem mt_47 : mm_Tb[47]? = some mp_M_thrown_t := rfl
theorem mt_48 : mm_Tb[48]? = some mp_M_divisor_t := rfl
theorem mt_49 : mm_Tb[49]? = some mp_M_put_t := rfl
theorem mt_50 : mm_Tb[50]? = some mp_M_add0_t := rfl
theorem mt_51 : mm_Tb[51]? = some mp_M_sub0_t := rfl
theorem mt_52 : mm_Tb[52]? = some mp_M_mul0_t := rfl
theorem mt_53 : mm_Tb[53]? = some mp_M_neg0_t := rfl
theorem mt_54 : mm_Tb[54]? = some mp_M_inv0_t := rfl
theorem mt_55 : mm_Tb[55]? = some mp_M_sign0_t := rfl
theorem mt_56 : mm_Tb[56]? = some mp_M_square_t := rfl
theorem mt_57 : mm_Tb[57]? = some mp_M_root0_t := rfl
theorem mt_58 : mm_Tb[58]? = some mp_M_set_t := rfl
theorem mt_59 : mm_Tb[59]? = some mp_M_add_t := rfl
theorem mt_60 : mm_Tb[60]? = some mp_M_sub_t := rfl
theorem mt_61 : mm_Tb[61]? = some mp_M_neg_t := rfl
theorem mt_62 : mm_Tb[62]? = some mp_M_halve_t := rfl
theorem mt_63 : mm_Tb[63]? = some mp_M_isZero_t := rfl
theorem mt_64 : mm_Tb[64]? = some mp_M_alike_t := rfl
theorem mt_65 : mm_Tb[65]? = some mp_M_clear_t := rfl
theorem mt_66 : mm_Tb[66]? = some mp_M_mul1_t := rfl
theorem mt_67 : mm_Tb[67]? = some mp_M_norm1_t := rfl
theorem mt_68 : mm_Tb[68]? = some mp_M_inv1_t := rfl
theorem mt_69 : mm_Tb[69]? = some mp_M_sign1_t := rfl
theorem mt_70 : mm_Tb[70]? = some mp_M_half1_t := rfl
theorem mt_71 : mm_Tb[71]? = some mp_M_root1_t := rfl
theorem mt_72 : mm_Tb[72]? = some mp_M_mul2_t := rfl
theorem mt_73 : mm_Tb[73]? = some mp_M_norm2_t := rfl
theorem mt_74 : mm_Tb[74]? = some mp_M_inv2_t := rfl
theorem mt_75 : mm_Tb[75]? = some mp_M_sign2_t := rfl
theorem mt_76 : mm_Tb[76]? = some mp_M_half2_t := rfl
theorem mt_77 : mm_Tb[77]? = some mp_M_root2_t := rfl
theorem mt_78 : mm_Tb[78]? = some mp_M_mul_t := rfl
theorem mt_79 : mm_Tb[79]? = some mp_M_inv_t := rfl
theorem mt_80 : mm_Tb[80]? = some mp_M_signOf_t := rfl
theorem mt_81 : mm_Tb[81]? = some mp_M_root_t := rfl
theorem mt_82 : mm_Tb[82]? = some mp_M_takeRoot_t := rfl
theorem mt_83 : mm_Tb[83]? = some mp_M_xOf_t := rfl
theorem mt_84 : mm_Tb[84]? = some mp_M_yOf_t := rfl
theorem mt_85 : mm_Tb[85]? = some mp_M_work_t := rfl
theorem mt_86 : mm_Tb[86]? = some mp_M_products_t := rfl
theorem mt_87 : mm_Tb[87]? = some mp_M_cross_t := rfl
theorem mt_88 : mm_Tb[88]? = some mp_M_squared_t := rfl
theorem mt_89 : mm_Tb[89]? = some mp_M_makeLine_t := rfl
theorem mt_90 : mm_Tb[90]? = some mp_M_makeMiddle_t := rfl
theorem mt_91 : mm_Tb[91]? = some mp_M_meetLines_t := rfl
theorem mt_92 : mm_Tb[92]? = some mp_M_meetCircle_t := rfl
theorem mt_93 : mm_Tb[93]? = some mp_M_meetCircles_t := rfl
theorem mt_94 : mm_Tb[94]? = some mp_M_makeMeeting_t := rfl
theorem mt_95 : mm_Tb[95]? = some mp_M_make_t := rfl
theorem mt_96 : mm_Tb[96]? = some mp_M_redraw_t := rfl
theorem mt_97 : mm_Tb[97]? = some mp_M_isPoint_t := rfl
theorem mt_98 : mm_Tb[98]? = some mp_M_kindOf_t := rfl
theorem mt_99 : mm_Tb[99]? = some mp_M_fresh_t := rfl
theorem mt_100 : mm_Tb[100]? = some mp_M_isFraction_t := rfl
theorem mt_101 : mm_Tb[101]? = some mp_M_free_t := rfl
theorem mt_102 : mm_Tb[102]? = some mp_M_line_t := rfl
theorem mt_103 : mm_Tb[103]? = some mp_M_circle_t := rfl
theorem mt_104 : mm_Tb[104]? = some mp_M_middle_t := rfl
theorem mt_105 : mm_Tb[105]? = some mp_M_meet_t := rfl
theorem mt_106 : mm_Tb[106]? = some mp_M_move_t := rfl
theorem mt_107 : mm_Tb[107]? = some mp_M_become_t := rfl
theorem mt_108 : mm_Tb[108]? = some mp_M_undo_t := rfl
theorem mt_109 : mm_Tb[109]? = some mp_M_told_t := rfl
theorem mt_110 : mm_Tb[110]? = some mp_M_on_t := rfl
theorem mt_111 : mm_Tb[111]? = some mp_M_same_t := rfl
theorem mt_112 : mm_Tb[112]? = some mp_M_equal_t := rfl
theorem mt_113 : mm_Tb[113]? = some mp_M_angle_t := rfl
theorem mt_114 : mm_Tb[114]? = some mp_M_side_t := rfl
theorem mt_115 : mm_Tb[115]? = some mp_M_sign_t := rfl
theorem mt_116 : mm_Tb[116]? = some mp_M_part_t := rfl
theorem mt_117 : mm_Tb[117]? = some mp_M_radicand_t := rfl
theorem mt_118 : mm_Tb[118]? = some mp_M_kind_t := rfl
theorem mt_119 : mm_Tb[119]? = some mp_M_look_t := rfl
theorem mt_120 : mm_Tb[120]? = some mp_N_radicandOf_t := rfl
theorem mt_121 : mm_Tb[121]? = some mp_N_home_t := rfl
theorem mt_122 : mm_Tb[122]? = some mp_N_begin_t := rfl
theorem mt_123 : mm_Tb[123]? = some mp_N_read_t := rfl
theorem mt_124 : mm_Tb[124]? = some mp_N_copy_t := rfl
theorem mt_125 : mm_Tb[125]? = some mp_N_alike_t := rfl
theorem mt_126 : mm_Tb[126]? = some mp_N_isNought_t := rfl
theorem mt_127 : mm_Tb[127]? = some mp_N_whole_t := rfl
theorem mt_128 : mm_Tb[128]? = some mp_N_quotient_t := rfl
theorem mt_129 : mm_Tb[129]? = some mp_N_plus_t := rfl
theorem mt_130 : mm_Tb[130]? = some mp_N_minus_t := rfl
theorem mt_131 : mm_Tb[131]? = some mp_N_times_t := rfl
theorem mt_132 : mm_Tb[132]? = some mp_N_negated_t := rfl
theorem mt_133 : mm_Tb[133]? = some mp_N_halved_t := rfl
theorem mt_134 : mm_Tb[134]? = some mp_N_inverted_t := rfl
theorem mt_135 : mm_Tb[135]? = some mp_N_signum_t := rfl
theorem mt_136 : mm_Tb[136]? = some mp_N_takeRoot_t := rfl
theorem mt_137 : mm_Tb[137]? = some mp_N_newLevel_t := rfl
theorem mt_138 : mm_Tb[138]? = some mp_N_reserve_t := rfl
theorem mt_139 : mm_Tb[139]? = some mp_N_put_t := rfl
theorem mt_140 : mm_Tb[140]? = some mp_N_pair_t := rfl
theorem mt_141 : mm_Tb[141]? = some mp_N_isZero_t := rfl
theorem mt_142 : mm_Tb[142]? = some mp_N_sum_t := rfl
theorem mt_143 : mm_Tb[143]? = some mp_N_negative_t := rfl
theorem mt_144 : mm_Tb[144]? = some mp_N_half_t := rfl
theorem mt_145 : mm_Tb[145]? = some mp_N_product_t := rfl
theorem mt_146 : mm_Tb[146]? = some mp_N_inverse_t := rfl
theorem mt_147 : mm_Tb[147]? = some mp_N_signOf_t := rfl
theorem mt_148 : mm_Tb[148]? = some mp_N_root_t := rfl
theorem mt_149 : mm_Tb[149]? = some mp_N_rootOfFraction_t := rfl
theorem mt_150 : mm_Tb[150]? = some mp_N_rootOfWhole_t := rfl
theorem mt_151 : mm_Tb[151]? = some mp_J_compare_t := rfl
theorem mo_C_free : mm_ok mm_Zb mm_Gb mm_clb mm_Tb "RootCompass" prog_1_method_2_code mp_C_free := ⟨by decide +kernel, fun _ h => absurd h List.not_mem_nil, fun _ h => absurd h List.not_mem_nil, List.forall_mem_cons.mpr ⟨⟨fun h => absurd h (by decide), fun _ => ⟨mp_C_isPlace_t, mt_22, mg_105, mg_480, mg_39, (by decide), ⟨by decide, by decide⟩, fun _ => ⟨mg_106, by decide +kernel⟩, fun h => absurd rfl h⟩⟩, List.forall_mem_cons.mpr ⟨⟨fun h => absurd h (by decide), fun _ => ⟨mp_C_addStep_t, mt_24, mg_109, mg_481, mg_39, (by decide), ⟨by decide, by decide⟩, fun h => absurd h (by decide), fun _ => ⟨mg_110, mg_111, ⟨_, rfl, rfl⟩, 4, rfl, by decide +kernel⟩⟩⟩, List.forall_mem_cons.mpr ⟨⟨fun h => absurd h (by decide), fun _ => ⟨mp_C_place_t, mt_39, mg_154, mg_482, mg_39, (by decide), ⟨by decide, by decide⟩, fun h => absurd h (by decide), fun _ => ⟨mg_155, mg_156, ⟨_, rfl, rfl⟩, 5, rfl, by decide +kernel⟩⟩⟩, List.forall_mem_cons.mpr ⟨⟨fun h => absurd h (by decide), fun _ => ⟨mp_C_redraw_t, mt_27, mg_118, mg_483, mg_39, (by decide), ⟨by decide, by decide⟩, fun h => absurd h (by decide), fun _ => ⟨mg_119, mg_120, ⟨_, rfl, rfl⟩, 1, rfl, by decide +kernel⟩⟩⟩, List.forall_mem_cons.mpr ⟨⟨fun h => absurd h (by decide), fun _ => ⟨mp_C_settle_t, mt_25, mg_112, mg_484, mg_39, (by decide), ⟨by decide, by decide⟩, fun h => absurd h (by decide), fun _ => ⟨mg_113, mg_114, ⟨_, rfl, rfl⟩, 1, rfl, by decide +kernel⟩⟩⟩, fun _ h => absurd h List.not_mem_nil⟩⟩⟩⟩⟩⟩
theorem mo_C_line : mm_ok mm_Zb mm_Gb mm_clb mm_Tb "RootCompass" prog_1_method_3_code mp_C_line := ⟨by decide +kernel, fun _ h => absurd h List.not_mem_nil, fun _ h => absurd h List.not_mem_nil, List.forall_mem_cons.mpr ⟨⟨fun h => absurd h (by decide), fun _ => ⟨mp_C_addStep_t, mt_24, mg_109, mg_481, mg_39, (by decide), ⟨by decide, by decide⟩, fun h => absurd h (by decide), fun _ => ⟨mg_110, mg_111, ⟨_, rfl, rfl⟩, 4, rfl, by decide +kernel⟩⟩⟩, List.forall_mem_cons.mpr ⟨⟨fun h => absurd h (by decide), fun _ => ⟨mp_C_redraw_t, mt_27, mg_118, mg_483, mg_39, (by decide), ⟨by decide, by decide⟩, fun h => absurd h (by decide), fun _ => ⟨mg_119, mg_120, ⟨_, rfl, rfl⟩, 1, rfl, by decide +kernel⟩⟩⟩, List.forall_mem_cons.mpr ⟨⟨fun h => absurd h (by decide), fun _ => ⟨mp_C_settle_t, mt_25, mg_112, mg_484, mg_39, (by decide), ⟨by decide, by decide⟩, fun h => absurd h (by decide), fun _ => ⟨mg_113, mg_114, ⟨_, rfl, rfl⟩, 1, rfl, by decide +kernel⟩⟩⟩, List.forall_mem_cons.mpr ⟨⟨fun h => absurd h (by decide), fun _ => ⟨mp_C_isPoint_t, mt_18, mg_93, mg_485, mg_39, (by decide), ⟨by decide, by decide⟩, fun h => absurd h (by decide), fun _ => ⟨mg_94, mg_95, ⟨_, rfl, rfl⟩, 1, rfl, by decide +kernel⟩⟩⟩, fun _ h => absurd h List.not_mem_nil⟩⟩⟩⟩⟩
theorem mo_C_circle : mm_ok mm_Zb mm_Gb mm_clb mm_Tb "RootCompass" prog_1_method_4_code mp_C_circle := ⟨by decide +kernel, fun _ h => absurd h List.not_mem_nil, fun _ h => absurd h List.not_mem_nil, List.forall_mem_cons.mpr ⟨⟨fun h => absurd h (by decide), fun _ => ⟨mp_C_addStep_t, mt_24, mg_109, mg_481, mg_39, (by decide), ⟨by decide, by decide⟩, fun h => absurd h (by decide), fun _ => ⟨mg_110, mg_111, ⟨_, rfl, rfl⟩, 4, rfl, by decide +kernel⟩⟩⟩, List.forall_mem_cons.mpr ⟨⟨fun h => absurd h (by decide), fun _ => ⟨mp_C_redraw_t, mt_27, mg_118, mg_483, mg_39, (by decide), ⟨by decide, by decide⟩, fun h => absurd h (by decide), fun _ => ⟨mg_119, mg_120, ⟨_, rfl, rfl⟩, 1, rfl, by decide +kernel⟩⟩⟩, List.forall_mem_cons.mpr ⟨⟨fun h => absurd h (by decide), fun _ => ⟨mp_C_settle_t, mt_25, mg_112, mg_484, mg_39, (by decide), ⟨by decide, by decide⟩, fun h => absurd h (by decide), fun _ => ⟨mg_113, mg_114, ⟨_, rfl, rfl⟩, 1, rfl, by decide +kernel⟩⟩⟩, List.forall_mem_cons.mpr ⟨⟨fun h => absurd h (by decide), fun _ => ⟨mp_C_isPoint_t, mt_18, mg_93, mg_485, mg_39, (by decide), ⟨by decide, by decide⟩, fun h => absurd h (by decide), fun _ => ⟨mg_94, mg_95, ⟨_, rfl, rfl⟩, 1, rfl, by decide +kernel⟩⟩⟩, fun _ h => absurd h List.not_mem_nil⟩⟩⟩⟩⟩
theorem mo_C_middle : mm_ok mm_Zb mm_Gb mm_clb mm_Tb "RootCompass" prog_1_method_5_code mp_C_middle := ⟨by decide +kernel, fun _ h => absurd h List.not_mem_nil, fun _ h => absurd h List.not_mem_nil, List.forall_mem_cons.mpr ⟨⟨fun h => absurd h (by decide), fun _ => ⟨mp_C_addStep_t, mt_24, mg_109, mg_481, mg_39, (by decide), ⟨by decide, by decide⟩, fun h => absurd h (by decide), fun _ => ⟨mg_110, mg_111, ⟨_, rfl, rfl⟩, 4, rfl, by decide +kernel⟩⟩⟩, List.forall_mem_cons.mpr ⟨⟨fun h => absurd h (by decide), fun _ => ⟨mp_C_redraw_t, mt_27, mg_118, mg_483, mg_39, (by decide), ⟨by decide, by decide⟩, fun h => absurd h (by decide), fun _ => ⟨mg_119, mg_120, ⟨_, rfl, rfl⟩, 1, rfl, by decide +kernel⟩⟩⟩, List.forall_mem_cons.mpr ⟨⟨fun h => absurd h (by decide), fun _ => ⟨mp_C_settle_t, mt_25, mg_112, mg_484, mg_39, (by decide), ⟨by decide, by decide⟩, fun h => absurd h (by decide), fun _ => ⟨mg_113, mg_114, ⟨_, rfl, rfl⟩, 1, rfl, by decide +kernel⟩⟩⟩, List.forall_mem_cons.mpr ⟨⟨fun h => absurd h (by decide), fun _ => ⟨mp_C_isPoint_t, mt_18, mg_93, mg_485, mg_39, (by decide), ⟨by decide, by decide⟩, fun h => absurd h (by decide), fun _ => ⟨mg_94, mg_95, ⟨_, rfl, rfl⟩, 1, rfl, by decide +kernel⟩⟩⟩, fun _ h => absurd h List.not_mem_nil⟩⟩⟩⟩⟩
theorem mo_C_meet : mm_ok mm_Zb mm_Gb mm_clb mm_Tb "RootCompass" prog_1_method_6_code mp_C_meet := ⟨by decide +kernel, fun _ h => absurd h List.not_mem_nil, fun _ h => absurd h List.not_mem_nil, List.forall_mem_cons.mpr ⟨⟨fun h => absurd h (by decide), fun _ => ⟨mp_C_addStep_t, mt_24, mg_109, mg_481, mg_39, (by decide), ⟨by decide, by decide⟩, fun h => absurd h (by decide), fun _ => ⟨mg_110, mg_111, ⟨_, rfl, rfl⟩, 4, rfl, by decide +kernel⟩⟩⟩, List.forall_mem_cons.mpr ⟨⟨fun h => absurd h (by decide), fun _ => ⟨mp_C_redraw_t, mt_27, mg_118, mg_483, mg_39, (by decide), ⟨by decide, by decide⟩, fun h => absurd h (by decide), fun _ => ⟨mg_119, mg_120, ⟨_, rfl, rfl⟩, 1, rfl, by decide +kernel⟩⟩⟩, List.forall_mem_cons.mpr ⟨⟨fun h => absurd h (by decide), fun _ => ⟨mp_C_settle_t, mt_25, mg_112, mg_484, mg_39, (by decide), ⟨by decide, by decide⟩, fun h => absurd h (by decide), fun _ => ⟨mg_113, mg_114, ⟨_, rfl, rfl⟩, 1, rfl, by decide +kernel⟩⟩⟩, List.forall_mem_cons.mpr ⟨⟨fun h => absurd h (by decide), fun _ => ⟨mp_C_isCurve_t, mt_21, mg_102, mg_486, mg_39, (by decide), ⟨by decide, by decide⟩, fun h => absurd h (by decide), fun _ => ⟨mg_103, mg_104, ⟨_, rfl, rfl⟩, 1, rfl, by decide +kernel⟩⟩⟩, List.forall_mem_cons.mpr ⟨⟨fun h => absurd h (by decide), fun _ => ⟨mp_C_isCircle_t, mt_20, mg_99, mg_487, mg_39, (by decide), ⟨by decide, by decide⟩, fun h => absurd h (by decide), fun _ => ⟨mg_100, mg_101, ⟨_, rfl, rfl⟩, 1, rfl, by decide +kernel⟩⟩⟩, List.forall_mem_cons.mpr ⟨⟨fun h => absurd h (by decide), fun _ => ⟨mp_C_isLine_t, mt_19, mg_96, mg_488, mg_39, (by decide), ⟨by decide, by decide⟩, fun h => absurd h (by decide), fun _ => ⟨mg_97, mg_98, ⟨_, rfl, rfl⟩, 1, rfl, by decide +kernel⟩⟩⟩, fun _ h => absurd h List.not_mem_nil⟩⟩⟩⟩⟩⟩⟩
theorem mo_C_move : mm_ok mm_Zb mm_Gb mm_clb mm_Tb "RootCompass" prog_1_method_7_code mp_C_move := ⟨by decide +kernel, List.forall_mem_cons.mpr ⟨⟨RX2, TX2, 8, tyX2, rfl, (by decide), mi_2, tyX2_ok, nmX2, Or.inl mg_0, fun h => absurd h (by decide), fun h => absurd h (by decide)⟩, fun _ h => absurd h List.not_mem_nil⟩, fun _ h => absurd h List.not_mem_nil, List.forall_mem_cons.mpr ⟨⟨fun h => absurd h (by decide), fun _ => ⟨mp_C_isPlace_t, mt_22, mg_105, mg_480, mg_39, (by decide), ⟨by decide, by decide⟩, fun _ => ⟨mg_106, by decide +kernel⟩, fun h => absurd rfl h⟩⟩, List.forall_mem_cons.mpr ⟨⟨fun h => absurd h (by decide), fun _ => ⟨mp_C_place_t, mt_39, mg_154, mg_482, mg_39, (by decide), ⟨by decide, by decide⟩, fun h => absurd h (by decide), fun _ => ⟨mg_155, mg_156, ⟨_, rfl, rfl⟩, 5, rfl, by decide +kernel⟩⟩⟩, List.forall_mem_cons.mpr ⟨⟨fun h => absurd h (by decide), fun _ => ⟨mp_C_redraw_t, mt_27, mg_118, mg_483, mg_39, (by decide), ⟨by decide, by decide⟩, fun h => absurd h (by decide), fun _ => ⟨mg_119, mg_120, ⟨_, rfl, rfl⟩, 1, rfl, by decide +kernel⟩⟩⟩, List.forall_mem_cons.mpr ⟨⟨fun h => absurd h (by decide), fun _ => ⟨mp_C_isPoint_t, mt_18, mg_93, mg_485, mg_39, (by decide), ⟨by decide, by decide⟩, fun h => absurd h (by decide), fun _ => ⟨mg_94, mg_95, ⟨_, rfl, rfl⟩, 1, rfl, by decide +kernel⟩⟩⟩, List.forall_mem_cons.mpr ⟨⟨fun h => absurd h (by decide), fun _ => ⟨mp_C_copyPlace_t, mt_40, mg_157, mg_489, mg_39, (by decide), ⟨by decide, by decide⟩, fun h => absurd h (by decide), fun _ => ⟨mg_158, mg_159, ⟨_, rfl, rfl⟩, 2, rfl, by decide +kernel⟩⟩⟩, fun _ h => absurd h List.not_mem_nil⟩⟩⟩⟩⟩⟩
theorem mo_C_undo : mm_ok mm_Zb mm_Gb mm_clb mm_Tb "RootCompass" prog_1_method_8_code mp_C_undo := ⟨by decide +kernel, List.forall_mem_cons.mpr ⟨⟨RX2, TX2, 8, tyX2, rfl, (by decide), mi_2, tyX2_ok, nmX2, Or.inl mg_2, fun h => absurd h (by decide), fun h => absurd h (by decide)⟩, List.forall_mem_cons.mpr ⟨⟨RX2, TX2, 8, tyX2, rfl, (by decide), mi_2, tyX2_ok, nmX2, Or.inl mg_3, fun h => absurd h (by decide), fun h => absurd h (by decide)⟩, List.forall_mem_cons.mpr ⟨⟨RX2, TX2, 8, tyX2, rfl, (by decide), mi_2, tyX2_ok, nmX2, Or.inl mg_1, fun _ => ⟨rfl, rfl⟩, fun h => absurd h (by decide)⟩, List.forall_mem_cons.mpr ⟨⟨RX1, TX1, 6, tyX1, rfl, (by decide), mi_1, tyX1_ok, nmX1, Or.inr ⟨_, mn_0⟩, fun _ => ⟨rfl, rfl⟩, fun h => absurd h (by decide)⟩, fun _ h => absurd h List.not_mem_nil⟩⟩⟩⟩, fun _ h => absurd h List.not_mem_nil, fun _ h => absurd h List.not_mem_nil⟩
theorem mo_C_on : mm_ok mm_Zb mm_Gb mm_clb mm_Tb "RootCompass" prog_1_method_9_code mp_C_on := ⟨by decide +kernel, List.forall_mem_cons.mpr ⟨⟨RX2, TX2, 8, tyX2, rfl, (by decide), mi_2, tyX2_ok, nmX2, Or.inl mg_2, fun h => absurd h (by decide), fun h => absurd h (by decide)⟩, List.forall_mem_cons.mpr ⟨⟨RX2, TX2, 8, tyX2, rfl, (by decide), mi_2, tyX2_ok, nmX2, Or.inl mg_4, fun h => absurd h (by decide), fun h => absurd h (by decide)⟩, fun _ h => absurd h List.not_mem_nil⟩⟩, fun _ h => absurd h List.not_mem_nil, List.forall_mem_cons.mpr ⟨⟨fun h => absurd h (by decide), fun _ => ⟨mp_C_isPoint_t, mt_18, mg_93, mg_485, mg_39, (by decide), ⟨by decide, by decide⟩, fun h => absurd h (by decide), fun _ => ⟨mg_94, mg_95, ⟨_, rfl, rfl⟩, 1, rfl, by decide +kernel⟩⟩⟩, List.forall_mem_cons.mpr ⟨⟨fun h => absurd h (by decide), fun _ => ⟨mp_C_isCurve_t, mt_21, mg_102, mg_486, mg_39, (by decide), ⟨by decide, by decide⟩, fun h => absurd h (by decide), fun _ => ⟨mg_103, mg_104, ⟨_, rfl, rfl⟩, 1, rfl, by decide +kernel⟩⟩⟩, List.forall_mem_cons.mpr ⟨⟨fun h => absurd h (by decide), fun _ => ⟨mp_C_isLine_t, mt_19, mg_96, mg_488, mg_39, (by decide), ⟨by decide, by decide⟩, fun h => absurd h (by decide), fun _ => ⟨mg_97, mg_98, ⟨_, rfl, rfl⟩, 1, rfl, by decide +kernel⟩⟩⟩, List.forall_mem_cons.mpr ⟨⟨fun h => absurd h (by decide), fun _ => ⟨mp_N_begin_t, mt_122, mg_391, mg_490, mg_387, (by decide), ⟨by decide, by decide⟩, fun h => absurd h (by decide), fun _ => ⟨mg_392, mg_393, ⟨_, rfl, rfl⟩, 0, rfl, by decide +kernel⟩⟩⟩, List.forall_mem_cons.mpr ⟨⟨fun h => absurd h (by decide), fun _ => ⟨mp_C_liesOnLine_t, mt_36, mg_145, mg_491, mg_39, (by decide), ⟨by decide, by decide⟩, fun h => absurd h (by decide), fun _ => ⟨mg_146, mg_147, ⟨_, rfl, rfl⟩, 2, rfl, by decide +kernel⟩⟩⟩, List.forall_mem_cons.mpr ⟨⟨fun h => absurd h (by decide), fun _ => ⟨mp_C_squareOfDistance_t, mt_38, mg_151, mg_492, mg_39, (by decide), ⟨by decide, by decide⟩, fun h => absurd h (by decide), fun _ => ⟨mg_152, mg_153, ⟨_, rfl, rfl⟩, 2, rfl, by decide +kernel⟩⟩⟩, List.forall_mem_cons.mpr ⟨⟨fun h => absurd h (by decide), fun _ => ⟨mp_C_squareOf_t, mt_46, mg_170, mg_493, mg_39, (by decide), ⟨by decide, by decide⟩, fun _ => ⟨mg_171, by decide +kernel⟩, fun h => absurd rfl h⟩⟩, List.forall_mem_cons.mpr ⟨⟨fun h => absurd h (by decide), fun _ => ⟨mp_N_alike_t, mt_125, mg_400, mg_494, mg_387, (by decide), ⟨by decide, by decide⟩, fun h => absurd h (by decide), fun _ => ⟨mg_401, mg_402, ⟨_, rfl, rfl⟩, 2, rfl, by decide +kernel⟩⟩⟩, List.forall_mem_cons.mpr ⟨⟨fun h => absurd h (by decide), fun _ => ⟨mp_C_refuseTooWide_t, mt_26, mg_115, mg_495, mg_39, (by decide), ⟨by decide, by decide⟩, fun h => absurd h (by decide), fun _ => ⟨mg_116, mg_117, ⟨_, rfl, rfl⟩, 0, rfl, by decide +kernel⟩⟩⟩, fun _ h => absurd h List.not_mem_nil⟩⟩⟩⟩⟩⟩⟩⟩⟩⟩
theorem mo_C_same : mm_ok mm_Zb mm_Gb mm_clb mm_Tb "RootCompass" prog_1_method_10_code mp_C_same := ⟨by decide +kernel, fun _ h => absurd h List.not_mem_nil, fun _ h => absurd h List.not_mem_nil, List.forall_mem_cons.mpr ⟨⟨fun h => absurd h (by decide), fun _ => ⟨mp_C_isPoint_t, mt_18, mg_93, mg_485, mg_39, (by decide), ⟨by decide, by decide⟩, fun h => absurd h (by decide), fun _ => ⟨mg_94, mg_95, ⟨_, rfl, rfl⟩, 1, rfl, by decide +kernel⟩⟩⟩, List.forall_mem_cons.mpr ⟨⟨fun h => absurd h (by decide), fun _ => ⟨mp_C_coincide_t, mt_37, mg_148, mg_496, mg_39, (by decide), ⟨by decide, by decide⟩, fun h => absurd h (by decide), fun _ => ⟨mg_149, mg_150, ⟨_, rfl, rfl⟩, 2, rfl, by decide +kernel⟩⟩⟩, fun _ h => absurd h List.not_mem_nil⟩⟩⟩
theorem mo_C_equal : mm_ok mm_Zb mm_Gb mm_clb mm_Tb "RootCompass" prog_1_method_11_code mp_C_equal := ⟨by decide +kernel, List.forall_mem_cons.mpr ⟨⟨RX2, TX2, 8, tyX2, rfl, (by decide), mi_2, tyX2_ok, nmX2, Or.inl mg_2, fun h => absurd h (by decide), fun h => absurd h (by decide)⟩, fun _ h => absurd h List.not_mem_nil⟩, fun _ h => absurd h List.not_mem_nil, List.forall_mem_cons.mpr ⟨⟨fun h => absurd h (by decide), fun _ => ⟨mp_C_isPoint_t, mt_18, mg_93, mg_485, mg_39, (by decide), ⟨by decide, by decide⟩, fun h => absurd h (by decide), fun _ => ⟨mg_94, mg_95, ⟨_, rfl, rfl⟩, 1, rfl, by decide +kernel⟩⟩⟩, List.forall_mem_cons.mpr ⟨⟨fun h => absurd h (by decide), fun _ => ⟨mp_N_begin_t, mt_122, mg_391, mg_490, mg_387, (by decide), ⟨by decide, by decide⟩, fun h => absurd h (by decide), fun _ => ⟨mg_392, mg_393, ⟨_, rfl, rfl⟩, 0, rfl, by decide +kernel⟩⟩⟩, List.forall_mem_cons.mpr ⟨⟨fun h => absurd h (by decide), fun _ => ⟨mp_C_squareOfDistance_t, mt_38, mg_151, mg_492, mg_39, (by decide), ⟨by decide, by decide⟩, fun h => absurd h (by decide), fun _ => ⟨mg_152, mg_153, ⟨_, rfl, rfl⟩, 2, rfl, by decide +kernel⟩⟩⟩, List.forall_mem_cons.mpr ⟨⟨fun h => absurd h (by decide), fun _ => ⟨mp_N_alike_t, mt_125, mg_400, mg_494, mg_387, (by decide), ⟨by decide, by decide⟩, fun h => absurd h (by decide), fun _ => ⟨mg_401, mg_402, ⟨_, rfl, rfl⟩, 2, rfl, by decide +kernel⟩⟩⟩, List.forall_mem_cons.mpr ⟨⟨fun h => absurd h (by decide), fun _ => ⟨mp_C_refuseTooWide_t, mt_26, mg_115, mg_495, mg_39, (by decide), ⟨by decide, by decide⟩, fun h => absurd h (by decide), fun _ => ⟨mg_116, mg_117, ⟨_, rfl, rfl⟩, 0, rfl, by decide +kernel⟩⟩⟩, fun _ h => absurd h List.not_mem_nil⟩⟩⟩⟩⟩⟩
theorem mo_C_angle : mm_ok mm_Zb mm_Gb mm_clb mm_Tb "RootCompass" prog_1_method_12_code mp_C_angle := ⟨by decide +kernel, List.forall_mem_cons.mpr ⟨⟨RX2, TX2, 8, tyX2, rfl, (by decide), mi_2, tyX2_ok, nmX2, Or.inl mg_2, fun h => absurd h (by decide), fun h => absurd h (by decide)⟩, fun _ h => absurd h List.not_mem_nil⟩, fun _ h => absurd h List.not_mem_nil, List.forall_mem_cons.mpr ⟨⟨fun h => absurd h (by decide), fun _ => ⟨mp_C_isLine_t, mt_19, mg_96, mg_488, mg_39, (by decide), ⟨by decide, by decide⟩, fun h => absurd h (by decide), fun _ => ⟨mg_97, mg_98, ⟨_, rfl, rfl⟩, 1, rfl, by decide +kernel⟩⟩⟩, List.forall_mem_cons.mpr ⟨⟨fun h => absurd h (by decide), fun _ => ⟨mp_N_begin_t, mt_122, mg_391, mg_490, mg_387, (by decide), ⟨by decide, by decide⟩, fun h => absurd h (by decide), fun _ => ⟨mg_392, mg_393, ⟨_, rfl, rfl⟩, 0, rfl, by decide +kernel⟩⟩⟩, List.forall_mem_cons.mpr ⟨⟨fun h => absurd h (by decide), fun _ => ⟨mp_N_alike_t, mt_125, mg_400, mg_494, mg_387, (by decide), ⟨by decide, by decide⟩, fun h => absurd h (by decide), fun _ => ⟨mg_401, mg_402, ⟨_, rfl, rfl⟩, 2, rfl, by decide +kernel⟩⟩⟩, List.forall_mem_cons.mpr ⟨⟨fun h => absurd h (by decide), fun _ => ⟨mp_C_refuseTooWide_t, mt_26, mg_115, mg_495, mg_39, (by decide), ⟨by decide, by decide⟩, fun h => absurd h (by decide), fun _ => ⟨mg_116, mg_117, ⟨_, rfl, rfl⟩, 0, rfl, by decide +kernel⟩⟩⟩, List.forall_mem_cons.mpr ⟨⟨fun h => absurd h (by decide), fun _ => ⟨mp_C_lineA_t, mt_43, mg_164, mg_497, mg_39, (by decide), ⟨by decide, by decide⟩, fun _ => ⟨mg_165, by decide +kernel⟩, fun h => absurd rfl h⟩⟩, List.forall_mem_cons.mpr ⟨⟨fun h => absurd h (by decide), fun _ => ⟨mp_C_lineB_t, mt_44, mg_166, mg_498, mg_39, (by decide), ⟨by decide, by decide⟩, fun _ => ⟨mg_167, by decide +kernel⟩, fun h => absurd rfl h⟩⟩, List.forall_mem_cons.mpr ⟨⟨fun h => absurd h (by decide), fun _ => ⟨mp_N_times_t, mt_131, mg_418, mg_499, mg_387, (by decide), ⟨by decide, by decide⟩, fun h => absurd h (by decide), fun _ => ⟨mg_419, mg_420, ⟨_, rfl, rfl⟩, 2, rfl, by decide +kernel⟩⟩⟩, List.forall_mem_cons.mpr ⟨⟨fun h => absurd h (by decide), fun _ => ⟨mp_N_plus_t, mt_129, mg_412, mg_500, mg_387, (by decide), ⟨by decide, by decide⟩, fun h => absurd h (by decide), fun _ => ⟨mg_413, mg_414, ⟨_, rfl, rfl⟩, 2, rfl, by decide +kernel⟩⟩⟩, List.forall_mem_cons.mpr ⟨⟨fun h => absurd h (by decide), fun _ => ⟨mp_N_isNought_t, mt_126, mg_403, mg_501, mg_387, (by decide), ⟨by decide, by decide⟩, fun h => absurd h (by decide), fun _ => ⟨mg_404, mg_405, ⟨_, rfl, rfl⟩, 1, rfl, by decide +kernel⟩⟩⟩, fun _ h => absurd h List.not_mem_nil⟩⟩⟩⟩⟩⟩⟩⟩⟩⟩
theorem mo_C_side : mm_ok mm_Zb mm_Gb mm_clb mm_Tb "RootCompass" prog_1_method_13_code mp_C_side := ⟨by decide +kernel, List.forall_mem_cons.mpr ⟨⟨RX2, TX2, 8, tyX2, rfl, (by decide), mi_2, tyX2_ok, nmX2, Or.inl mg_2, fun h => absurd h (by decide), fun h => absurd h (by decide)⟩, fun _ h => absurd h List.not_mem_nil⟩, fun _ h => absurd h List.not_mem_nil, List.forall_mem_cons.mpr ⟨⟨fun h => absurd h (by decide), fun _ => ⟨mp_C_isPoint_t, mt_18, mg_93, mg_485, mg_39, (by decide), ⟨by decide, by decide⟩, fun h => absurd h (by decide), fun _ => ⟨mg_94, mg_95, ⟨_, rfl, rfl⟩, 1, rfl, by decide +kernel⟩⟩⟩, List.forall_mem_cons.mpr ⟨⟨fun h => absurd h (by decide), fun _ => ⟨mp_N_begin_t, mt_122, mg_391, mg_490, mg_387, (by decide), ⟨by decide, by decide⟩, fun h => absurd h (by decide), fun _ => ⟨mg_392, mg_393, ⟨_, rfl, rfl⟩, 0, rfl, by decide +kernel⟩⟩⟩, List.forall_mem_cons.mpr ⟨⟨fun h => absurd h (by decide), fun _ => ⟨mp_C_refuseTooWide_t, mt_26, mg_115, mg_495, mg_39, (by decide), ⟨by decide, by decide⟩, fun h => absurd h (by decide), fun _ => ⟨mg_116, mg_117, ⟨_, rfl, rfl⟩, 0, rfl, by decide +kernel⟩⟩⟩, List.forall_mem_cons.mpr ⟨⟨fun h => absurd h (by decide), fun _ => ⟨mp_N_times_t, mt_131, mg_418, mg_499, mg_387, (by decide), ⟨by decide, by decide⟩, fun h => absurd h (by decide), fun _ => ⟨mg_419, mg_420, ⟨_, rfl, rfl⟩, 2, rfl, by decide +kernel⟩⟩⟩, List.forall_mem_cons.mpr ⟨⟨fun h => absurd h (by decide), fun _ => ⟨mp_C_xOf_t, mt_41, mg_160, mg_502, mg_39, (by decide), ⟨by decide, by decide⟩, fun _ => ⟨mg_161, by decide +kernel⟩, fun h => absurd rfl h⟩⟩, List.forall_mem_cons.mpr ⟨⟨fun h => absurd h (by decide), fun _ => ⟨mp_N_minus_t, mt_130, mg_415, mg_503, mg_387, (by decide), ⟨by decide, by decide⟩, fun h => absurd h (by decide), fun _ => ⟨mg_416, mg_417, ⟨_, rfl, rfl⟩, 2, rfl, by decide +kernel⟩⟩⟩, List.forall_mem_cons.mpr ⟨⟨fun h => absurd h (by decide), fun _ => ⟨mp_C_yOf_t, mt_42, mg_162, mg_504, mg_39, (by decide), ⟨by decide, by decide⟩, fun _ => ⟨mg_163, by decide +kernel⟩, fun h => absurd rfl h⟩⟩, List.forall_mem_cons.mpr ⟨⟨fun h => absurd h (by decide), fun _ => ⟨mp_N_signum_t, mt_135, mg_430, mg_505, mg_387, (by decide), ⟨by decide, by decide⟩, fun h => absurd h (by decide), fun _ => ⟨mg_431, mg_432, ⟨_, rfl, rfl⟩, 1, rfl, by decide +kernel⟩⟩⟩, fun _ h => absurd h List.not_mem_nil⟩⟩⟩⟩⟩⟩⟩⟩⟩
theorem mo_C_sign : mm_ok mm_Zb mm_Gb mm_clb mm_Tb "RootCompass" prog_1_method_14_code mp_C_sign := ⟨by decide +kernel, List.forall_mem_cons.mpr ⟨⟨RX2, TX2, 8, tyX2, rfl, (by decide), mi_2, tyX2_ok, nmX2, Or.inl mg_2, fun h => absurd h (by decide), fun h => absurd h (by decide)⟩, fun _ h => absurd h List.not_mem_nil⟩, List.forall_mem_cons.mpr ⟨mg_5, List.forall_mem_cons.mpr ⟨mg_6, fun _ h => absurd h List.not_mem_nil⟩⟩, List.forall_mem_cons.mpr ⟨⟨fun h => absurd h (by decide), fun _ => ⟨mp_C_isPoint_t, mt_18, mg_93, mg_485, mg_39, (by decide), ⟨by decide, by decide⟩, fun h => absurd h (by decide), fun _ => ⟨mg_94, mg_95, ⟨_, rfl, rfl⟩, 1, rfl, by decide +kernel⟩⟩⟩, List.forall_mem_cons.mpr ⟨⟨fun h => absurd h (by decide), fun _ => ⟨mp_N_begin_t, mt_122, mg_391, mg_490, mg_387, (by decide), ⟨by decide, by decide⟩, fun h => absurd h (by decide), fun _ => ⟨mg_392, mg_393, ⟨_, rfl, rfl⟩, 0, rfl, by decide +kernel⟩⟩⟩, List.forall_mem_cons.mpr ⟨⟨fun h => absurd h (by decide), fun _ => ⟨mp_C_refuseTooWide_t, mt_26, mg_115, mg_495, mg_39, (by decide), ⟨by decide, by decide⟩, fun h => absurd h (by decide), fun _ => ⟨mg_116, mg_117, ⟨_, rfl, rfl⟩, 0, rfl, by decide +kernel⟩⟩⟩, List.forall_mem_cons.mpr ⟨⟨fun h => absurd h (by decide), fun _ => ⟨mp_C_xOf_t, mt_41, mg_160, mg_502, mg_39, (by decide), ⟨by decide, by decide⟩, fun _ => ⟨mg_161, by decide +kernel⟩, fun h => absurd rfl h⟩⟩, List.forall_mem_cons.mpr ⟨⟨fun h => absurd h (by decide), fun _ => ⟨mp_N_minus_t, mt_130, mg_415, mg_503, mg_387, (by decide), ⟨by decide, by decide⟩, fun h => absurd h (by decide), fun _ => ⟨mg_416, mg_417, ⟨_, rfl, rfl⟩, 2, rfl, by decide +kernel⟩⟩⟩, List.forall_mem_cons.mpr ⟨⟨fun h => absurd h (by decide), fun _ => ⟨mp_C_yOf_t, mt_42, mg_162, mg_504, mg_39, (by decide), ⟨by decide, by decide⟩, fun _ => ⟨mg_163, by decide +kernel⟩, fun h => absurd rfl h⟩⟩, List.forall_mem_cons.mpr ⟨⟨fun h => absurd h (by decide), fun _ => ⟨mp_N_signum_t, mt_135, mg_430, mg_505, mg_387, (by decide), ⟨by decide, by decide⟩, fun h => absurd h (by decide), fun _ => ⟨mg_431, mg_432, ⟨_, rfl, rfl⟩, 1, rfl, by decide +kernel⟩⟩⟩, List.forall_mem_cons.mpr ⟨⟨fun h => absurd h (by decide), fun _ => ⟨mp_N_whole_t, mt_127, mg_406, mg_506, mg_387, (by decide), ⟨by decide, by decide⟩, fun h => absurd h (by decide), fun _ => ⟨mg_407, mg_408, ⟨_, rfl, rfl⟩, 1, rfl, by decide +kernel⟩⟩⟩, fun _ h => absurd h List.not_mem_nil⟩⟩⟩⟩⟩⟩⟩⟩⟩
theorem mo_C_part : mm_ok mm_Zb mm_Gb mm_clb mm_Tb "RootCompass" prog_1_method_15_code mp_C_part := ⟨by decide +kernel, List.forall_mem_cons.mpr ⟨⟨RX2, TX2, 8, tyX2, rfl, (by decide), mi_2, tyX2_ok, nmX2, Or.inl mg_2, fun h => absurd h (by decide), fun h => absurd h (by decide)⟩, fun _ h => absurd h List.not_mem_nil⟩, fun _ h => absurd h List.not_mem_nil, List.forall_mem_cons.mpr ⟨⟨fun h => absurd h (by decide), fun _ => ⟨mp_C_isPoint_t, mt_18, mg_93, mg_485, mg_39, (by decide), ⟨by decide, by decide⟩, fun h => absurd h (by decide), fun _ => ⟨mg_94, mg_95, ⟨_, rfl, rfl⟩, 1, rfl, by decide +kernel⟩⟩⟩, List.forall_mem_cons.mpr ⟨⟨fun h => absurd h (by decide), fun _ => ⟨mp_C_xOf_t, mt_41, mg_160, mg_502, mg_39, (by decide), ⟨by decide, by decide⟩, fun _ => ⟨mg_161, by decide +kernel⟩, fun h => absurd rfl h⟩⟩, List.forall_mem_cons.mpr ⟨⟨fun h => absurd h (by decide), fun _ => ⟨mp_C_yOf_t, mt_42, mg_162, mg_504, mg_39, (by decide), ⟨by decide, by decide⟩, fun _ => ⟨mg_163, by decide +kernel⟩, fun h => absurd rfl h⟩⟩, List.forall_mem_cons.mpr ⟨⟨fun h => absurd h (by decide), fun _ => ⟨mp_N_read_t, mt_123, mg_394, mg_507, mg_387, (by decide), ⟨by decide, by decide⟩, fun h => absurd h (by decide), fun _ => ⟨mg_395, mg_396, ⟨_, rfl, rfl⟩, 2, rfl, by decide +kernel⟩⟩⟩, fun _ h => absurd h List.not_mem_nil⟩⟩⟩⟩⟩
theorem mo_C_radicand : mm_ok mm_Zb mm_Gb mm_clb mm_Tb "RootCompass" prog_1_method_16_code mp_C_radicand := ⟨by decide +kernel, List.forall_mem_cons.mpr ⟨⟨RX2, TX2, 8, tyX2, rfl, (by decide), mi_2, tyX2_ok, nmX2, Or.inl mg_2, fun h => absurd h (by decide), fun h => absurd h (by decide)⟩, List.forall_mem_cons.mpr ⟨⟨RX1, TX1, 6, tyX1, rfl, (by decide), mi_1, tyX1_ok, nmX1, Or.inr ⟨_, mn_0⟩, fun _ => ⟨rfl, rfl⟩, fun h => absurd h (by decide)⟩, fun _ h => absurd h List.not_mem_nil⟩⟩, fun _ h => absurd h List.not_mem_nil, List.forall_mem_cons.mpr ⟨⟨fun h => absurd h (by decide), fun _ => ⟨mp_N_read_t, mt_123, mg_394, mg_507, mg_387, (by decide), ⟨by decide, by decide⟩, fun h => absurd h (by decide), fun _ => ⟨mg_395, mg_396, ⟨_, rfl, rfl⟩, 2, rfl, by decide +kernel⟩⟩⟩, List.forall_mem_cons.mpr ⟨⟨fun h => absurd h (by decide), fun _ => ⟨mp_N_radicandOf_t, mt_120, mg_386, mg_508, mg_387, (by decide), ⟨by decide, by decide⟩, fun _ => ⟨mg_388, by decide +kernel⟩, fun h => absurd rfl h⟩⟩, fun _ h => absurd h List.not_mem_nil⟩⟩⟩
theorem mo_C_kind : mm_ok mm_Zb mm_Gb mm_clb mm_Tb "RootCompass" prog_1_method_17_code mp_C_kind := ⟨by decide +kernel, List.forall_mem_cons.mpr ⟨⟨RX2, TX2, 8, tyX2, rfl, (by decide), mi_2, tyX2_ok, nmX2, Or.inl mg_0, fun h => absurd h (by decide), fun h => absurd h (by decide)⟩, List.forall_mem_cons.mpr ⟨⟨RX2, TX2, 8, tyX2, rfl, (by decide), mi_2, tyX2_ok, nmX2, Or.inl mg_1, fun _ => ⟨rfl, rfl⟩, fun h => absurd h (by decide)⟩, fun _ h => absurd h List.not_mem_nil⟩⟩, fun _ h => absurd h List.not_mem_nil, fun _ h => absurd h List.not_mem_nil⟩
theorem mo_C_look : mm_ok mm_Zb mm_Gb mm_clb mm_Tb "RootCompass" prog_1_method_18_code mp_C_look := ⟨by decide +kernel, List.forall_mem_cons.mpr ⟨⟨RX2, TX2, 8, tyX2, rfl, (by decide), mi_2, tyX2_ok, nmX2, Or.inl mg_2, fun h => absurd h (by decide), fun h => absurd h (by decide)⟩, List.forall_mem_cons.mpr ⟨⟨RX2, TX2, 8, tyX2, rfl, (by decide), mi_2, tyX2_ok, nmX2, Or.inl mg_1, fun _ => ⟨rfl, rfl⟩, fun h => absurd h (by decide)⟩, List.forall_mem_cons.mpr ⟨⟨RX1, TX1, 6, tyX1, rfl, (by decide), mi_1, tyX1_ok, nmX1, Or.inr ⟨_, mn_0⟩, fun _ => ⟨rfl, rfl⟩, fun h => absurd h (by decide)⟩, fun _ h => absurd h List.not_mem_nil⟩⟩⟩, fun _ h => absurd h List.not_mem_nil, List.forall_mem_cons.mpr ⟨⟨fun h => absurd h (by decide), fun _ => ⟨mp_C_countFreePoints_t, mt_17, mg_90, mg_509, mg_39, (by decide), ⟨by decide, by decide⟩, fun h => absurd h (by decide), fun _ => ⟨mg_91, mg_92, ⟨_, rfl, rfl⟩, 0, rfl, by decide +kernel⟩⟩⟩, fun _ h => absurd h List.not_mem_nil⟩⟩
theorem mo_C_countFreePoints : mm_ok mm_Zb mm_Gb mm_clb mm_Tb "RootCompass" prog_1_method_19_code mp_C_countFreePoints := ⟨by decide +kernel, List.forall_mem_cons.mpr ⟨⟨RX2, TX2, 8, tyX2, rfl, (by decide), mi_2, tyX2_ok, nmX2, Or.inl mg_0, fun h => absurd h (by decide), fun h => absurd h (by decide)⟩, List.forall_mem_cons.mpr ⟨⟨RX2, TX2, 8, tyX2, rfl, (by decide), mi_2, tyX2_ok, nmX2, Or.inl mg_1, fun _ => ⟨rfl, rfl⟩, fun h => absurd h (by decide)⟩, fun _ h => absurd h List.not_mem_nil⟩⟩, fun _ h => absurd h List.not_mem_nil, fun _ h => absurd h List.not_mem_nil⟩
theorem mo_C_isPoint : mm_ok mm_Zb mm_Gb mm_clb mm_Tb "RootCompass" prog_1_method_20_code mp_C_isPoint := ⟨by decide +kernel, fun _ h => absurd h List.not_mem_nil, fun _ h => absurd h List.not_mem_nil, List.forall_mem_cons.mpr ⟨⟨fun h => absurd h (by decide), fun _ => ⟨mp_C_kind_t, mt_15, mg_84, mg_510, mg_39, (by decide), ⟨by decide, by decide⟩, fun h => absurd h (by decide), fun _ => ⟨mg_85, mg_86, ⟨_, rfl, rfl⟩, 1, rfl, by decide +kernel⟩⟩⟩, fun _ h => absurd h List.not_mem_nil⟩⟩
theorem mo_C_isLine : mm_ok mm_Zb mm_Gb mm_clb mm_Tb "RootCompass" prog_1_method_21_code mp_C_isLine := ⟨by decide +kernel, fun _ h => absurd h List.not_mem_nil, fun _ h => absurd h List.not_mem_nil, List.forall_mem_cons.mpr ⟨⟨fun h => absurd h (by decide), fun _ => ⟨mp_C_kind_t, mt_15, mg_84, mg_510, mg_39, (by decide), ⟨by decide, by decide⟩, fun h => absurd h (by decide), fun _ => ⟨mg_85, mg_86, ⟨_, rfl, rfl⟩, 1, rfl, by decide +kernel⟩⟩⟩, fun _ h => absurd h List.not_mem_nil⟩⟩
theorem mo_C_isCircle : mm_ok mm_Zb mm_Gb mm_clb mm_Tb "RootCompass" prog_1_method_22_code mp_C_isCircle := ⟨by decide +kernel, fun _ h => absurd h List.not_mem_nil, fun _ h => absurd h List.not_mem_nil, List.forall_mem_cons.mpr ⟨⟨fun h => absurd h (by decide), fun _ => ⟨mp_C_kind_t, mt_15, mg_84, mg_510, mg_39, (by decide), ⟨by decide, by decide⟩, fun h => absurd h (by decide), fun _ => ⟨mg_85, mg_86, ⟨_, rfl, rfl⟩, 1, rfl, by decide +kernel⟩⟩⟩, fun _ h => absurd h List.not_mem_nil⟩⟩
theorem mo_C_isCurve : mm_ok mm_Zb mm_Gb mm_clb mm_Tb "RootCompass" prog_1_method_23_code mp_C_isCurve := ⟨by decide +kernel, fun _ h => absurd h List.not_mem_nil, fun _ h => absurd h List.not_mem_nil, List.forall_mem_cons.mpr ⟨⟨fun h => absurd h (by decide), fun _ => ⟨mp_C_isCircle_t, mt_20, mg_99, mg_487, mg_39, (by decide), ⟨by decide, by decide⟩, fun h => absurd h (by decide), fun _ => ⟨mg_100, mg_101, ⟨_, rfl, rfl⟩, 1, rfl, by decide +kernel⟩⟩⟩, List.forall_mem_cons.mpr ⟨⟨fun h => absurd h (by decide), fun _ => ⟨mp_C_isLine_t, mt_19, mg_96, mg_488, mg_39, (by decide), ⟨by decide, by decide⟩, fun h => absurd h (by decide), fun _ => ⟨mg_97, mg_98, ⟨_, rfl, rfl⟩, 1, rfl, by decide +kernel⟩⟩⟩, fun _ h => absurd h List.not_mem_nil⟩⟩⟩
theorem mo_C_isPlace : mm_ok mm_Zb mm_Gb mm_clb mm_Tb "RootCompass" prog_1_method_24_code mp_C_isPlace := ⟨by decide +kernel, fun _ h => absurd h List.not_mem_nil, fun _ h => absurd h List.not_mem_nil, List.forall_mem_cons.mpr ⟨⟨fun h => absurd h (by decide), fun _ => ⟨mp_C_isInput_t, mt_23, mg_107, mg_511, mg_39, (by decide), ⟨by decide, by decide⟩, fun _ => ⟨mg_108, by decide +kernel⟩, fun h => absurd rfl h⟩⟩, fun _ h => absurd h List.not_mem_nil⟩⟩
theorem mo_C_isInput : mm_ok mm_Zb mm_Gb mm_clb mm_Tb "RootCompass" prog_1_method_25_code mp_C_isInput := ⟨by decide +kernel, fun _ h => absurd h List.not_mem_nil, fun _ h => absurd h List.not_mem_nil, fun _ h => absurd h List.not_mem_nil⟩
theorem mo_C_addStep : mm_ok mm_Zb mm_Gb mm_clb mm_Tb "RootCompass" prog_1_method_26_code mp_C_addStep := ⟨by decide +kernel, List.forall_mem_cons.mpr ⟨⟨RX2, TX2, 8, tyX2, rfl, (by decide), mi_2, tyX2_ok, nmX2, Or.inl mg_0, fun h => absurd h (by decide), fun h => absurd h (by decide)⟩, List.forall_mem_cons.mpr ⟨⟨RX2, TX2, 8, tyX2, rfl, (by decide), mi_2, tyX2_ok, nmX2, Or.inl mg_4, fun h => absurd h (by decide), fun h => absurd h (by decide)⟩, List.forall_mem_cons.mpr ⟨⟨RX2, TX2, 8, tyX2, rfl, (by decide), mi_2, tyX2_ok, nmX2, Or.inl mg_7, fun h => absurd h (by decide), fun h => absurd h (by decide)⟩, List.forall_mem_cons.mpr ⟨⟨RX2, TX2, 8, tyX2, rfl, (by decide), mi_2, tyX2_ok, nmX2, Or.inl mg_8, fun h => absurd h (by decide), fun h => absurd h (by decide)⟩, List.forall_mem_cons.mpr ⟨⟨RX2, TX2, 8, tyX2, rfl, (by decide), mi_2, tyX2_ok, nmX2, Or.inl mg_1, fun _ => ⟨rfl, rfl⟩, fun h => absurd h (by decide)⟩, fun _ h => absurd h List.not_mem_nil⟩⟩⟩⟩⟩, fun _ h => absurd h List.not_mem_nil, fun _ h => absurd h List.not_mem_nil⟩
theorem mo_C_settle : mm_ok mm_Zb mm_Gb mm_clb mm_Tb "RootCompass" prog_1_method_27_code mp_C_settle := ⟨by decide +kernel, List.forall_mem_cons.mpr ⟨⟨RX2, TX2, 8, tyX2, rfl, (by decide), mi_2, tyX2_ok, nmX2, Or.inl mg_1, fun _ => ⟨rfl, rfl⟩, fun h => absurd h (by decide)⟩, fun _ h => absurd h List.not_mem_nil⟩, fun _ h => absurd h List.not_mem_nil, List.forall_mem_cons.mpr ⟨⟨fun h => absurd h (by decide), fun _ => ⟨mp_C_undo_t, mt_6, mg_57, mg_512, mg_39, (by decide), ⟨by decide, by decide⟩, fun h => absurd h (by decide), fun _ => ⟨mg_58, mg_59, ⟨_, rfl, rfl⟩, 0, rfl, by decide +kernel⟩⟩⟩, fun _ h => absurd h List.not_mem_nil⟩⟩
theorem mo_C_refuseTooWide : mm_ok mm_Zb mm_Gb mm_clb mm_Tb "RootCompass" prog_1_method_28_code mp_C_refuseTooWide := ⟨by decide +kernel, List.forall_mem_cons.mpr ⟨⟨RX2, TX2, 8, tyX2, rfl, (by decide), mi_2, tyX2_ok, nmX2, Or.inl mg_2, fun h => absurd h (by decide), fun h => absurd h (by decide)⟩, List.forall_mem_cons.mpr ⟨⟨RX1, TX1, 6, tyX1, rfl, (by decide), mi_1, tyX1_ok, nmX1, Or.inr ⟨_, mn_1⟩, fun h => absurd h (by decide), fun _ => ⟨rfl, rfl⟩⟩, fun _ h => absurd h List.not_mem_nil⟩⟩, fun _ h => absurd h List.not_mem_nil, fun _ h => absurd h List.not_mem_nil⟩
theorem mo_C_redraw : mm_ok mm_Zb mm_Gb mm_clb mm_Tb "RootCompass" prog_1_method_29_code mp_C_redraw := ⟨by decide +kernel, List.forall_mem_cons.mpr ⟨⟨RX2, TX2, 8, tyX2, rfl, (by decide), mi_2, tyX2_ok, nmX2, Or.inl mg_2, fun h => absurd h (by decide), fun h => absurd h (by decide)⟩, List.forall_mem_cons.mpr ⟨⟨RX2, TX2, 8, tyX2, rfl, (by decide), mi_2, tyX2_ok, nmX2, Or.inl mg_0, fun h => absurd h (by decide), fun h => absurd h (by decide)⟩, List.forall_mem_cons.mpr ⟨⟨RX2, TX2, 8, tyX2, rfl, (by decide), mi_2, tyX2_ok, nmX2, Or.inl mg_4, fun h => absurd h (by decide), fun h => absurd h (by decide)⟩, List.forall_mem_cons.mpr ⟨⟨RX2, TX2, 8, tyX2, rfl, (by decide), mi_2, tyX2_ok, nmX2, Or.inl mg_7, fun h => absurd h (by decide), fun h => absurd h (by decide)⟩, List.forall_mem_cons.mpr ⟨⟨RX2, TX2, 8, tyX2, rfl, (by decide), mi_2, tyX2_ok, nmX2, Or.inl mg_3, fun h => absurd h (by decide), fun h => absurd h (by decide)⟩, List.forall_mem_cons.mpr ⟨⟨RX2, TX2, 8, tyX2, rfl, (by decide), mi_2, tyX2_ok, nmX2, Or.inl mg_1, fun _ => ⟨rfl, rfl⟩, fun h => absurd h (by decide)⟩, List.forall_mem_cons.mpr ⟨⟨RX1, TX1, 6, tyX1, rfl, (by decide), mi_1, tyX1_ok, nmX1, Or.inr ⟨_, mn_0⟩, fun _ => ⟨rfl, rfl⟩, fun h => absurd h (by decide)⟩, List.forall_mem_cons.mpr ⟨⟨RX1, TX1, 6, tyX1, rfl, (by decide), mi_1, tyX1_ok, nmX1, Or.inr ⟨_, mn_1⟩, fun h => absurd h (by decide), fun _ => ⟨rfl, rfl⟩⟩, fun _ h => absurd h List.not_mem_nil⟩⟩⟩⟩⟩⟩⟩⟩, fun _ h => absurd h List.not_mem_nil, List.forall_mem_cons.mpr ⟨⟨fun h => absurd h (by decide), fun _ => ⟨mp_N_begin_t, mt_122, mg_391, mg_490, mg_387, (by decide), ⟨by decide, by decide⟩, fun h => absurd h (by decide), fun _ => ⟨mg_392, mg_393, ⟨_, rfl, rfl⟩, 0, rfl, by decide +kernel⟩⟩⟩, List.forall_mem_cons.mpr ⟨⟨fun h => absurd h (by decide), fun _ => ⟨mp_C_drawLine_t, mt_28, mg_121, mg_513, mg_39, (by decide), ⟨by decide, by decide⟩, fun h => absurd h (by decide), fun _ => ⟨mg_122, mg_123, ⟨_, rfl, rfl⟩, 1, rfl, by decide +kernel⟩⟩⟩, List.forall_mem_cons.mpr ⟨⟨fun h => absurd h (by decide), fun _ => ⟨mp_C_drawCircle_t, mt_29, mg_124, mg_514, mg_39, (by decide), ⟨by decide, by decide⟩, fun h => absurd h (by decide), fun _ => ⟨mg_125, mg_126, ⟨_, rfl, rfl⟩, 1, rfl, by decide +kernel⟩⟩⟩, List.forall_mem_cons.mpr ⟨⟨fun h => absurd h (by decide), fun _ => ⟨mp_C_drawMiddle_t, mt_30, mg_127, mg_515, mg_39, (by decide), ⟨by decide, by decide⟩, fun h => absurd h (by decide), fun _ => ⟨mg_128, mg_129, ⟨_, rfl, rfl⟩, 1, rfl, by decide +kernel⟩⟩⟩, List.forall_mem_cons.mpr ⟨⟨fun h => absurd h (by decide), fun _ => ⟨mp_C_drawMeetingOfLines_t, mt_31, mg_130, mg_516, mg_39, (by decide), ⟨by decide, by decide⟩, fun h => absurd h (by decide), fun _ => ⟨mg_131, mg_132, ⟨_, rfl, rfl⟩, 1, rfl, by decide +kernel⟩⟩⟩, List.forall_mem_cons.mpr ⟨⟨fun h => absurd h (by decide), fun _ => ⟨mp_C_takeLine_t, mt_32, mg_133, mg_517, mg_39, (by decide), ⟨by decide, by decide⟩, fun h => absurd h (by decide), fun _ => ⟨mg_134, mg_135, ⟨_, rfl, rfl⟩, 1, rfl, by decide +kernel⟩⟩⟩, List.forall_mem_cons.mpr ⟨⟨fun h => absurd h (by decide), fun _ => ⟨mp_C_measureCut_t, mt_34, mg_139, mg_518, mg_39, (by decide), ⟨by decide, by decide⟩, fun h => absurd h (by decide), fun _ => ⟨mg_140, mg_141, ⟨_, rfl, rfl⟩, 1, rfl, by decide +kernel⟩⟩⟩, List.forall_mem_cons.mpr ⟨⟨fun h => absurd h (by decide), fun _ => ⟨mp_N_takeRoot_t, mt_136, mg_433, mg_519, mg_387, (by decide), ⟨by decide, by decide⟩, fun h => absurd h (by decide), fun _ => ⟨mg_434, mg_435, ⟨_, rfl, rfl⟩, 1, rfl, by decide +kernel⟩⟩⟩, List.forall_mem_cons.mpr ⟨⟨fun h => absurd h (by decide), fun _ => ⟨mp_C_drawCut_t, mt_35, mg_142, mg_520, mg_39, (by decide), ⟨by decide, by decide⟩, fun h => absurd h (by decide), fun _ => ⟨mg_143, mg_144, ⟨_, rfl, rfl⟩, 2, rfl, by decide +kernel⟩⟩⟩, List.forall_mem_cons.mpr ⟨⟨fun h => absurd h (by decide), fun _ => ⟨mp_C_takeCommonLine_t, mt_33, mg_136, mg_521, mg_39, (by decide), ⟨by decide, by decide⟩, fun h => absurd h (by decide), fun _ => ⟨mg_137, mg_138, ⟨_, rfl, rfl⟩, 2, rfl, by decide +kernel⟩⟩⟩, fun _ h => absurd h List.not_mem_nil⟩⟩⟩⟩⟩⟩⟩⟩⟩⟩⟩
theorem mo_C_drawLine : mm_ok mm_Zb mm_Gb mm_clb mm_Tb "RootCompass" prog_1_method_30_code mp_C_drawLine := ⟨by decide +kernel, List.forall_mem_cons.mpr ⟨⟨RX2, TX2, 8, tyX2, rfl, (by decide), mi_2, tyX2_ok, nmX2, Or.inl mg_2, fun h => absurd h (by decide), fun h => absurd h (by decide)⟩, List.forall_mem_cons.mpr ⟨⟨RX2, TX2, 8, tyX2, rfl, (by decide), mi_2, tyX2_ok, nmX2, Or.inl mg_4, fun h => absurd h (by decide), fun h => absurd h (by decide)⟩, List.forall_mem_cons.mpr ⟨⟨RX2, TX2, 8, tyX2, rfl, (by decide), mi_2, tyX2_ok, nmX2, Or.inl mg_7, fun h => absurd h (by decide), fun h => absurd h (by decide)⟩, List.forall_mem_cons.mpr ⟨⟨RX1, TX1, 6, tyX1, rfl, (by decide), mi_1, tyX1_ok, nmX1, Or.inr ⟨_, mn_1⟩, fun h => absurd h (by decide), fun _ => ⟨rfl, rfl⟩⟩, fun _ h => absurd h List.not_mem_nil⟩⟩⟩⟩, fun _ h => absurd h List.not_mem_nil, List.forall_mem_cons.mpr ⟨⟨fun h => absurd h (by decide), fun _ => ⟨mp_C_coincide_t, mt_37, mg_148, mg_496, mg_39, (by decide), ⟨by decide, by decide⟩, fun h => absurd h (by decide), fun _ => ⟨mg_149, mg_150, ⟨_, rfl, rfl⟩, 2, rfl, by decide +kernel⟩⟩⟩, List.forall_mem_cons.mpr ⟨⟨fun h => absurd h (by decide), fun _ => ⟨mp_C_lineA_t, mt_43, mg_164, mg_497, mg_39, (by decide), ⟨by decide, by decide⟩, fun _ => ⟨mg_165, by decide +kernel⟩, fun h => absurd rfl h⟩⟩, List.forall_mem_cons.mpr ⟨⟨fun h => absurd h (by decide), fun _ => ⟨mp_C_lineB_t, mt_44, mg_166, mg_498, mg_39, (by decide), ⟨by decide, by decide⟩, fun _ => ⟨mg_167, by decide +kernel⟩, fun h => absurd rfl h⟩⟩, List.forall_mem_cons.mpr ⟨⟨fun h => absurd h (by decide), fun _ => ⟨mp_N_times_t, mt_131, mg_418, mg_499, mg_387, (by decide), ⟨by decide, by decide⟩, fun h => absurd h (by decide), fun _ => ⟨mg_419, mg_420, ⟨_, rfl, rfl⟩, 2, rfl, by decide +kernel⟩⟩⟩, List.forall_mem_cons.mpr ⟨⟨fun h => absurd h (by decide), fun _ => ⟨mp_N_plus_t, mt_129, mg_412, mg_500, mg_387, (by decide), ⟨by decide, by decide⟩, fun h => absurd h (by decide), fun _ => ⟨mg_413, mg_414, ⟨_, rfl, rfl⟩, 2, rfl, by decide +kernel⟩⟩⟩, List.forall_mem_cons.mpr ⟨⟨fun h => absurd h (by decide), fun _ => ⟨mp_C_xOf_t, mt_41, mg_160, mg_502, mg_39, (by decide), ⟨by decide, by decide⟩, fun _ => ⟨mg_161, by decide +kernel⟩, fun h => absurd rfl h⟩⟩, List.forall_mem_cons.mpr ⟨⟨fun h => absurd h (by decide), fun _ => ⟨mp_N_minus_t, mt_130, mg_415, mg_503, mg_387, (by decide), ⟨by decide, by decide⟩, fun h => absurd h (by decide), fun _ => ⟨mg_416, mg_417, ⟨_, rfl, rfl⟩, 2, rfl, by decide +kernel⟩⟩⟩, List.forall_mem_cons.mpr ⟨⟨fun h => absurd h (by decide), fun _ => ⟨mp_C_yOf_t, mt_42, mg_162, mg_504, mg_39, (by decide), ⟨by decide, by decide⟩, fun _ => ⟨mg_163, by decide +kernel⟩, fun h => absurd rfl h⟩⟩, List.forall_mem_cons.mpr ⟨⟨fun h => absurd h (by decide), fun _ => ⟨mp_N_copy_t, mt_124, mg_397, mg_522, mg_387, (by decide), ⟨by decide, by decide⟩, fun h => absurd h (by decide), fun _ => ⟨mg_398, mg_399, ⟨_, rfl, rfl⟩, 2, rfl, by decide +kernel⟩⟩⟩, List.forall_mem_cons.mpr ⟨⟨fun h => absurd h (by decide), fun _ => ⟨mp_C_lineC_t, mt_45, mg_168, mg_523, mg_39, (by decide), ⟨by decide, by decide⟩, fun _ => ⟨mg_169, by decide +kernel⟩, fun h => absurd rfl h⟩⟩, fun _ h => absurd h List.not_mem_nil⟩⟩⟩⟩⟩⟩⟩⟩⟩⟩⟩
theorem mo_C_drawCircle : mm_ok mm_Zb mm_Gb mm_clb mm_Tb "RootCompass" prog_1_method_31_code mp_C_drawCircle := ⟨by decide +kernel, List.forall_mem_cons.mpr ⟨⟨RX2, TX2, 8, tyX2, rfl, (by decide), mi_2, tyX2_ok, nmX2, Or.inl mg_2, fun h => absurd h (by decide), fun h => absurd h (by decide)⟩, List.forall_mem_cons.mpr ⟨⟨RX2, TX2, 8, tyX2, rfl, (by decide), mi_2, tyX2_ok, nmX2, Or.inl mg_7, fun h => absurd h (by decide), fun h => absurd h (by decide)⟩, List.forall_mem_cons.mpr ⟨⟨RX2, TX2, 8, tyX2, rfl, (by decide), mi_2, tyX2_ok, nmX2, Or.inl mg_8, fun h => absurd h (by decide), fun h => absurd h (by decide)⟩, List.forall_mem_cons.mpr ⟨⟨RX1, TX1, 6, tyX1, rfl, (by decide), mi_1, tyX1_ok, nmX1, Or.inr ⟨_, mn_1⟩, fun h => absurd h (by decide), fun _ => ⟨rfl, rfl⟩⟩, fun _ h => absurd h List.not_mem_nil⟩⟩⟩⟩, fun _ h => absurd h List.not_mem_nil, List.forall_mem_cons.mpr ⟨⟨fun h => absurd h (by decide), fun _ => ⟨mp_C_squareOfDistance_t, mt_38, mg_151, mg_492, mg_39, (by decide), ⟨by decide, by decide⟩, fun h => absurd h (by decide), fun _ => ⟨mg_152, mg_153, ⟨_, rfl, rfl⟩, 2, rfl, by decide +kernel⟩⟩⟩, List.forall_mem_cons.mpr ⟨⟨fun h => absurd h (by decide), fun _ => ⟨mp_C_squareOf_t, mt_46, mg_170, mg_493, mg_39, (by decide), ⟨by decide, by decide⟩, fun _ => ⟨mg_171, by decide +kernel⟩, fun h => absurd rfl h⟩⟩, List.forall_mem_cons.mpr ⟨⟨fun h => absurd h (by decide), fun _ => ⟨mp_N_isNought_t, mt_126, mg_403, mg_501, mg_387, (by decide), ⟨by decide, by decide⟩, fun h => absurd h (by decide), fun _ => ⟨mg_404, mg_405, ⟨_, rfl, rfl⟩, 1, rfl, by decide +kernel⟩⟩⟩, List.forall_mem_cons.mpr ⟨⟨fun h => absurd h (by decide), fun _ => ⟨mp_N_copy_t, mt_124, mg_397, mg_522, mg_387, (by decide), ⟨by decide, by decide⟩, fun h => absurd h (by decide), fun _ => ⟨mg_398, mg_399, ⟨_, rfl, rfl⟩, 2, rfl, by decide +kernel⟩⟩⟩, fun _ h => absurd h List.not_mem_nil⟩⟩⟩⟩⟩
theorem mo_C_drawMiddle : mm_ok mm_Zb mm_Gb mm_clb mm_Tb "RootCompass" prog_1_method_32_code mp_C_drawMiddle := ⟨by decide +kernel, List.forall_mem_cons.mpr ⟨⟨RX2, TX2, 8, tyX2, rfl, (by decide), mi_2, tyX2_ok, nmX2, Or.inl mg_2, fun h => absurd h (by decide), fun h => absurd h (by decide)⟩, List.forall_mem_cons.mpr ⟨⟨RX2, TX2, 8, tyX2, rfl, (by decide), mi_2, tyX2_ok, nmX2, Or.inl mg_4, fun h => absurd h (by decide), fun h => absurd h (by decide)⟩, List.forall_mem_cons.mpr ⟨⟨RX2, TX2, 8, tyX2, rfl, (by decide), mi_2, tyX2_ok, nmX2, Or.inl mg_7, fun h => absurd h (by decide), fun h => absurd h (by decide)⟩, fun _ h => absurd h List.not_mem_nil⟩⟩⟩, fun _ h => absurd h List.not_mem_nil, List.forall_mem_cons.mpr ⟨⟨fun h => absurd h (by decide), fun _ => ⟨mp_N_plus_t, mt_129, mg_412, mg_500, mg_387, (by decide), ⟨by decide, by decide⟩, fun h => absurd h (by decide), fun _ => ⟨mg_413, mg_414, ⟨_, rfl, rfl⟩, 2, rfl, by decide +kernel⟩⟩⟩, List.forall_mem_cons.mpr ⟨⟨fun h => absurd h (by decide), fun _ => ⟨mp_C_xOf_t, mt_41, mg_160, mg_502, mg_39, (by decide), ⟨by decide, by decide⟩, fun _ => ⟨mg_161, by decide +kernel⟩, fun h => absurd rfl h⟩⟩, List.forall_mem_cons.mpr ⟨⟨fun h => absurd h (by decide), fun _ => ⟨mp_C_yOf_t, mt_42, mg_162, mg_504, mg_39, (by decide), ⟨by decide, by decide⟩, fun _ => ⟨mg_163, by decide +kernel⟩, fun h => absurd rfl h⟩⟩, List.forall_mem_cons.mpr ⟨⟨fun h => absurd h (by decide), fun _ => ⟨mp_N_copy_t, mt_124, mg_397, mg_522, mg_387, (by decide), ⟨by decide, by decide⟩, fun h => absurd h (by decide), fun _ => ⟨mg_398, mg_399, ⟨_, rfl, rfl⟩, 2, rfl, by decide +kernel⟩⟩⟩, List.forall_mem_cons.mpr ⟨⟨fun h => absurd h (by decide), fun _ => ⟨mp_N_halved_t, mt_133, mg_424, mg_524, mg_387, (by decide), ⟨by decide, by decide⟩, fun h => absurd h (by decide), fun _ => ⟨mg_425, mg_426, ⟨_, rfl, rfl⟩, 1, rfl, by decide +kernel⟩⟩⟩, fun _ h => absurd h List.not_mem_nil⟩⟩⟩⟩⟩⟩
theorem mo_C_drawMeetingOfLines : mm_ok mm_Zb mm_Gb mm_clb mm_Tb "RootCompass" prog_1_method_33_code mp_C_drawMeetingOfLines := ⟨by decide +kernel, List.forall_mem_cons.mpr ⟨⟨RX2, TX2, 8, tyX2, rfl, (by decide), mi_2, tyX2_ok, nmX2, Or.inl mg_2, fun h => absurd h (by decide), fun h => absurd h (by decide)⟩, List.forall_mem_cons.mpr ⟨⟨RX2, TX2, 8, tyX2, rfl, (by decide), mi_2, tyX2_ok, nmX2, Or.inl mg_4, fun h => absurd h (by decide), fun h => absurd h (by decide)⟩, List.forall_mem_cons.mpr ⟨⟨RX2, TX2, 8, tyX2, rfl, (by decide), mi_2, tyX2_ok, nmX2, Or.inl mg_7, fun h => absurd h (by decide), fun h => absurd h (by decide)⟩, fun _ h => absurd h List.not_mem_nil⟩⟩⟩, fun _ h => absurd h List.not_mem_nil, List.forall_mem_cons.mpr ⟨⟨fun h => absurd h (by decide), fun _ => ⟨mp_C_lineA_t, mt_43, mg_164, mg_497, mg_39, (by decide), ⟨by decide, by decide⟩, fun _ => ⟨mg_165, by decide +kernel⟩, fun h => absurd rfl h⟩⟩, List.forall_mem_cons.mpr ⟨⟨fun h => absurd h (by decide), fun _ => ⟨mp_C_lineB_t, mt_44, mg_166, mg_498, mg_39, (by decide), ⟨by decide, by decide⟩, fun _ => ⟨mg_167, by decide +kernel⟩, fun h => absurd rfl h⟩⟩, List.forall_mem_cons.mpr ⟨⟨fun h => absurd h (by decide), fun _ => ⟨mp_N_times_t, mt_131, mg_418, mg_499, mg_387, (by decide), ⟨by decide, by decide⟩, fun h => absurd h (by decide), fun _ => ⟨mg_419, mg_420, ⟨_, rfl, rfl⟩, 2, rfl, by decide +kernel⟩⟩⟩, List.forall_mem_cons.mpr ⟨⟨fun h => absurd h (by decide), fun _ => ⟨mp_C_xOf_t, mt_41, mg_160, mg_502, mg_39, (by decide), ⟨by decide, by decide⟩, fun _ => ⟨mg_161, by decide +kernel⟩, fun h => absurd rfl h⟩⟩, List.forall_mem_cons.mpr ⟨⟨fun h => absurd h (by decide), fun _ => ⟨mp_N_minus_t, mt_130, mg_415, mg_503, mg_387, (by decide), ⟨by decide, by decide⟩, fun h => absurd h (by decide), fun _ => ⟨mg_416, mg_417, ⟨_, rfl, rfl⟩, 2, rfl, by decide +kernel⟩⟩⟩, List.forall_mem_cons.mpr ⟨⟨fun h => absurd h (by decide), fun _ => ⟨mp_C_yOf_t, mt_42, mg_162, mg_504, mg_39, (by decide), ⟨by decide, by decide⟩, fun _ => ⟨mg_163, by decide +kernel⟩, fun h => absurd rfl h⟩⟩, List.forall_mem_cons.mpr ⟨⟨fun h => absurd h (by decide), fun _ => ⟨mp_N_copy_t, mt_124, mg_397, mg_522, mg_387, (by decide), ⟨by decide, by decide⟩, fun h => absurd h (by decide), fun _ => ⟨mg_398, mg_399, ⟨_, rfl, rfl⟩, 2, rfl, by decide +kernel⟩⟩⟩, List.forall_mem_cons.mpr ⟨⟨fun h => absurd h (by decide), fun _ => ⟨mp_C_lineC_t, mt_45, mg_168, mg_523, mg_39, (by decide), ⟨by decide, by decide⟩, fun _ => ⟨mg_169, by decide +kernel⟩, fun h => absurd rfl h⟩⟩, List.forall_mem_cons.mpr ⟨⟨fun h => absurd h (by decide), fun _ => ⟨mp_N_inverted_t, mt_134, mg_427, mg_525, mg_387, (by decide), ⟨by decide, by decide⟩, fun h => absurd h (by decide), fun _ => ⟨mg_428, mg_429, ⟨_, rfl, rfl⟩, 1, rfl, by decide +kernel⟩⟩⟩, fun _ h => absurd h List.not_mem_nil⟩⟩⟩⟩⟩⟩⟩⟩⟩⟩
theorem mo_C_takeLine : mm_ok mm_Zb mm_Gb mm_clb mm_Tb "RootCompass" prog_1_method_34_code mp_C_takeLine := ⟨by decide +kernel, List.forall_mem_cons.mpr ⟨⟨RX2, TX2, 8, tyX2, rfl, (by decide), mi_2, tyX2_ok, nmX2, Or.inl mg_9, fun h => absurd h (by decide), fun h => absurd h (by decide)⟩, List.forall_mem_cons.mpr ⟨⟨RX0, TX0, 7, tyX0, rfl, (by decide), mi_0, tyX0_ok, nmX0, Or.inr ⟨_, mn_2⟩, fun _ => ⟨rfl, rfl⟩, fun h => absurd h (by decide)⟩, List.forall_mem_cons.mpr ⟨⟨RX0, TX0, 7, tyX0, rfl, (by decide), mi_0, tyX0_ok, nmX0, Or.inr ⟨_, mn_3⟩, fun _ => ⟨rfl, rfl⟩, fun h => absurd h (by decide)⟩, List.forall_mem_cons.mpr ⟨⟨RX0, TX0, 7, tyX0, rfl, (by decide), mi_0, tyX0_ok, nmX0, Or.inr ⟨_, mn_4⟩, fun _ => ⟨rfl, rfl⟩, fun h => absurd h (by decide)⟩, fun _ h => absurd h List.not_mem_nil⟩⟩⟩⟩, fun _ h => absurd h List.not_mem_nil, List.forall_mem_cons.mpr ⟨⟨fun h => absurd h (by decide), fun _ => ⟨mp_C_lineA_t, mt_43, mg_164, mg_497, mg_39, (by decide), ⟨by decide, by decide⟩, fun _ => ⟨mg_165, by decide +kernel⟩, fun h => absurd rfl h⟩⟩, List.forall_mem_cons.mpr ⟨⟨fun h => absurd h (by decide), fun _ => ⟨mp_C_lineB_t, mt_44, mg_166, mg_498, mg_39, (by decide), ⟨by decide, by decide⟩, fun _ => ⟨mg_167, by decide +kernel⟩, fun h => absurd rfl h⟩⟩, List.forall_mem_cons.mpr ⟨⟨fun h => absurd h (by decide), fun _ => ⟨mp_C_lineC_t, mt_45, mg_168, mg_523, mg_39, (by decide), ⟨by decide, by decide⟩, fun _ => ⟨mg_169, by decide +kernel⟩, fun h => absurd rfl h⟩⟩, fun _ h => absurd h List.not_mem_nil⟩⟩⟩⟩
theorem mo_C_takeCommonLine : mm_ok mm_Zb mm_Gb mm_clb mm_Tb "RootCompass" prog_1_method_35_code mp_C_takeCommonLine := ⟨by decide +kernel, List.forall_mem_cons.mpr ⟨⟨RX2, TX2, 8, tyX2, rfl, (by decide), mi_2, tyX2_ok, nmX2, Or.inl mg_2, fun h => absurd h (by decide), fun h => absurd h (by decide)⟩, List.forall_mem_cons.mpr ⟨⟨RX2, TX2, 8, tyX2, rfl, (by decide), mi_2, tyX2_ok, nmX2, Or.inl mg_9, fun h => absurd h (by decide), fun h => absurd h (by decide)⟩, List.forall_mem_cons.mpr ⟨⟨RX2, TX2, 8, tyX2, rfl, (by decide), mi_2, tyX2_ok, nmX2, Or.inl mg_4, fun h => absurd h (by decide), fun h => absurd h (by decide)⟩, List.forall_mem_cons.mpr ⟨⟨RX0, TX0, 7, tyX0, rfl, (by decide), mi_0, tyX0_ok, nmX0, Or.inr ⟨_, mn_2⟩, fun _ => ⟨rfl, rfl⟩, fun h => absurd h (by decide)⟩, List.forall_mem_cons.mpr ⟨⟨RX0, TX0, 7, tyX0, rfl, (by decide), mi_0, tyX0_ok, nmX0, Or.inr ⟨_, mn_3⟩, fun _ => ⟨rfl, rfl⟩, fun h => absurd h (by decide)⟩, List.forall_mem_cons.mpr ⟨⟨RX0, TX0, 7, tyX0, rfl, (by decide), mi_0, tyX0_ok, nmX0, Or.inr ⟨_, mn_4⟩, fun _ => ⟨rfl, rfl⟩, fun h => absurd h (by decide)⟩, fun _ h => absurd h List.not_mem_nil⟩⟩⟩⟩⟩⟩, fun _ h => absurd h List.not_mem_nil, List.forall_mem_cons.mpr ⟨⟨fun h => absurd h (by decide), fun _ => ⟨mp_C_squareOf_t, mt_46, mg_170, mg_493, mg_39, (by decide), ⟨by decide, by decide⟩, fun _ => ⟨mg_171, by decide +kernel⟩, fun h => absurd rfl h⟩⟩, List.forall_mem_cons.mpr ⟨⟨fun h => absurd h (by decide), fun _ => ⟨mp_N_times_t, mt_131, mg_418, mg_499, mg_387, (by decide), ⟨by decide, by decide⟩, fun h => absurd h (by decide), fun _ => ⟨mg_419, mg_420, ⟨_, rfl, rfl⟩, 2, rfl, by decide +kernel⟩⟩⟩, List.forall_mem_cons.mpr ⟨⟨fun h => absurd h (by decide), fun _ => ⟨mp_N_plus_t, mt_129, mg_412, mg_500, mg_387, (by decide), ⟨by decide, by decide⟩, fun h => absurd h (by decide), fun _ => ⟨mg_413, mg_414, ⟨_, rfl, rfl⟩, 2, rfl, by decide +kernel⟩⟩⟩, List.forall_mem_cons.mpr ⟨⟨fun h => absurd h (by decide), fun _ => ⟨mp_C_xOf_t, mt_41, mg_160, mg_502, mg_39, (by decide), ⟨by decide, by decide⟩, fun _ => ⟨mg_161, by decide +kernel⟩, fun h => absurd rfl h⟩⟩, List.forall_mem_cons.mpr ⟨⟨fun h => absurd h (by decide), fun _ => ⟨mp_N_minus_t, mt_130, mg_415, mg_503, mg_387, (by decide), ⟨by decide, by decide⟩, fun h => absurd h (by decide), fun _ => ⟨mg_416, mg_417, ⟨_, rfl, rfl⟩, 2, rfl, by decide +kernel⟩⟩⟩, List.forall_mem_cons.mpr ⟨⟨fun h => absurd h (by decide), fun _ => ⟨mp_C_yOf_t, mt_42, mg_162, mg_504, mg_39, (by decide), ⟨by decide, by decide⟩, fun _ => ⟨mg_163, by decide +kernel⟩, fun h => absurd rfl h⟩⟩, fun _ h => absurd h List.not_mem_nil⟩⟩⟩⟩⟩⟩⟩
theorem mo_C_measureCut : mm_ok mm_Zb mm_Gb mm_clb mm_Tb "RootCompass" prog_1_method_36_code mp_C_measureCut := ⟨by decide +kernel, List.forall_mem_cons.mpr ⟨⟨RX2, TX2, 8, tyX2, rfl, (by decide), mi_2, tyX2_ok, nmX2, Or.inl mg_2, fun h => absurd h (by decide), fun h => absurd h (by decide)⟩, List.forall_mem_cons.mpr ⟨⟨RX2, TX2, 8, tyX2, rfl, (by decide), mi_2, tyX2_ok, nmX2, Or.inl mg_9, fun h => absurd h (by decide), fun h => absurd h (by decide)⟩, List.forall_mem_cons.mpr ⟨⟨RX2, TX2, 8, tyX2, rfl, (by decide), mi_2, tyX2_ok, nmX2, Or.inl mg_4, fun h => absurd h (by decide), fun h => absurd h (by decide)⟩, List.forall_mem_cons.mpr ⟨⟨RX0, TX0, 7, tyX0, rfl, (by decide), mi_0, tyX0_ok, nmX0, Or.inr ⟨_, mn_2⟩, fun _ => ⟨rfl, rfl⟩, fun h => absurd h (by decide)⟩, List.forall_mem_cons.mpr ⟨⟨RX0, TX0, 7, tyX0, rfl, (by decide), mi_0, tyX0_ok, nmX0, Or.inr ⟨_, mn_3⟩, fun _ => ⟨rfl, rfl⟩, fun h => absurd h (by decide)⟩, List.forall_mem_cons.mpr ⟨⟨RX0, TX0, 7, tyX0, rfl, (by decide), mi_0, tyX0_ok, nmX0, Or.inr ⟨_, mn_4⟩, fun _ => ⟨rfl, rfl⟩, fun h => absurd h (by decide)⟩, List.forall_mem_cons.mpr ⟨⟨RX0, TX0, 7, tyX0, rfl, (by decide), mi_0, tyX0_ok, nmX0, Or.inr ⟨_, mn_5⟩, fun _ => ⟨rfl, rfl⟩, fun h => absurd h (by decide)⟩, List.forall_mem_cons.mpr ⟨⟨RX0, TX0, 7, tyX0, rfl, (by decide), mi_0, tyX0_ok, nmX0, Or.inr ⟨_, mn_6⟩, fun _ => ⟨rfl, rfl⟩, fun h => absurd h (by decide)⟩, List.forall_mem_cons.mpr ⟨⟨RX0, TX0, 7, tyX0, rfl, (by decide), mi_0, tyX0_ok, nmX0, Or.inr ⟨_, mn_7⟩, fun _ => ⟨rfl, rfl⟩, fun h => absurd h (by decide)⟩, List.forall_mem_cons.mpr ⟨⟨RX0, TX0, 7, tyX0, rfl, (by decide), mi_0, tyX0_ok, nmX0, Or.inr ⟨_, mn_8⟩, fun _ => ⟨rfl, rfl⟩, fun h => absurd h (by decide)⟩, fun _ h => absurd h List.not_mem_nil⟩⟩⟩⟩⟩⟩⟩⟩⟩⟩, fun _ h => absurd h List.not_mem_nil, List.forall_mem_cons.mpr ⟨⟨fun h => absurd h (by decide), fun _ => ⟨mp_C_squareOf_t, mt_46, mg_170, mg_493, mg_39, (by decide), ⟨by decide, by decide⟩, fun _ => ⟨mg_171, by decide +kernel⟩, fun h => absurd rfl h⟩⟩, List.forall_mem_cons.mpr ⟨⟨fun h => absurd h (by decide), fun _ => ⟨mp_N_times_t, mt_131, mg_418, mg_499, mg_387, (by decide), ⟨by decide, by decide⟩, fun h => absurd h (by decide), fun _ => ⟨mg_419, mg_420, ⟨_, rfl, rfl⟩, 2, rfl, by decide +kernel⟩⟩⟩, List.forall_mem_cons.mpr ⟨⟨fun h => absurd h (by decide), fun _ => ⟨mp_N_plus_t, mt_129, mg_412, mg_500, mg_387, (by decide), ⟨by decide, by decide⟩, fun h => absurd h (by decide), fun _ => ⟨mg_413, mg_414, ⟨_, rfl, rfl⟩, 2, rfl, by decide +kernel⟩⟩⟩, List.forall_mem_cons.mpr ⟨⟨fun h => absurd h (by decide), fun _ => ⟨mp_C_xOf_t, mt_41, mg_160, mg_502, mg_39, (by decide), ⟨by decide, by decide⟩, fun _ => ⟨mg_161, by decide +kernel⟩, fun h => absurd rfl h⟩⟩, List.forall_mem_cons.mpr ⟨⟨fun h => absurd h (by decide), fun _ => ⟨mp_N_minus_t, mt_130, mg_415, mg_503, mg_387, (by decide), ⟨by decide, by decide⟩, fun h => absurd h (by decide), fun _ => ⟨mg_416, mg_417, ⟨_, rfl, rfl⟩, 2, rfl, by decide +kernel⟩⟩⟩, List.forall_mem_cons.mpr ⟨⟨fun h => absurd h (by decide), fun _ => ⟨mp_C_yOf_t, mt_42, mg_162, mg_504, mg_39, (by decide), ⟨by decide, by decide⟩, fun _ => ⟨mg_163, by decide +kernel⟩, fun h => absurd rfl h⟩⟩, List.forall_mem_cons.mpr ⟨⟨fun h => absurd h (by decide), fun _ => ⟨mp_N_inverted_t, mt_134, mg_427, mg_525, mg_387, (by decide), ⟨by decide, by decide⟩, fun h => absurd h (by decide), fun _ => ⟨mg_428, mg_429, ⟨_, rfl, rfl⟩, 1, rfl, by decide +kernel⟩⟩⟩, fun _ h => absurd h List.not_mem_nil⟩⟩⟩⟩⟩⟩⟩⟩
theorem mo_C_drawCut : mm_ok mm_Zb mm_Gb mm_clb mm_Tb "RootCompass" prog_1_method_37_code mp_C_drawCut := ⟨by decide +kernel, List.forall_mem_cons.mpr ⟨⟨RX2, TX2, 8, tyX2, rfl, (by decide), mi_2, tyX2_ok, nmX2, Or.inl mg_2, fun h => absurd h (by decide), fun h => absurd h (by decide)⟩, List.forall_mem_cons.mpr ⟨⟨RX2, TX2, 8, tyX2, rfl, (by decide), mi_2, tyX2_ok, nmX2, Or.inl mg_9, fun h => absurd h (by decide), fun h => absurd h (by decide)⟩, List.forall_mem_cons.mpr ⟨⟨RX2, TX2, 8, tyX2, rfl, (by decide), mi_2, tyX2_ok, nmX2, Or.inl mg_8, fun h => absurd h (by decide), fun h => absurd h (by decide)⟩, List.forall_mem_cons.mpr ⟨⟨RX0, TX0, 7, tyX0, rfl, (by decide), mi_0, tyX0_ok, nmX0, Or.inr ⟨_, mn_2⟩, fun _ => ⟨rfl, rfl⟩, fun h => absurd h (by decide)⟩, List.forall_mem_cons.mpr ⟨⟨RX0, TX0, 7, tyX0, rfl, (by decide), mi_0, tyX0_ok, nmX0, Or.inr ⟨_, mn_3⟩, fun _ => ⟨rfl, rfl⟩, fun h => absurd h (by decide)⟩, List.forall_mem_cons.mpr ⟨⟨RX0, TX0, 7, tyX0, rfl, (by decide), mi_0, tyX0_ok, nmX0, Or.inr ⟨_, mn_5⟩, fun _ => ⟨rfl, rfl⟩, fun h => absurd h (by decide)⟩, List.forall_mem_cons.mpr ⟨⟨RX0, TX0, 7, tyX0, rfl, (by decide), mi_0, tyX0_ok, nmX0, Or.inr ⟨_, mn_6⟩, fun _ => ⟨rfl, rfl⟩, fun h => absurd h (by decide)⟩, List.forall_mem_cons.mpr ⟨⟨RX0, TX0, 7, tyX0, rfl, (by decide), mi_0, tyX0_ok, nmX0, Or.inr ⟨_, mn_7⟩, fun _ => ⟨rfl, rfl⟩, fun h => absurd h (by decide)⟩, List.forall_mem_cons.mpr ⟨⟨RX0, TX0, 7, tyX0, rfl, (by decide), mi_0, tyX0_ok, nmX0, Or.inr ⟨_, mn_8⟩, fun _ => ⟨rfl, rfl⟩, fun h => absurd h (by decide)⟩, fun _ h => absurd h List.not_mem_nil⟩⟩⟩⟩⟩⟩⟩⟩⟩, fun _ h => absurd h List.not_mem_nil, List.forall_mem_cons.mpr ⟨⟨fun h => absurd h (by decide), fun _ => ⟨mp_N_times_t, mt_131, mg_418, mg_499, mg_387, (by decide), ⟨by decide, by decide⟩, fun h => absurd h (by decide), fun _ => ⟨mg_419, mg_420, ⟨_, rfl, rfl⟩, 2, rfl, by decide +kernel⟩⟩⟩, List.forall_mem_cons.mpr ⟨⟨fun h => absurd h (by decide), fun _ => ⟨mp_N_plus_t, mt_129, mg_412, mg_500, mg_387, (by decide), ⟨by decide, by decide⟩, fun h => absurd h (by decide), fun _ => ⟨mg_413, mg_414, ⟨_, rfl, rfl⟩, 2, rfl, by decide +kernel⟩⟩⟩, List.forall_mem_cons.mpr ⟨⟨fun h => absurd h (by decide), fun _ => ⟨mp_C_xOf_t, mt_41, mg_160, mg_502, mg_39, (by decide), ⟨by decide, by decide⟩, fun _ => ⟨mg_161, by decide +kernel⟩, fun h => absurd rfl h⟩⟩, List.forall_mem_cons.mpr ⟨⟨fun h => absurd h (by decide), fun _ => ⟨mp_N_minus_t, mt_130, mg_415, mg_503, mg_387, (by decide), ⟨by decide, by decide⟩, fun h => absurd h (by decide), fun _ => ⟨mg_416, mg_417, ⟨_, rfl, rfl⟩, 2, rfl, by decide +kernel⟩⟩⟩, List.forall_mem_cons.mpr ⟨⟨fun h => absurd h (by decide), fun _ => ⟨mp_C_yOf_t, mt_42, mg_162, mg_504, mg_39, (by decide), ⟨by decide, by decide⟩, fun _ => ⟨mg_163, by decide +kernel⟩, fun h => absurd rfl h⟩⟩, List.forall_mem_cons.mpr ⟨⟨fun h => absurd h (by decide), fun _ => ⟨mp_N_copy_t, mt_124, mg_397, mg_522, mg_387, (by decide), ⟨by decide, by decide⟩, fun h => absurd h (by decide), fun _ => ⟨mg_398, mg_399, ⟨_, rfl, rfl⟩, 2, rfl, by decide +kernel⟩⟩⟩, List.forall_mem_cons.mpr ⟨⟨fun h => absurd h (by decide), fun _ => ⟨mp_N_negated_t, mt_132, mg_421, mg_526, mg_387, (by decide), ⟨by decide, by decide⟩, fun h => absurd h (by decide), fun _ => ⟨mg_422, mg_423, ⟨_, rfl, rfl⟩, 1, rfl, by decide +kernel⟩⟩⟩, fun _ h => absurd h List.not_mem_nil⟩⟩⟩⟩⟩⟩⟩⟩
theorem mo_C_liesOnLine : mm_ok mm_Zb mm_Gb mm_clb mm_Tb "RootCompass" prog_1_method_38_code mp_C_liesOnLine := ⟨by decide +kernel, List.forall_mem_cons.mpr ⟨⟨RX2, TX2, 8, tyX2, rfl, (by decide), mi_2, tyX2_ok, nmX2, Or.inl mg_2, fun h => absurd h (by decide), fun h => absurd h (by decide)⟩, fun _ h => absurd h List.not_mem_nil⟩, fun _ h => absurd h List.not_mem_nil, List.forall_mem_cons.mpr ⟨⟨fun h => absurd h (by decide), fun _ => ⟨mp_N_alike_t, mt_125, mg_400, mg_494, mg_387, (by decide), ⟨by decide, by decide⟩, fun h => absurd h (by decide), fun _ => ⟨mg_401, mg_402, ⟨_, rfl, rfl⟩, 2, rfl, by decide +kernel⟩⟩⟩, List.forall_mem_cons.mpr ⟨⟨fun h => absurd h (by decide), fun _ => ⟨mp_C_lineA_t, mt_43, mg_164, mg_497, mg_39, (by decide), ⟨by decide, by decide⟩, fun _ => ⟨mg_165, by decide +kernel⟩, fun h => absurd rfl h⟩⟩, List.forall_mem_cons.mpr ⟨⟨fun h => absurd h (by decide), fun _ => ⟨mp_C_lineB_t, mt_44, mg_166, mg_498, mg_39, (by decide), ⟨by decide, by decide⟩, fun _ => ⟨mg_167, by decide +kernel⟩, fun h => absurd rfl h⟩⟩, List.forall_mem_cons.mpr ⟨⟨fun h => absurd h (by decide), fun _ => ⟨mp_N_times_t, mt_131, mg_418, mg_499, mg_387, (by decide), ⟨by decide, by decide⟩, fun h => absurd h (by decide), fun _ => ⟨mg_419, mg_420, ⟨_, rfl, rfl⟩, 2, rfl, by decide +kernel⟩⟩⟩, List.forall_mem_cons.mpr ⟨⟨fun h => absurd h (by decide), fun _ => ⟨mp_N_plus_t, mt_129, mg_412, mg_500, mg_387, (by decide), ⟨by decide, by decide⟩, fun h => absurd h (by decide), fun _ => ⟨mg_413, mg_414, ⟨_, rfl, rfl⟩, 2, rfl, by decide +kernel⟩⟩⟩, List.forall_mem_cons.mpr ⟨⟨fun h => absurd h (by decide), fun _ => ⟨mp_C_xOf_t, mt_41, mg_160, mg_502, mg_39, (by decide), ⟨by decide, by decide⟩, fun _ => ⟨mg_161, by decide +kernel⟩, fun h => absurd rfl h⟩⟩, List.forall_mem_cons.mpr ⟨⟨fun h => absurd h (by decide), fun _ => ⟨mp_C_yOf_t, mt_42, mg_162, mg_504, mg_39, (by decide), ⟨by decide, by decide⟩, fun _ => ⟨mg_163, by decide +kernel⟩, fun h => absurd rfl h⟩⟩, List.forall_mem_cons.mpr ⟨⟨fun h => absurd h (by decide), fun _ => ⟨mp_C_lineC_t, mt_45, mg_168, mg_523, mg_39, (by decide), ⟨by decide, by decide⟩, fun _ => ⟨mg_169, by decide +kernel⟩, fun h => absurd rfl h⟩⟩, fun _ h => absurd h List.not_mem_nil⟩⟩⟩⟩⟩⟩⟩⟩⟩
theorem mo_C_coincide : mm_ok mm_Zb mm_Gb mm_clb mm_Tb "RootCompass" prog_1_method_39_code mp_C_coincide := ⟨by decide +kernel, List.forall_mem_cons.mpr ⟨⟨RX2, TX2, 8, tyX2, rfl, (by decide), mi_2, tyX2_ok, nmX2, Or.inl mg_2, fun h => absurd h (by decide), fun h => absurd h (by decide)⟩, fun _ h => absurd h List.not_mem_nil⟩, fun _ h => absurd h List.not_mem_nil, List.forall_mem_cons.mpr ⟨⟨fun h => absurd h (by decide), fun _ => ⟨mp_N_alike_t, mt_125, mg_400, mg_494, mg_387, (by decide), ⟨by decide, by decide⟩, fun h => absurd h (by decide), fun _ => ⟨mg_401, mg_402, ⟨_, rfl, rfl⟩, 2, rfl, by decide +kernel⟩⟩⟩, List.forall_mem_cons.mpr ⟨⟨fun h => absurd h (by decide), fun _ => ⟨mp_C_xOf_t, mt_41, mg_160, mg_502, mg_39, (by decide), ⟨by decide, by decide⟩, fun _ => ⟨mg_161, by decide +kernel⟩, fun h => absurd rfl h⟩⟩, List.forall_mem_cons.mpr ⟨⟨fun h => absurd h (by decide), fun _ => ⟨mp_C_yOf_t, mt_42, mg_162, mg_504, mg_39, (by decide), ⟨by decide, by decide⟩, fun _ => ⟨mg_163, by decide +kernel⟩, fun h => absurd rfl h⟩⟩, fun _ h => absurd h List.not_mem_nil⟩⟩⟩⟩
theorem mo_C_squareOfDistance : mm_ok mm_Zb mm_Gb mm_clb mm_Tb "RootCompass" prog_1_method_40_code mp_C_squareOfDistance := ⟨by decide +kernel, List.forall_mem_cons.mpr ⟨⟨RX2, TX2, 8, tyX2, rfl, (by decide), mi_2, tyX2_ok, nmX2, Or.inl mg_2, fun h => absurd h (by decide), fun h => absurd h (by decide)⟩, fun _ h => absurd h List.not_mem_nil⟩, fun _ h => absurd h List.not_mem_nil, List.forall_mem_cons.mpr ⟨⟨fun h => absurd h (by decide), fun _ => ⟨mp_N_times_t, mt_131, mg_418, mg_499, mg_387, (by decide), ⟨by decide, by decide⟩, fun h => absurd h (by decide), fun _ => ⟨mg_419, mg_420, ⟨_, rfl, rfl⟩, 2, rfl, by decide +kernel⟩⟩⟩, List.forall_mem_cons.mpr ⟨⟨fun h => absurd h (by decide), fun _ => ⟨mp_N_plus_t, mt_129, mg_412, mg_500, mg_387, (by decide), ⟨by decide, by decide⟩, fun h => absurd h (by decide), fun _ => ⟨mg_413, mg_414, ⟨_, rfl, rfl⟩, 2, rfl, by decide +kernel⟩⟩⟩, List.forall_mem_cons.mpr ⟨⟨fun h => absurd h (by decide), fun _ => ⟨mp_C_xOf_t, mt_41, mg_160, mg_502, mg_39, (by decide), ⟨by decide, by decide⟩, fun _ => ⟨mg_161, by decide +kernel⟩, fun h => absurd rfl h⟩⟩, List.forall_mem_cons.mpr ⟨⟨fun h => absurd h (by decide), fun _ => ⟨mp_N_minus_t, mt_130, mg_415, mg_503, mg_387, (by decide), ⟨by decide, by decide⟩, fun h => absurd h (by decide), fun _ => ⟨mg_416, mg_417, ⟨_, rfl, rfl⟩, 2, rfl, by decide +kernel⟩⟩⟩, List.forall_mem_cons.mpr ⟨⟨fun h => absurd h (by decide), fun _ => ⟨mp_C_yOf_t, mt_42, mg_162, mg_504, mg_39, (by decide), ⟨by decide, by decide⟩, fun _ => ⟨mg_163, by decide +kernel⟩, fun h => absurd rfl h⟩⟩, fun _ h => absurd h List.not_mem_nil⟩⟩⟩⟩⟩⟩
theorem mo_C_place : mm_ok mm_Zb mm_Gb mm_clb mm_Tb "RootCompass" prog_1_method_41_code mp_C_place := ⟨by decide +kernel, List.forall_mem_cons.mpr ⟨⟨RX2, TX2, 8, tyX2, rfl, (by decide), mi_2, tyX2_ok, nmX2, Or.inl mg_2, fun h => absurd h (by decide), fun h => absurd h (by decide)⟩, fun _ h => absurd h List.not_mem_nil⟩, fun _ h => absurd h List.not_mem_nil, List.forall_mem_cons.mpr ⟨⟨fun h => absurd h (by decide), fun _ => ⟨mp_N_begin_t, mt_122, mg_391, mg_490, mg_387, (by decide), ⟨by decide, by decide⟩, fun h => absurd h (by decide), fun _ => ⟨mg_392, mg_393, ⟨_, rfl, rfl⟩, 0, rfl, by decide +kernel⟩⟩⟩, List.forall_mem_cons.mpr ⟨⟨fun h => absurd h (by decide), fun _ => ⟨mp_C_xOf_t, mt_41, mg_160, mg_502, mg_39, (by decide), ⟨by decide, by decide⟩, fun _ => ⟨mg_161, by decide +kernel⟩, fun h => absurd rfl h⟩⟩, List.forall_mem_cons.mpr ⟨⟨fun h => absurd h (by decide), fun _ => ⟨mp_C_yOf_t, mt_42, mg_162, mg_504, mg_39, (by decide), ⟨by decide, by decide⟩, fun _ => ⟨mg_163, by decide +kernel⟩, fun h => absurd rfl h⟩⟩, List.forall_mem_cons.mpr ⟨⟨fun h => absurd h (by decide), fun _ => ⟨mp_N_copy_t, mt_124, mg_397, mg_522, mg_387, (by decide), ⟨by decide, by decide⟩, fun h => absurd h (by decide), fun _ => ⟨mg_398, mg_399, ⟨_, rfl, rfl⟩, 2, rfl, by decide +kernel⟩⟩⟩, List.forall_mem_cons.mpr ⟨⟨fun h => absurd h (by decide), fun _ => ⟨mp_N_quotient_t, mt_128, mg_409, mg_527, mg_387, (by decide), ⟨by decide, by decide⟩, fun h => absurd h (by decide), fun _ => ⟨mg_410, mg_411, ⟨_, rfl, rfl⟩, 2, rfl, by decide +kernel⟩⟩⟩, fun _ h => absurd h List.not_mem_nil⟩⟩⟩⟩⟩⟩
theorem mo_C_copyPlace : mm_ok mm_Zb mm_Gb mm_clb mm_Tb "RootCompass" prog_1_method_42_code mp_C_copyPlace := ⟨by decide +kernel, List.forall_mem_cons.mpr ⟨⟨RX2, TX2, 8, tyX2, rfl, (by decide), mi_2, tyX2_ok, nmX2, Or.inl mg_2, fun h => absurd h (by decide), fun h => absurd h (by decide)⟩, fun _ h => absurd h List.not_mem_nil⟩, fun _ h => absurd h List.not_mem_nil, List.forall_mem_cons.mpr ⟨⟨fun h => absurd h (by decide), fun _ => ⟨mp_C_xOf_t, mt_41, mg_160, mg_502, mg_39, (by decide), ⟨by decide, by decide⟩, fun _ => ⟨mg_161, by decide +kernel⟩, fun h => absurd rfl h⟩⟩, List.forall_mem_cons.mpr ⟨⟨fun h => absurd h (by decide), fun _ => ⟨mp_C_yOf_t, mt_42, mg_162, mg_504, mg_39, (by decide), ⟨by decide, by decide⟩, fun _ => ⟨mg_163, by decide +kernel⟩, fun h => absurd rfl h⟩⟩, List.forall_mem_cons.mpr ⟨⟨fun h => absurd h (by decide), fun _ => ⟨mp_N_copy_t, mt_124, mg_397, mg_522, mg_387, (by decide), ⟨by decide, by decide⟩, fun h => absurd h (by decide), fun _ => ⟨mg_398, mg_399, ⟨_, rfl, rfl⟩, 2, rfl, by decide +kernel⟩⟩⟩, fun _ h => absurd h List.not_mem_nil⟩⟩⟩⟩
theorem mo_C_xOf : mm_ok mm_Zb mm_Gb mm_clb mm_Tb "RootCompass" prog_1_method_43_code mp_C_xOf := ⟨by decide +kernel, fun _ h => absurd h List.not_mem_nil, fun _ h => absurd h List.not_mem_nil, List.forall_mem_cons.mpr ⟨⟨fun h => absurd h (by decide), fun _ => ⟨mp_N_home_t, mt_121, mg_389, mg_528, mg_387, (by decide), ⟨by decide, by decide⟩, fun _ => ⟨mg_390, by decide +kernel⟩, fun h => absurd rfl h⟩⟩, fun _ h => absurd h List.not_mem_nil⟩⟩
theorem mo_C_yOf : mm_ok mm_Zb mm_Gb mm_clb mm_Tb "RootCompass" prog_1_method_44_code mp_C_yOf := ⟨by decide +kernel, fun _ h => absurd h List.not_mem_nil, fun _ h => absurd h List.not_mem_nil, List.forall_mem_cons.mpr ⟨⟨fun h => absurd h (by decide), fun _ => ⟨mp_N_home_t, mt_121, mg_389, mg_528, mg_387, (by decide), ⟨by decide, by decide⟩, fun _ => ⟨mg_390, by decide +kernel⟩, fun h => absurd rfl h⟩⟩, fun _ h => absurd h List.not_mem_nil⟩⟩
theorem mo_C_lineA : mm_ok mm_Zb mm_Gb mm_clb mm_Tb "RootCompass" prog_1_method_45_code mp_C_lineA := ⟨by decide +kernel, fun _ h => absurd h List.not_mem_nil, fun _ h => absurd h List.not_mem_nil, List.forall_mem_cons.mpr ⟨⟨fun h => absurd h (by decide), fun _ => ⟨mp_N_home_t, mt_121, mg_389, mg_528, mg_387, (by decide), ⟨by decide, by decide⟩, fun _ => ⟨mg_390, by decide +kernel⟩, fun h => absurd rfl h⟩⟩, fun _ h => absurd h List.not_mem_nil⟩⟩
theorem mo_C_lineB : mm_ok mm_Zb mm_Gb mm_clb mm_Tb "RootCompass" prog_1_method_46_code mp_C_lineB := ⟨by decide +kernel, fun _ h => absurd h List.not_mem_nil, fun _ h => absurd h List.not_mem_nil, List.forall_mem_cons.mpr ⟨⟨fun h => absurd h (by decide), fun _ => ⟨mp_N_home_t, mt_121, mg_389, mg_528, mg_387, (by decide), ⟨by decide, by decide⟩, fun _ => ⟨mg_390, by decide +kernel⟩, fun h => absurd rfl h⟩⟩, fun _ h => absurd h List.not_mem_nil⟩⟩
theorem mo_C_lineC : mm_ok mm_Zb mm_Gb mm_clb mm_Tb "RootCompass" prog_1_method_47_code mp_C_lineC := ⟨by decide +kernel, fun _ h => absurd h List.not_mem_nil, fun _ h => absurd h List.not_mem_nil, List.forall_mem_cons.mpr ⟨⟨fun h => absurd h (by decide), fun _ => ⟨mp_N_home_t, mt_121, mg_389, mg_528, mg_387, (by decide), ⟨by decide, by decide⟩, fun _ => ⟨mg_390, by decide +kernel⟩, fun h => absurd rfl h⟩⟩, fun _ h => absurd h List.not_mem_nil⟩⟩
theorem mo_C_squareOf : mm_ok mm_Zb mm_Gb mm_clb mm_Tb "RootCompass" prog_1_method_48_code mp_C_squareOf := ⟨by decide +kernel, fun _ h => absurd h List.not_mem_nil, fun _ h => absurd h List.not_mem_nil, List.forall_mem_cons.mpr ⟨⟨fun h => absurd h (by decide), fun _ => ⟨mp_N_home_t, mt_121, mg_389, mg_528, mg_387, (by decide), ⟨by decide, by decide⟩, fun _ => ⟨mg_390, by decide +kernel⟩, fun h => absurd rfl h⟩⟩, fun _ h => absurd h List.not_mem_nil⟩⟩
theorem mo_M_thrown : mm_ok mm_Zb mm_Gb mm_clb mm_Tb "RootCompassModel" prog_5_method_2_code mp_M_thrown := ⟨by decide +kernel, List.forall_mem_cons.mpr ⟨⟨mm_RM, mm_TM, 11, mm_tyM, rfl, (by decide), mi_3, mm_tyM_ok, mm_nmM, Or.inl mg_10, fun _ => ⟨rfl, rfl⟩, fun h => absurd h (by decide)⟩, fun _ h => absurd h List.not_mem_nil⟩, fun _ h => absurd h List.not_mem_nil, fun _ h => absurd h List.not_mem_nil⟩
theorem mo_M_divisor : mm_ok mm_Zb mm_Gb mm_clb mm_Tb "RootCompassModel" prog_5_method_3_code mp_M_divisor := ⟨by decide +kernel, fun _ h => absurd h List.not_mem_nil, fun _ h => absurd h List.not_mem_nil, fun _ h => absurd h List.not_mem_nil⟩
theorem mo_M_put : mm_ok mm_Zb mm_Gb mm_clb mm_Tb "RootCompassModel" prog_5_method_4_code mp_M_put := ⟨by decide +kernel, List.forall_mem_cons.mpr ⟨⟨mm_RM, mm_TM, 11, mm_tyM, rfl, (by decide), mi_3, mm_tyM_ok, mm_nmM, Or.inl mg_14, fun h => absurd h (by decide), fun h => absurd h (by decide)⟩, List.forall_mem_cons.mpr ⟨⟨mm_RM, mm_TM, 11, mm_tyM, rfl, (by decide), mi_3, mm_tyM_ok, mm_nmM, Or.inl mg_15, fun h => absurd h (by decide), fun h => absurd h (by decide)⟩, List.forall_mem_cons.mpr ⟨⟨mm_RM, mm_TM, 11, mm_tyM, rfl, (by decide), mi_3, mm_tyM_ok, mm_nmM, Or.inl mg_13, fun h => absurd h (by decide), fun _ => ⟨rfl, rfl⟩⟩, fun _ h => absurd h List.not_mem_nil⟩⟩⟩, List.forall_mem_cons.mpr ⟨mg_11, List.forall_mem_cons.mpr ⟨mg_12, fun _ h => absurd h List.not_mem_nil⟩⟩, List.forall_mem_cons.mpr ⟨⟨fun h => absurd h (by decide), fun _ => ⟨mp_M_divisor_t, mt_48, mg_176, mg_529, mg_173, (by decide), ⟨by decide, by decide⟩, fun _ => ⟨mg_177, by decide +kernel⟩, fun h => absurd rfl h⟩⟩, fun _ h => absurd h List.not_mem_nil⟩⟩
theorem mo_M_add0 : mm_ok mm_Zb mm_Gb mm_clb mm_Tb "RootCompassModel" prog_5_method_5_code mp_M_add0 := ⟨by decide +kernel, List.forall_mem_cons.mpr ⟨⟨mm_RM, mm_TM, 11, mm_tyM, rfl, (by decide), mi_3, mm_tyM_ok, mm_nmM, Or.inl mg_14, fun h => absurd h (by decide), fun h => absurd h (by decide)⟩, List.forall_mem_cons.mpr ⟨⟨mm_RM, mm_TM, 11, mm_tyM, rfl, (by decide), mi_3, mm_tyM_ok, mm_nmM, Or.inl mg_15, fun h => absurd h (by decide), fun h => absurd h (by decide)⟩, fun _ h => absurd h List.not_mem_nil⟩⟩, fun _ h => absurd h List.not_mem_nil, List.forall_mem_cons.mpr ⟨⟨fun h => absurd h (by decide), fun _ => ⟨mp_M_put_t, mt_49, mg_178, mg_530, mg_173, (by decide), ⟨by decide, by decide⟩, fun h => absurd h (by decide), fun _ => ⟨mg_179, mg_180, ⟨_, rfl, rfl⟩, 3, rfl, by decide +kernel⟩⟩⟩, fun _ h => absurd h List.not_mem_nil⟩⟩
theorem mo_M_sub0 : mm_ok mm_Zb mm_Gb mm_clb mm_Tb "RootCompassModel" prog_5_method_6_code mp_M_sub0 := ⟨by decide +kernel, List.forall_mem_cons.mpr ⟨⟨mm_RM, mm_TM, 11, mm_tyM, rfl, (by decide), mi_3, mm_tyM_ok, mm_nmM, Or.inl mg_14, fun h => absurd h (by decide), fun h => absurd h (by decide)⟩, List.forall_mem_cons.mpr ⟨⟨mm_RM, mm_TM, 11, mm_tyM, rfl, (by decide), mi_3, mm_tyM_ok, mm_nmM, Or.inl mg_15, fun h => absurd h (by decide), fun h => absurd h (by decide)⟩, fun _ h => absurd h List.not_mem_nil⟩⟩, fun _ h => absurd h List.not_mem_nil, List.forall_mem_cons.mpr ⟨⟨fun h => absurd h (by decide), fun _ => ⟨mp_M_put_t, mt_49, mg_178, mg_530, mg_173, (by decide), ⟨by decide, by decide⟩, fun h => absurd h (by decide), fun _ => ⟨mg_179, mg_180, ⟨_, rfl, rfl⟩, 3, rfl, by decide +kernel⟩⟩⟩, fun _ h => absurd h List.not_mem_nil⟩⟩
theorem mo_M_mul0 : mm_ok mm_Zb mm_Gb mm_clb mm_Tb "RootCompassModel" prog_5_method_7_code mp_M_mul0 := ⟨by decide +kernel, List.forall_mem_cons.mpr ⟨⟨mm_RM, mm_TM, 11, mm_tyM, rfl, (by decide), mi_3, mm_tyM_ok, mm_nmM, Or.inl mg_14, fun h => absurd h (by decide), fun h => absurd h (by decide)⟩, List.forall_mem_cons.mpr ⟨⟨mm_RM, mm_TM, 11, mm_tyM, rfl, (by decide), mi_3, mm_tyM_ok, mm_nmM, Or.inl mg_15, fun h => absurd h (by decide), fun h => absurd h (by decide)⟩, fun _ h => absurd h List.not_mem_nil⟩⟩, fun _ h => absurd h List.not_mem_nil, List.forall_mem_cons.mpr ⟨⟨fun h => absurd h (by decide), fun _ => ⟨mp_M_put_t, mt_49, mg_178, mg_530, mg_173, (by decide), ⟨by decide, by decide⟩, fun h => absurd h (by decide), fun _ => ⟨mg_179, mg_180, ⟨_, rfl, rfl⟩, 3, rfl, by decide +kernel⟩⟩⟩, fun _ h => absurd h List.not_mem_nil⟩⟩
theorem mo_M_neg0 : mm_ok mm_Zb mm_Gb mm_clb mm_Tb "RootCompassModel" prog_5_method_8_code mp_M_neg0 := ⟨by decide +kernel, List.forall_mem_cons.mpr ⟨⟨mm_RM, mm_TM, 11, mm_tyM, rfl, (by decide), mi_3, mm_tyM_ok, mm_nmM, Or.inl mg_14, fun h => absurd h (by decide), fun h => absurd h (by decide)⟩, List.forall_mem_cons.mpr ⟨⟨mm_RM, mm_TM, 11, mm_tyM, rfl, (by decide), mi_3, mm_tyM_ok, mm_nmM, Or.inl mg_15, fun h => absurd h (by decide), fun h => absurd h (by decide)⟩, fun _ h => absurd h List.not_mem_nil⟩⟩, fun _ h => absurd h List.not_mem_nil, List.forall_mem_cons.mpr ⟨⟨fun h => absurd h (by decide), fun _ => ⟨mp_M_put_t, mt_49, mg_178, mg_530, mg_173, (by decide), ⟨by decide, by decide⟩, fun h => absurd h (by decide), fun _ => ⟨mg_179, mg_180, ⟨_, rfl, rfl⟩, 3, rfl, by decide +kernel⟩⟩⟩, fun _ h => absurd h List.not_mem_nil⟩⟩
theorem mo_M_inv0 : mm_ok mm_Zb mm_Gb mm_clb mm_Tb "RootCompassModel" prog_5_method_9_code mp_M_inv0 := ⟨by decide +kernel, List.forall_mem_cons.mpr ⟨⟨mm_RM, mm_TM, 11, mm_tyM, rfl, (by decide), mi_3, mm_tyM_ok, mm_nmM, Or.inl mg_14, fun h => absurd h (by decide), fun h => absurd h (by decide)⟩, List.forall_mem_cons.mpr ⟨⟨mm_RM, mm_TM, 11, mm_tyM, rfl, (by decide), mi_3, mm_tyM_ok, mm_nmM, Or.inl mg_15, fun h => absurd h (by decide), fun h => absurd h (by decide)⟩, List.forall_mem_cons.mpr ⟨⟨mm_RM, mm_TM, 11, mm_tyM, rfl, (by decide), mi_3, mm_tyM_ok, mm_nmM, Or.inl mg_13, fun h => absurd h (by decide), fun _ => ⟨rfl, rfl⟩⟩, fun _ h => absurd h List.not_mem_nil⟩⟩⟩, fun _ h => absurd h List.not_mem_nil, List.forall_mem_cons.mpr ⟨⟨fun h => absurd h (by decide), fun _ => ⟨mp_M_put_t, mt_49, mg_178, mg_530, mg_173, (by decide), ⟨by decide, by decide⟩, fun h => absurd h (by decide), fun _ => ⟨mg_179, mg_180, ⟨_, rfl, rfl⟩, 3, rfl, by decide +kernel⟩⟩⟩, fun _ h => absurd h List.not_mem_nil⟩⟩
theorem mo_M_sign0 : mm_ok mm_Zb mm_Gb mm_clb mm_Tb "RootCompassModel" prog_5_method_10_code mp_M_sign0 := ⟨by decide +kernel, List.forall_mem_cons.mpr ⟨⟨mm_RM, mm_TM, 11, mm_tyM, rfl, (by decide), mi_3, mm_tyM_ok, mm_nmM, Or.inl mg_14, fun h => absurd h (by decide), fun h => absurd h (by decide)⟩, fun _ h => absurd h List.not_mem_nil⟩, fun _ h => absurd h List.not_mem_nil, fun _ h => absurd h List.not_mem_nil⟩
theorem mo_M_square : mm_ok mm_Zb mm_Gb mm_clb mm_Tb "RootCompassModel" prog_5_method_11_code mp_M_square := ⟨by decide +kernel, fun _ h => absurd h List.not_mem_nil, List.forall_mem_cons.mpr ⟨mg_17, List.forall_mem_cons.mpr ⟨mg_16, List.forall_mem_cons.mpr ⟨mg_18, fun _ h => absurd h List.not_mem_nil⟩⟩⟩, fun _ h => absurd h List.not_mem_nil⟩
theorem mo_M_root0 : mm_ok mm_Zb mm_Gb mm_clb mm_Tb "RootCompassModel" prog_5_method_12_code mp_M_root0 := ⟨by decide +kernel, List.forall_mem_cons.mpr ⟨⟨mm_RM, mm_TM, 11, mm_tyM, rfl, (by decide), mi_3, mm_tyM_ok, mm_nmM, Or.inl mg_14, fun h => absurd h (by decide), fun h => absurd h (by decide)⟩, List.forall_mem_cons.mpr ⟨⟨mm_RM, mm_TM, 11, mm_tyM, rfl, (by decide), mi_3, mm_tyM_ok, mm_nmM, Or.inl mg_15, fun h => absurd h (by decide), fun h => absurd h (by decide)⟩, fun _ h => absurd h List.not_mem_nil⟩⟩, fun _ h => absurd h List.not_mem_nil, List.forall_mem_cons.mpr ⟨⟨fun h => absurd h (by decide), fun _ => ⟨mp_M_put_t, mt_49, mg_178, mg_530, mg_173, (by decide), ⟨by decide, by decide⟩, fun h => absurd h (by decide), fun _ => ⟨mg_179, mg_180, ⟨_, rfl, rfl⟩, 3, rfl, by decide +kernel⟩⟩⟩, List.forall_mem_cons.mpr ⟨⟨fun h => absurd h (by decide), fun _ => ⟨mp_M_square_t, mt_56, mg_199, mg_531, mg_173, (by decide), ⟨by decide, by decide⟩, fun _ => ⟨mg_200, by decide +kernel⟩, fun h => absurd rfl h⟩⟩, fun _ h => absurd h List.not_mem_nil⟩⟩⟩
theorem mo_M_set : mm_ok mm_Zb mm_Gb mm_clb mm_Tb "RootCompassModel" prog_5_method_13_code mp_M_set := ⟨by decide +kernel, List.forall_mem_cons.mpr ⟨⟨mm_RM, mm_TM, 11, mm_tyM, rfl, (by decide), mi_3, mm_tyM_ok, mm_nmM, Or.inl mg_14, fun h => absurd h (by decide), fun h => absurd h (by decide)⟩, List.forall_mem_cons.mpr ⟨⟨mm_RM, mm_TM, 11, mm_tyM, rfl, (by decide), mi_3, mm_tyM_ok, mm_nmM, Or.inl mg_15, fun h => absurd h (by decide), fun h => absurd h (by decide)⟩, fun _ h => absurd h List.not_mem_nil⟩⟩, fun _ h => absurd h List.not_mem_nil, fun _ h => absurd h List.not_mem_nil⟩
theorem mo_M_add : mm_ok mm_Zb mm_Gb mm_clb mm_Tb "RootCompassModel" prog_5_method_14_code mp_M_add := ⟨by decide +kernel, fun _ h => absurd h List.not_mem_nil, fun _ h => absurd h List.not_mem_nil, List.forall_mem_cons.mpr ⟨⟨fun h => absurd h (by decide), fun _ => ⟨mp_M_add0_t, mt_50, mg_181, mg_532, mg_173, (by decide), ⟨by decide, by decide⟩, fun h => absurd h (by decide), fun _ => ⟨mg_182, mg_183, ⟨_, rfl, rfl⟩, 3, rfl, by decide +kernel⟩⟩⟩, fun _ h => absurd h List.not_mem_nil⟩⟩
theorem mo_M_sub : mm_ok mm_Zb mm_Gb mm_clb mm_Tb "RootCompassModel" prog_5_method_15_code mp_M_sub := ⟨by decide +kernel, fun _ h => absurd h List.not_mem_nil, fun _ h => absurd h List.not_mem_nil, List.forall_mem_cons.mpr ⟨⟨fun h => absurd h (by decide), fun _ => ⟨mp_M_sub0_t, mt_51, mg_184, mg_533, mg_173, (by decide), ⟨by decide, by decide⟩, fun h => absurd h (by decide), fun _ => ⟨mg_185, mg_186, ⟨_, rfl, rfl⟩, 3, rfl, by decide +kernel⟩⟩⟩, fun _ h => absurd h List.not_mem_nil⟩⟩
theorem mo_M_neg : mm_ok mm_Zb mm_Gb mm_clb mm_Tb "RootCompassModel" prog_5_method_16_code mp_M_neg := ⟨by decide +kernel, fun _ h => absurd h List.not_mem_nil, fun _ h => absurd h List.not_mem_nil, List.forall_mem_cons.mpr ⟨⟨fun h => absurd h (by decide), fun _ => ⟨mp_M_neg0_t, mt_53, mg_190, mg_534, mg_173, (by decide), ⟨by decide, by decide⟩, fun h => absurd h (by decide), fun _ => ⟨mg_191, mg_192, ⟨_, rfl, rfl⟩, 2, rfl, by decide +kernel⟩⟩⟩, fun _ h => absurd h List.not_mem_nil⟩⟩
theorem mo_M_halve : mm_ok mm_Zb mm_Gb mm_clb mm_Tb "RootCompassModel" prog_5_method_17_code mp_M_halve := ⟨by decide +kernel, fun _ h => absurd h List.not_mem_nil, fun _ h => absurd h List.not_mem_nil, List.forall_mem_cons.mpr ⟨⟨fun h => absurd h (by decide), fun _ => ⟨mp_M_mul0_t, mt_52, mg_187, mg_535, mg_173, (by decide), ⟨by decide, by decide⟩, fun h => absurd h (by decide), fun _ => ⟨mg_188, mg_189, ⟨_, rfl, rfl⟩, 3, rfl, by decide +kernel⟩⟩⟩, fun _ h => absurd h List.not_mem_nil⟩⟩
theorem mo_M_isZero : mm_ok mm_Zb mm_Gb mm_clb mm_Tb "RootCompassModel" prog_5_method_18_code mp_M_isZero := ⟨by decide +kernel, List.forall_mem_cons.mpr ⟨⟨mm_RM, mm_TM, 11, mm_tyM, rfl, (by decide), mi_3, mm_tyM_ok, mm_nmM, Or.inl mg_14, fun h => absurd h (by decide), fun h => absurd h (by decide)⟩, fun _ h => absurd h List.not_mem_nil⟩, fun _ h => absurd h List.not_mem_nil, fun _ h => absurd h List.not_mem_nil⟩
theorem mo_M_alike : mm_ok mm_Zb mm_Gb mm_clb mm_Tb "RootCompassModel" prog_5_method_19_code mp_M_alike := ⟨by decide +kernel, List.forall_mem_cons.mpr ⟨⟨mm_RM, mm_TM, 11, mm_tyM, rfl, (by decide), mi_3, mm_tyM_ok, mm_nmM, Or.inl mg_14, fun h => absurd h (by decide), fun h => absurd h (by decide)⟩, List.forall_mem_cons.mpr ⟨⟨mm_RM, mm_TM, 11, mm_tyM, rfl, (by decide), mi_3, mm_tyM_ok, mm_nmM, Or.inl mg_15, fun h => absurd h (by decide), fun h => absurd h (by decide)⟩, fun _ h => absurd h List.not_mem_nil⟩⟩, fun _ h => absurd h List.not_mem_nil, fun _ h => absurd h List.not_mem_nil⟩
theorem mo_M_clear : mm_ok mm_Zb mm_Gb mm_clb mm_Tb "RootCompassModel" prog_5_method_20_code mp_M_clear := ⟨by decide +kernel, List.forall_mem_cons.mpr ⟨⟨mm_RM, mm_TM, 11, mm_tyM, rfl, (by decide), mi_3, mm_tyM_ok, mm_nmM, Or.inl mg_14, fun h => absurd h (by decide), fun h => absurd h (by decide)⟩, List.forall_mem_cons.mpr ⟨⟨mm_RM, mm_TM, 11, mm_tyM, rfl, (by decide), mi_3, mm_tyM_ok, mm_nmM, Or.inl mg_15, fun h => absurd h (by decide), fun h => absurd h (by decide)⟩, fun _ h => absurd h List.not_mem_nil⟩⟩, fun _ h => absurd h List.not_mem_nil, fun _ h => absurd h List.not_mem_nil⟩
theorem mo_M_mul1 : mm_ok mm_Zb mm_Gb mm_clb mm_Tb "RootCompassModel" prog_5_method_21_code mp_M_mul1 := ⟨by decide +kernel, fun _ h => absurd h List.not_mem_nil, fun _ h => absurd h List.not_mem_nil, List.forall_mem_cons.mpr ⟨⟨fun h => absurd h (by decide), fun _ => ⟨mp_M_add0_t, mt_50, mg_181, mg_532, mg_173, (by decide), ⟨by decide, by decide⟩, fun h => absurd h (by decide), fun _ => ⟨mg_182, mg_183, ⟨_, rfl, rfl⟩, 3, rfl, by decide +kernel⟩⟩⟩, List.forall_mem_cons.mpr ⟨⟨fun h => absurd h (by decide), fun _ => ⟨mp_M_mul0_t, mt_52, mg_187, mg_535, mg_173, (by decide), ⟨by decide, by decide⟩, fun h => absurd h (by decide), fun _ => ⟨mg_188, mg_189, ⟨_, rfl, rfl⟩, 3, rfl, by decide +kernel⟩⟩⟩, fun _ h => absurd h List.not_mem_nil⟩⟩⟩
theorem mo_M_norm1 : mm_ok mm_Zb mm_Gb mm_clb mm_Tb "RootCompassModel" prog_5_method_22_code mp_M_norm1 := ⟨by decide +kernel, fun _ h => absurd h List.not_mem_nil, fun _ h => absurd h List.not_mem_nil, List.forall_mem_cons.mpr ⟨⟨fun h => absurd h (by decide), fun _ => ⟨mp_M_sub0_t, mt_51, mg_184, mg_533, mg_173, (by decide), ⟨by decide, by decide⟩, fun h => absurd h (by decide), fun _ => ⟨mg_185, mg_186, ⟨_, rfl, rfl⟩, 3, rfl, by decide +kernel⟩⟩⟩, List.forall_mem_cons.mpr ⟨⟨fun h => absurd h (by decide), fun _ => ⟨mp_M_mul0_t, mt_52, mg_187, mg_535, mg_173, (by decide), ⟨by decide, by decide⟩, fun h => absurd h (by decide), fun _ => ⟨mg_188, mg_189, ⟨_, rfl, rfl⟩, 3, rfl, by decide +kernel⟩⟩⟩, fun _ h => absurd h List.not_mem_nil⟩⟩⟩
theorem mo_M_inv1 : mm_ok mm_Zb mm_Gb mm_clb mm_Tb "RootCompassModel" prog_5_method_23_code mp_M_inv1 := ⟨by decide +kernel, fun _ h => absurd h List.not_mem_nil, fun _ h => absurd h List.not_mem_nil, List.forall_mem_cons.mpr ⟨⟨fun h => absurd h (by decide), fun _ => ⟨mp_M_neg0_t, mt_53, mg_190, mg_534, mg_173, (by decide), ⟨by decide, by decide⟩, fun h => absurd h (by decide), fun _ => ⟨mg_191, mg_192, ⟨_, rfl, rfl⟩, 2, rfl, by decide +kernel⟩⟩⟩, List.forall_mem_cons.mpr ⟨⟨fun h => absurd h (by decide), fun _ => ⟨mp_M_mul0_t, mt_52, mg_187, mg_535, mg_173, (by decide), ⟨by decide, by decide⟩, fun h => absurd h (by decide), fun _ => ⟨mg_188, mg_189, ⟨_, rfl, rfl⟩, 3, rfl, by decide +kernel⟩⟩⟩, List.forall_mem_cons.mpr ⟨⟨fun h => absurd h (by decide), fun _ => ⟨mp_M_norm1_t, mt_67, mg_231, mg_536, mg_173, (by decide), ⟨by decide, by decide⟩, fun h => absurd h (by decide), fun _ => ⟨mg_232, mg_233, ⟨_, rfl, rfl⟩, 2, rfl, by decide +kernel⟩⟩⟩, List.forall_mem_cons.mpr ⟨⟨fun h => absurd h (by decide), fun _ => ⟨mp_M_inv0_t, mt_54, mg_193, mg_537, mg_173, (by decide), ⟨by decide, by decide⟩, fun h => absurd h (by decide), fun _ => ⟨mg_194, mg_195, ⟨_, rfl, rfl⟩, 2, rfl, by decide +kernel⟩⟩⟩, fun _ h => absurd h List.not_mem_nil⟩⟩⟩⟩⟩
theorem mo_M_sign1 : mm_ok mm_Zb mm_Gb mm_clb mm_Tb "RootCompassModel" prog_5_method_24_code mp_M_sign1 := ⟨by decide +kernel, fun _ h => absurd h List.not_mem_nil, fun _ h => absurd h List.not_mem_nil, List.forall_mem_cons.mpr ⟨⟨fun h => absurd h (by decide), fun _ => ⟨mp_M_norm1_t, mt_67, mg_231, mg_536, mg_173, (by decide), ⟨by decide, by decide⟩, fun h => absurd h (by decide), fun _ => ⟨mg_232, mg_233, ⟨_, rfl, rfl⟩, 2, rfl, by decide +kernel⟩⟩⟩, List.forall_mem_cons.mpr ⟨⟨fun h => absurd h (by decide), fun _ => ⟨mp_M_sign0_t, mt_55, mg_196, mg_538, mg_173, (by decide), ⟨by decide, by decide⟩, fun h => absurd h (by decide), fun _ => ⟨mg_197, mg_198, ⟨_, rfl, rfl⟩, 1, rfl, by decide +kernel⟩⟩⟩, fun _ h => absurd h List.not_mem_nil⟩⟩⟩
theorem mo_M_half1 : mm_ok mm_Zb mm_Gb mm_clb mm_Tb "RootCompassModel" prog_5_method_25_code mp_M_half1 := ⟨by decide +kernel, fun _ h => absurd h List.not_mem_nil, fun _ h => absurd h List.not_mem_nil, List.forall_mem_cons.mpr ⟨⟨fun h => absurd h (by decide), fun _ => ⟨mp_M_add0_t, mt_50, mg_181, mg_532, mg_173, (by decide), ⟨by decide, by decide⟩, fun h => absurd h (by decide), fun _ => ⟨mg_182, mg_183, ⟨_, rfl, rfl⟩, 3, rfl, by decide +kernel⟩⟩⟩, List.forall_mem_cons.mpr ⟨⟨fun h => absurd h (by decide), fun _ => ⟨mp_M_sub0_t, mt_51, mg_184, mg_533, mg_173, (by decide), ⟨by decide, by decide⟩, fun h => absurd h (by decide), fun _ => ⟨mg_185, mg_186, ⟨_, rfl, rfl⟩, 3, rfl, by decide +kernel⟩⟩⟩, List.forall_mem_cons.mpr ⟨⟨fun h => absurd h (by decide), fun _ => ⟨mp_M_mul0_t, mt_52, mg_187, mg_535, mg_173, (by decide), ⟨by decide, by decide⟩, fun h => absurd h (by decide), fun _ => ⟨mg_188, mg_189, ⟨_, rfl, rfl⟩, 3, rfl, by decide +kernel⟩⟩⟩, List.forall_mem_cons.mpr ⟨⟨fun h => absurd h (by decide), fun _ => ⟨mp_M_inv0_t, mt_54, mg_193, mg_537, mg_173, (by decide), ⟨by decide, by decide⟩, fun h => absurd h (by decide), fun _ => ⟨mg_194, mg_195, ⟨_, rfl, rfl⟩, 2, rfl, by decide +kernel⟩⟩⟩, List.forall_mem_cons.mpr ⟨⟨fun h => absurd h (by decide), fun _ => ⟨mp_M_sign0_t, mt_55, mg_196, mg_538, mg_173, (by decide), ⟨by decide, by decide⟩, fun h => absurd h (by decide), fun _ => ⟨mg_197, mg_198, ⟨_, rfl, rfl⟩, 1, rfl, by decide +kernel⟩⟩⟩, List.forall_mem_cons.mpr ⟨⟨fun h => absurd h (by decide), fun _ => ⟨mp_M_root0_t, mt_57, mg_201, mg_539, mg_173, (by decide), ⟨by decide, by decide⟩, fun h => absurd h (by decide), fun _ => ⟨mg_202, mg_203, ⟨_, rfl, rfl⟩, 2, rfl, by decide +kernel⟩⟩⟩, List.forall_mem_cons.mpr ⟨⟨fun h => absurd h (by decide), fun _ => ⟨mp_M_sign1_t, mt_69, mg_237, mg_540, mg_173, (by decide), ⟨by decide, by decide⟩, fun h => absurd h (by decide), fun _ => ⟨mg_238, mg_239, ⟨_, rfl, rfl⟩, 1, rfl, by decide +kernel⟩⟩⟩, List.forall_mem_cons.mpr ⟨⟨fun h => absurd h (by decide), fun _ => ⟨mp_M_set_t, mt_58, mg_204, mg_541, mg_173, (by decide), ⟨by decide, by decide⟩, fun h => absurd h (by decide), fun _ => ⟨mg_205, mg_206, ⟨_, rfl, rfl⟩, 3, rfl, by decide +kernel⟩⟩⟩, List.forall_mem_cons.mpr ⟨⟨fun h => absurd h (by decide), fun _ => ⟨mp_M_neg_t, mt_61, mg_213, mg_542, mg_173, (by decide), ⟨by decide, by decide⟩, fun h => absurd h (by decide), fun _ => ⟨mg_214, mg_215, ⟨_, rfl, rfl⟩, 3, rfl, by decide +kernel⟩⟩⟩, fun _ h => absurd h List.not_mem_nil⟩⟩⟩⟩⟩⟩⟩⟩⟩⟩
theorem mo_M_root1 : mm_ok mm_Zb mm_Gb mm_clb mm_Tb "RootCompassModel" prog_5_method_26_code mp_M_root1 := ⟨by decide +kernel, List.forall_mem_cons.mpr ⟨⟨mm_RM, mm_TM, 11, mm_tyM, rfl, (by decide), mi_3, mm_tyM_ok, mm_nmM, Or.inl mg_14, fun h => absurd h (by decide), fun h => absurd h (by decide)⟩, List.forall_mem_cons.mpr ⟨⟨mm_RM, mm_TM, 11, mm_tyM, rfl, (by decide), mi_3, mm_tyM_ok, mm_nmM, Or.inl mg_15, fun h => absurd h (by decide), fun h => absurd h (by decide)⟩, fun _ h => absurd h List.not_mem_nil⟩⟩, fun _ h => absurd h List.not_mem_nil, List.forall_mem_cons.mpr ⟨⟨fun h => absurd h (by decide), fun _ => ⟨mp_M_mul0_t, mt_52, mg_187, mg_535, mg_173, (by decide), ⟨by decide, by decide⟩, fun h => absurd h (by decide), fun _ => ⟨mg_188, mg_189, ⟨_, rfl, rfl⟩, 3, rfl, by decide +kernel⟩⟩⟩, List.forall_mem_cons.mpr ⟨⟨fun h => absurd h (by decide), fun _ => ⟨mp_M_norm1_t, mt_67, mg_231, mg_536, mg_173, (by decide), ⟨by decide, by decide⟩, fun h => absurd h (by decide), fun _ => ⟨mg_232, mg_233, ⟨_, rfl, rfl⟩, 2, rfl, by decide +kernel⟩⟩⟩, List.forall_mem_cons.mpr ⟨⟨fun h => absurd h (by decide), fun _ => ⟨mp_M_inv0_t, mt_54, mg_193, mg_537, mg_173, (by decide), ⟨by decide, by decide⟩, fun h => absurd h (by decide), fun _ => ⟨mg_194, mg_195, ⟨_, rfl, rfl⟩, 2, rfl, by decide +kernel⟩⟩⟩, List.forall_mem_cons.mpr ⟨⟨fun h => absurd h (by decide), fun _ => ⟨mp_M_sign0_t, mt_55, mg_196, mg_538, mg_173, (by decide), ⟨by decide, by decide⟩, fun h => absurd h (by decide), fun _ => ⟨mg_197, mg_198, ⟨_, rfl, rfl⟩, 1, rfl, by decide +kernel⟩⟩⟩, List.forall_mem_cons.mpr ⟨⟨fun h => absurd h (by decide), fun _ => ⟨mp_M_root0_t, mt_57, mg_201, mg_539, mg_173, (by decide), ⟨by decide, by decide⟩, fun h => absurd h (by decide), fun _ => ⟨mg_202, mg_203, ⟨_, rfl, rfl⟩, 2, rfl, by decide +kernel⟩⟩⟩, List.forall_mem_cons.mpr ⟨⟨fun h => absurd h (by decide), fun _ => ⟨mp_M_set_t, mt_58, mg_204, mg_541, mg_173, (by decide), ⟨by decide, by decide⟩, fun h => absurd h (by decide), fun _ => ⟨mg_205, mg_206, ⟨_, rfl, rfl⟩, 3, rfl, by decide +kernel⟩⟩⟩, List.forall_mem_cons.mpr ⟨⟨fun h => absurd h (by decide), fun _ => ⟨mp_M_half1_t, mt_70, mg_240, mg_543, mg_173, (by decide), ⟨by decide, by decide⟩, fun h => absurd h (by decide), fun _ => ⟨mg_241, mg_242, ⟨_, rfl, rfl⟩, 4, rfl, by decide +kernel⟩⟩⟩, fun _ h => absurd h List.not_mem_nil⟩⟩⟩⟩⟩⟩⟩⟩
theorem mo_M_mul2 : mm_ok mm_Zb mm_Gb mm_clb mm_Tb "RootCompassModel" prog_5_method_27_code mp_M_mul2 := ⟨by decide +kernel, fun _ h => absurd h List.not_mem_nil, fun _ h => absurd h List.not_mem_nil, List.forall_mem_cons.mpr ⟨⟨fun h => absurd h (by decide), fun _ => ⟨mp_M_mul1_t, mt_66, mg_228, mg_544, mg_173, (by decide), ⟨by decide, by decide⟩, fun h => absurd h (by decide), fun _ => ⟨mg_229, mg_230, ⟨_, rfl, rfl⟩, 3, rfl, by decide +kernel⟩⟩⟩, List.forall_mem_cons.mpr ⟨⟨fun h => absurd h (by decide), fun _ => ⟨mp_M_add_t, mt_59, mg_207, mg_545, mg_173, (by decide), ⟨by decide, by decide⟩, fun h => absurd h (by decide), fun _ => ⟨mg_208, mg_209, ⟨_, rfl, rfl⟩, 4, rfl, by decide +kernel⟩⟩⟩, fun _ h => absurd h List.not_mem_nil⟩⟩⟩
theorem mo_M_norm2 : mm_ok mm_Zb mm_Gb mm_clb mm_Tb "RootCompassModel" prog_5_method_28_code mp_M_norm2 := ⟨by decide +kernel, fun _ h => absurd h List.not_mem_nil, fun _ h => absurd h List.not_mem_nil, List.forall_mem_cons.mpr ⟨⟨fun h => absurd h (by decide), fun _ => ⟨mp_M_mul1_t, mt_66, mg_228, mg_544, mg_173, (by decide), ⟨by decide, by decide⟩, fun h => absurd h (by decide), fun _ => ⟨mg_229, mg_230, ⟨_, rfl, rfl⟩, 3, rfl, by decide +kernel⟩⟩⟩, List.forall_mem_cons.mpr ⟨⟨fun h => absurd h (by decide), fun _ => ⟨mp_M_sub_t, mt_60, mg_210, mg_546, mg_173, (by decide), ⟨by decide, by decide⟩, fun h => absurd h (by decide), fun _ => ⟨mg_211, mg_212, ⟨_, rfl, rfl⟩, 4, rfl, by decide +kernel⟩⟩⟩, fun _ h => absurd h List.not_mem_nil⟩⟩⟩
theorem mo_M_inv2 : mm_ok mm_Zb mm_Gb mm_clb mm_Tb "RootCompassModel" prog_5_method_29_code mp_M_inv2 := ⟨by decide +kernel, fun _ h => absurd h List.not_mem_nil, fun _ h => absurd h List.not_mem_nil, List.forall_mem_cons.mpr ⟨⟨fun h => absurd h (by decide), fun _ => ⟨mp_M_set_t, mt_58, mg_204, mg_541, mg_173, (by decide), ⟨by decide, by decide⟩, fun h => absurd h (by decide), fun _ => ⟨mg_205, mg_206, ⟨_, rfl, rfl⟩, 3, rfl, by decide +kernel⟩⟩⟩, List.forall_mem_cons.mpr ⟨⟨fun h => absurd h (by decide), fun _ => ⟨mp_M_neg_t, mt_61, mg_213, mg_542, mg_173, (by decide), ⟨by decide, by decide⟩, fun h => absurd h (by decide), fun _ => ⟨mg_214, mg_215, ⟨_, rfl, rfl⟩, 3, rfl, by decide +kernel⟩⟩⟩, List.forall_mem_cons.mpr ⟨⟨fun h => absurd h (by decide), fun _ => ⟨mp_M_mul1_t, mt_66, mg_228, mg_544, mg_173, (by decide), ⟨by decide, by decide⟩, fun h => absurd h (by decide), fun _ => ⟨mg_229, mg_230, ⟨_, rfl, rfl⟩, 3, rfl, by decide +kernel⟩⟩⟩, List.forall_mem_cons.mpr ⟨⟨fun h => absurd h (by decide), fun _ => ⟨mp_M_norm2_t, mt_73, mg_249, mg_547, mg_173, (by decide), ⟨by decide, by decide⟩, fun h => absurd h (by decide), fun _ => ⟨mg_250, mg_251, ⟨_, rfl, rfl⟩, 2, rfl, by decide +kernel⟩⟩⟩, List.forall_mem_cons.mpr ⟨⟨fun h => absurd h (by decide), fun _ => ⟨mp_M_inv1_t, mt_68, mg_234, mg_548, mg_173, (by decide), ⟨by decide, by decide⟩, fun h => absurd h (by decide), fun _ => ⟨mg_235, mg_236, ⟨_, rfl, rfl⟩, 2, rfl, by decide +kernel⟩⟩⟩, fun _ h => absurd h List.not_mem_nil⟩⟩⟩⟩⟩⟩
theorem mo_M_sign2 : mm_ok mm_Zb mm_Gb mm_clb mm_Tb "RootCompassModel" prog_5_method_30_code mp_M_sign2 := ⟨by decide +kernel, fun _ h => absurd h List.not_mem_nil, fun _ h => absurd h List.not_mem_nil, List.forall_mem_cons.mpr ⟨⟨fun h => absurd h (by decide), fun _ => ⟨mp_M_sign1_t, mt_69, mg_237, mg_540, mg_173, (by decide), ⟨by decide, by decide⟩, fun h => absurd h (by decide), fun _ => ⟨mg_238, mg_239, ⟨_, rfl, rfl⟩, 1, rfl, by decide +kernel⟩⟩⟩, List.forall_mem_cons.mpr ⟨⟨fun h => absurd h (by decide), fun _ => ⟨mp_M_norm2_t, mt_73, mg_249, mg_547, mg_173, (by decide), ⟨by decide, by decide⟩, fun h => absurd h (by decide), fun _ => ⟨mg_250, mg_251, ⟨_, rfl, rfl⟩, 2, rfl, by decide +kernel⟩⟩⟩, fun _ h => absurd h List.not_mem_nil⟩⟩⟩
theorem mo_M_half2 : mm_ok mm_Zb mm_Gb mm_clb mm_Tb "RootCompassModel" prog_5_method_31_code mp_M_half2 := ⟨by decide +kernel, fun _ h => absurd h List.not_mem_nil, fun _ h => absurd h List.not_mem_nil, List.forall_mem_cons.mpr ⟨⟨fun h => absurd h (by decide), fun _ => ⟨mp_M_sign1_t, mt_69, mg_237, mg_540, mg_173, (by decide), ⟨by decide, by decide⟩, fun h => absurd h (by decide), fun _ => ⟨mg_238, mg_239, ⟨_, rfl, rfl⟩, 1, rfl, by decide +kernel⟩⟩⟩, List.forall_mem_cons.mpr ⟨⟨fun h => absurd h (by decide), fun _ => ⟨mp_M_set_t, mt_58, mg_204, mg_541, mg_173, (by decide), ⟨by decide, by decide⟩, fun h => absurd h (by decide), fun _ => ⟨mg_205, mg_206, ⟨_, rfl, rfl⟩, 3, rfl, by decide +kernel⟩⟩⟩, List.forall_mem_cons.mpr ⟨⟨fun h => absurd h (by decide), fun _ => ⟨mp_M_neg_t, mt_61, mg_213, mg_542, mg_173, (by decide), ⟨by decide, by decide⟩, fun h => absurd h (by decide), fun _ => ⟨mg_214, mg_215, ⟨_, rfl, rfl⟩, 3, rfl, by decide +kernel⟩⟩⟩, List.forall_mem_cons.mpr ⟨⟨fun h => absurd h (by decide), fun _ => ⟨mp_M_mul1_t, mt_66, mg_228, mg_544, mg_173, (by decide), ⟨by decide, by decide⟩, fun h => absurd h (by decide), fun _ => ⟨mg_229, mg_230, ⟨_, rfl, rfl⟩, 3, rfl, by decide +kernel⟩⟩⟩, List.forall_mem_cons.mpr ⟨⟨fun h => absurd h (by decide), fun _ => ⟨mp_M_add_t, mt_59, mg_207, mg_545, mg_173, (by decide), ⟨by decide, by decide⟩, fun h => absurd h (by decide), fun _ => ⟨mg_208, mg_209, ⟨_, rfl, rfl⟩, 4, rfl, by decide +kernel⟩⟩⟩, List.forall_mem_cons.mpr ⟨⟨fun h => absurd h (by decide), fun _ => ⟨mp_M_sub_t, mt_60, mg_210, mg_546, mg_173, (by decide), ⟨by decide, by decide⟩, fun h => absurd h (by decide), fun _ => ⟨mg_211, mg_212, ⟨_, rfl, rfl⟩, 4, rfl, by decide +kernel⟩⟩⟩, List.forall_mem_cons.mpr ⟨⟨fun h => absurd h (by decide), fun _ => ⟨mp_M_inv1_t, mt_68, mg_234, mg_548, mg_173, (by decide), ⟨by decide, by decide⟩, fun h => absurd h (by decide), fun _ => ⟨mg_235, mg_236, ⟨_, rfl, rfl⟩, 2, rfl, by decide +kernel⟩⟩⟩, List.forall_mem_cons.mpr ⟨⟨fun h => absurd h (by decide), fun _ => ⟨mp_M_halve_t, mt_62, mg_216, mg_549, mg_173, (by decide), ⟨by decide, by decide⟩, fun h => absurd h (by decide), fun _ => ⟨mg_217, mg_218, ⟨_, rfl, rfl⟩, 3, rfl, by decide +kernel⟩⟩⟩, List.forall_mem_cons.mpr ⟨⟨fun h => absurd h (by decide), fun _ => ⟨mp_M_root1_t, mt_71, mg_243, mg_550, mg_173, (by decide), ⟨by decide, by decide⟩, fun h => absurd h (by decide), fun _ => ⟨mg_244, mg_245, ⟨_, rfl, rfl⟩, 2, rfl, by decide +kernel⟩⟩⟩, List.forall_mem_cons.mpr ⟨⟨fun h => absurd h (by decide), fun _ => ⟨mp_M_sign2_t, mt_75, mg_255, mg_551, mg_173, (by decide), ⟨by decide, by decide⟩, fun h => absurd h (by decide), fun _ => ⟨mg_256, mg_257, ⟨_, rfl, rfl⟩, 1, rfl, by decide +kernel⟩⟩⟩, fun _ h => absurd h List.not_mem_nil⟩⟩⟩⟩⟩⟩⟩⟩⟩⟩⟩
theorem mo_M_root2 : mm_ok mm_Zb mm_Gb mm_clb mm_Tb "RootCompassModel" prog_5_method_32_code mp_M_root2 := ⟨by decide +kernel, fun _ h => absurd h List.not_mem_nil, fun _ h => absurd h List.not_mem_nil, List.forall_mem_cons.mpr ⟨⟨fun h => absurd h (by decide), fun _ => ⟨mp_M_sign1_t, mt_69, mg_237, mg_540, mg_173, (by decide), ⟨by decide, by decide⟩, fun h => absurd h (by decide), fun _ => ⟨mg_238, mg_239, ⟨_, rfl, rfl⟩, 1, rfl, by decide +kernel⟩⟩⟩, List.forall_mem_cons.mpr ⟨⟨fun h => absurd h (by decide), fun _ => ⟨mp_M_set_t, mt_58, mg_204, mg_541, mg_173, (by decide), ⟨by decide, by decide⟩, fun h => absurd h (by decide), fun _ => ⟨mg_205, mg_206, ⟨_, rfl, rfl⟩, 3, rfl, by decide +kernel⟩⟩⟩, List.forall_mem_cons.mpr ⟨⟨fun h => absurd h (by decide), fun _ => ⟨mp_M_mul1_t, mt_66, mg_228, mg_544, mg_173, (by decide), ⟨by decide, by decide⟩, fun h => absurd h (by decide), fun _ => ⟨mg_229, mg_230, ⟨_, rfl, rfl⟩, 3, rfl, by decide +kernel⟩⟩⟩, List.forall_mem_cons.mpr ⟨⟨fun h => absurd h (by decide), fun _ => ⟨mp_M_norm2_t, mt_73, mg_249, mg_547, mg_173, (by decide), ⟨by decide, by decide⟩, fun h => absurd h (by decide), fun _ => ⟨mg_250, mg_251, ⟨_, rfl, rfl⟩, 2, rfl, by decide +kernel⟩⟩⟩, List.forall_mem_cons.mpr ⟨⟨fun h => absurd h (by decide), fun _ => ⟨mp_M_inv1_t, mt_68, mg_234, mg_548, mg_173, (by decide), ⟨by decide, by decide⟩, fun h => absurd h (by decide), fun _ => ⟨mg_235, mg_236, ⟨_, rfl, rfl⟩, 2, rfl, by decide +kernel⟩⟩⟩, List.forall_mem_cons.mpr ⟨⟨fun h => absurd h (by decide), fun _ => ⟨mp_M_root1_t, mt_71, mg_243, mg_550, mg_173, (by decide), ⟨by decide, by decide⟩, fun h => absurd h (by decide), fun _ => ⟨mg_244, mg_245, ⟨_, rfl, rfl⟩, 2, rfl, by decide +kernel⟩⟩⟩, List.forall_mem_cons.mpr ⟨⟨fun h => absurd h (by decide), fun _ => ⟨mp_M_isZero_t, mt_63, mg_219, mg_552, mg_173, (by decide), ⟨by decide, by decide⟩, fun h => absurd h (by decide), fun _ => ⟨mg_220, mg_221, ⟨_, rfl, rfl⟩, 2, rfl, by decide +kernel⟩⟩⟩, List.forall_mem_cons.mpr ⟨⟨fun h => absurd h (by decide), fun _ => ⟨mp_M_clear_t, mt_65, mg_225, mg_553, mg_173, (by decide), ⟨by decide, by decide⟩, fun h => absurd h (by decide), fun _ => ⟨mg_226, mg_227, ⟨_, rfl, rfl⟩, 2, rfl, by decide +kernel⟩⟩⟩, List.forall_mem_cons.mpr ⟨⟨fun h => absurd h (by decide), fun _ => ⟨mp_M_half2_t, mt_76, mg_258, mg_554, mg_173, (by decide), ⟨by decide, by decide⟩, fun h => absurd h (by decide), fun _ => ⟨mg_259, mg_260, ⟨_, rfl, rfl⟩, 4, rfl, by decide +kernel⟩⟩⟩, fun _ h => absurd h List.not_mem_nil⟩⟩⟩⟩⟩⟩⟩⟩⟩⟩
theorem mo_M_mul : mm_ok mm_Zb mm_Gb mm_clb mm_Tb "RootCompassModel" prog_5_method_33_code mp_M_mul := ⟨by decide +kernel, List.forall_mem_cons.mpr ⟨⟨mm_RM, mm_TM, 11, mm_tyM, rfl, (by decide), mi_3, mm_tyM_ok, mm_nmM, Or.inl mg_19, fun _ => ⟨rfl, rfl⟩, fun h => absurd h (by decide)⟩, fun _ h => absurd h List.not_mem_nil⟩, fun _ h => absurd h List.not_mem_nil, List.forall_mem_cons.mpr ⟨⟨fun h => absurd h (by decide), fun _ => ⟨mp_M_mul0_t, mt_52, mg_187, mg_535, mg_173, (by decide), ⟨by decide, by decide⟩, fun h => absurd h (by decide), fun _ => ⟨mg_188, mg_189, ⟨_, rfl, rfl⟩, 3, rfl, by decide +kernel⟩⟩⟩, List.forall_mem_cons.mpr ⟨⟨fun h => absurd h (by decide), fun _ => ⟨mp_M_mul1_t, mt_66, mg_228, mg_544, mg_173, (by decide), ⟨by decide, by decide⟩, fun h => absurd h (by decide), fun _ => ⟨mg_229, mg_230, ⟨_, rfl, rfl⟩, 3, rfl, by decide +kernel⟩⟩⟩, List.forall_mem_cons.mpr ⟨⟨fun h => absurd h (by decide), fun _ => ⟨mp_M_clear_t, mt_65, mg_225, mg_553, mg_173, (by decide), ⟨by decide, by decide⟩, fun h => absurd h (by decide), fun _ => ⟨mg_226, mg_227, ⟨_, rfl, rfl⟩, 2, rfl, by decide +kernel⟩⟩⟩, List.forall_mem_cons.mpr ⟨⟨fun h => absurd h (by decide), fun _ => ⟨mp_M_mul2_t, mt_72, mg_246, mg_555, mg_173, (by decide), ⟨by decide, by decide⟩, fun h => absurd h (by decide), fun _ => ⟨mg_247, mg_248, ⟨_, rfl, rfl⟩, 3, rfl, by decide +kernel⟩⟩⟩, fun _ h => absurd h List.not_mem_nil⟩⟩⟩⟩⟩
theorem mo_M_inv : mm_ok mm_Zb mm_Gb mm_clb mm_Tb "RootCompassModel" prog_5_method_34_code mp_M_inv := ⟨by decide +kernel, List.forall_mem_cons.mpr ⟨⟨mm_RM, mm_TM, 11, mm_tyM, rfl, (by decide), mi_3, mm_tyM_ok, mm_nmM, Or.inl mg_19, fun _ => ⟨rfl, rfl⟩, fun h => absurd h (by decide)⟩, fun _ h => absurd h List.not_mem_nil⟩, fun _ h => absurd h List.not_mem_nil, List.forall_mem_cons.mpr ⟨⟨fun h => absurd h (by decide), fun _ => ⟨mp_M_inv0_t, mt_54, mg_193, mg_537, mg_173, (by decide), ⟨by decide, by decide⟩, fun h => absurd h (by decide), fun _ => ⟨mg_194, mg_195, ⟨_, rfl, rfl⟩, 2, rfl, by decide +kernel⟩⟩⟩, List.forall_mem_cons.mpr ⟨⟨fun h => absurd h (by decide), fun _ => ⟨mp_M_inv1_t, mt_68, mg_234, mg_548, mg_173, (by decide), ⟨by decide, by decide⟩, fun h => absurd h (by decide), fun _ => ⟨mg_235, mg_236, ⟨_, rfl, rfl⟩, 2, rfl, by decide +kernel⟩⟩⟩, List.forall_mem_cons.mpr ⟨⟨fun h => absurd h (by decide), fun _ => ⟨mp_M_clear_t, mt_65, mg_225, mg_553, mg_173, (by decide), ⟨by decide, by decide⟩, fun h => absurd h (by decide), fun _ => ⟨mg_226, mg_227, ⟨_, rfl, rfl⟩, 2, rfl, by decide +kernel⟩⟩⟩, List.forall_mem_cons.mpr ⟨⟨fun h => absurd h (by decide), fun _ => ⟨mp_M_inv2_t, mt_74, mg_252, mg_556, mg_173, (by decide), ⟨by decide, by decide⟩, fun h => absurd h (by decide), fun _ => ⟨mg_253, mg_254, ⟨_, rfl, rfl⟩, 2, rfl, by decide +kernel⟩⟩⟩, fun _ h => absurd h List.not_mem_nil⟩⟩⟩⟩⟩
theorem mo_M_signOf : mm_ok mm_Zb mm_Gb mm_clb mm_Tb "RootCompassModel" prog_5_method_35_code mp_M_signOf := ⟨by decide +kernel, List.forall_mem_cons.mpr ⟨⟨mm_RM, mm_TM, 11, mm_tyM, rfl, (by decide), mi_3, mm_tyM_ok, mm_nmM, Or.inl mg_19, fun _ => ⟨rfl, rfl⟩, fun h => absurd h (by decide)⟩, fun _ h => absurd h List.not_mem_nil⟩, fun _ h => absurd h List.not_mem_nil, List.forall_mem_cons.mpr ⟨⟨fun h => absurd h (by decide), fun _ => ⟨mp_M_sign0_t, mt_55, mg_196, mg_538, mg_173, (by decide), ⟨by decide, by decide⟩, fun h => absurd h (by decide), fun _ => ⟨mg_197, mg_198, ⟨_, rfl, rfl⟩, 1, rfl, by decide +kernel⟩⟩⟩, List.forall_mem_cons.mpr ⟨⟨fun h => absurd h (by decide), fun _ => ⟨mp_M_sign1_t, mt_69, mg_237, mg_540, mg_173, (by decide), ⟨by decide, by decide⟩, fun h => absurd h (by decide), fun _ => ⟨mg_238, mg_239, ⟨_, rfl, rfl⟩, 1, rfl, by decide +kernel⟩⟩⟩, List.forall_mem_cons.mpr ⟨⟨fun h => absurd h (by decide), fun _ => ⟨mp_M_sign2_t, mt_75, mg_255, mg_551, mg_173, (by decide), ⟨by decide, by decide⟩, fun h => absurd h (by decide), fun _ => ⟨mg_256, mg_257, ⟨_, rfl, rfl⟩, 1, rfl, by decide +kernel⟩⟩⟩, fun _ h => absurd h List.not_mem_nil⟩⟩⟩⟩
theorem mo_M_root : mm_ok mm_Zb mm_Gb mm_clb mm_Tb "RootCompassModel" prog_5_method_36_code mp_M_root := ⟨by decide +kernel, List.forall_mem_cons.mpr ⟨⟨mm_RM, mm_TM, 11, mm_tyM, rfl, (by decide), mi_3, mm_tyM_ok, mm_nmM, Or.inl mg_19, fun _ => ⟨rfl, rfl⟩, fun h => absurd h (by decide)⟩, fun _ h => absurd h List.not_mem_nil⟩, fun _ h => absurd h List.not_mem_nil, List.forall_mem_cons.mpr ⟨⟨fun h => absurd h (by decide), fun _ => ⟨mp_M_root0_t, mt_57, mg_201, mg_539, mg_173, (by decide), ⟨by decide, by decide⟩, fun h => absurd h (by decide), fun _ => ⟨mg_202, mg_203, ⟨_, rfl, rfl⟩, 2, rfl, by decide +kernel⟩⟩⟩, List.forall_mem_cons.mpr ⟨⟨fun h => absurd h (by decide), fun _ => ⟨mp_M_root1_t, mt_71, mg_243, mg_550, mg_173, (by decide), ⟨by decide, by decide⟩, fun h => absurd h (by decide), fun _ => ⟨mg_244, mg_245, ⟨_, rfl, rfl⟩, 2, rfl, by decide +kernel⟩⟩⟩, List.forall_mem_cons.mpr ⟨⟨fun h => absurd h (by decide), fun _ => ⟨mp_M_clear_t, mt_65, mg_225, mg_553, mg_173, (by decide), ⟨by decide, by decide⟩, fun h => absurd h (by decide), fun _ => ⟨mg_226, mg_227, ⟨_, rfl, rfl⟩, 2, rfl, by decide +kernel⟩⟩⟩, List.forall_mem_cons.mpr ⟨⟨fun h => absurd h (by decide), fun _ => ⟨mp_M_root2_t, mt_77, mg_261, mg_557, mg_173, (by decide), ⟨by decide, by decide⟩, fun h => absurd h (by decide), fun _ => ⟨mg_262, mg_263, ⟨_, rfl, rfl⟩, 2, rfl, by decide +kernel⟩⟩⟩, fun _ h => absurd h List.not_mem_nil⟩⟩⟩⟩⟩
theorem mo_M_takeRoot : mm_ok mm_Zb mm_Gb mm_clb mm_Tb "RootCompassModel" prog_5_method_37_code mp_M_takeRoot := ⟨by decide +kernel, List.forall_mem_cons.mpr ⟨⟨mm_RM, mm_TM, 11, mm_tyM, rfl, (by decide), mi_3, mm_tyM_ok, mm_nmM, Or.inl mg_14, fun h => absurd h (by decide), fun h => absurd h (by decide)⟩, List.forall_mem_cons.mpr ⟨⟨mm_RM, mm_TM, 11, mm_tyM, rfl, (by decide), mi_3, mm_tyM_ok, mm_nmM, Or.inl mg_19, fun _ => ⟨rfl, rfl⟩, fun h => absurd h (by decide)⟩, List.forall_mem_cons.mpr ⟨⟨mm_RM, mm_TM, 11, mm_tyM, rfl, (by decide), mi_3, mm_tyM_ok, mm_nmM, Or.inl mg_20, fun h => absurd h (by decide), fun _ => ⟨rfl, rfl⟩⟩, fun _ h => absurd h List.not_mem_nil⟩⟩⟩, fun _ h => absurd h List.not_mem_nil, List.forall_mem_cons.mpr ⟨⟨fun h => absurd h (by decide), fun _ => ⟨mp_M_set_t, mt_58, mg_204, mg_541, mg_173, (by decide), ⟨by decide, by decide⟩, fun h => absurd h (by decide), fun _ => ⟨mg_205, mg_206, ⟨_, rfl, rfl⟩, 3, rfl, by decide +kernel⟩⟩⟩, List.forall_mem_cons.mpr ⟨⟨fun h => absurd h (by decide), fun _ => ⟨mp_M_clear_t, mt_65, mg_225, mg_553, mg_173, (by decide), ⟨by decide, by decide⟩, fun h => absurd h (by decide), fun _ => ⟨mg_226, mg_227, ⟨_, rfl, rfl⟩, 2, rfl, by decide +kernel⟩⟩⟩, List.forall_mem_cons.mpr ⟨⟨fun h => absurd h (by decide), fun _ => ⟨mp_M_signOf_t, mt_80, mg_270, mg_558, mg_173, (by decide), ⟨by decide, by decide⟩, fun h => absurd h (by decide), fun _ => ⟨mg_271, mg_272, ⟨_, rfl, rfl⟩, 1, rfl, by decide +kernel⟩⟩⟩, List.forall_mem_cons.mpr ⟨⟨fun h => absurd h (by decide), fun _ => ⟨mp_M_root_t, mt_81, mg_273, mg_559, mg_173, (by decide), ⟨by decide, by decide⟩, fun h => absurd h (by decide), fun _ => ⟨mg_274, mg_275, ⟨_, rfl, rfl⟩, 2, rfl, by decide +kernel⟩⟩⟩, fun _ h => absurd h List.not_mem_nil⟩⟩⟩⟩⟩
theorem mo_M_xOf : mm_ok mm_Zb mm_Gb mm_clb mm_Tb "RootCompassModel" prog_5_method_38_code mp_M_xOf := ⟨by decide +kernel, fun _ h => absurd h List.not_mem_nil, fun _ h => absurd h List.not_mem_nil, fun _ h => absurd h List.not_mem_nil⟩
theorem mo_M_yOf : mm_ok mm_Zb mm_Gb mm_clb mm_Tb "RootCompassModel" prog_5_method_39_code mp_M_yOf := ⟨by decide +kernel, fun _ h => absurd h List.not_mem_nil, fun _ h => absurd h List.not_mem_nil, fun _ h => absurd h List.not_mem_nil⟩
theorem mo_M_work : mm_ok mm_Zb mm_Gb mm_clb mm_Tb "RootCompassModel" prog_5_method_40_code mp_M_work := ⟨by decide +kernel, fun _ h => absurd h List.not_mem_nil, fun _ h => absurd h List.not_mem_nil, fun _ h => absurd h List.not_mem_nil⟩
theorem mo_M_products : mm_ok mm_Zb mm_Gb mm_clb mm_Tb "RootCompassModel" prog_5_method_41_code mp_M_products := ⟨by decide +kernel, fun _ h => absurd h List.not_mem_nil, fun _ h => absurd h List.not_mem_nil, List.forall_mem_cons.mpr ⟨⟨fun h => absurd h (by decide), fun _ => ⟨mp_M_add_t, mt_59, mg_207, mg_545, mg_173, (by decide), ⟨by decide, by decide⟩, fun h => absurd h (by decide), fun _ => ⟨mg_208, mg_209, ⟨_, rfl, rfl⟩, 4, rfl, by decide +kernel⟩⟩⟩, List.forall_mem_cons.mpr ⟨⟨fun h => absurd h (by decide), fun _ => ⟨mp_M_work_t, mt_85, mg_283, mg_560, mg_173, (by decide), ⟨by decide, by decide⟩, fun _ => ⟨mg_284, by decide +kernel⟩, fun h => absurd rfl h⟩⟩, List.forall_mem_cons.mpr ⟨⟨fun h => absurd h (by decide), fun _ => ⟨mp_M_mul_t, mt_78, mg_264, mg_561, mg_173, (by decide), ⟨by decide, by decide⟩, fun h => absurd h (by decide), fun _ => ⟨mg_265, mg_266, ⟨_, rfl, rfl⟩, 3, rfl, by decide +kernel⟩⟩⟩, fun _ h => absurd h List.not_mem_nil⟩⟩⟩⟩
theorem mo_M_cross : mm_ok mm_Zb mm_Gb mm_clb mm_Tb "RootCompassModel" prog_5_method_42_code mp_M_cross := ⟨by decide +kernel, fun _ h => absurd h List.not_mem_nil, fun _ h => absurd h List.not_mem_nil, List.forall_mem_cons.mpr ⟨⟨fun h => absurd h (by decide), fun _ => ⟨mp_M_sub_t, mt_60, mg_210, mg_546, mg_173, (by decide), ⟨by decide, by decide⟩, fun h => absurd h (by decide), fun _ => ⟨mg_211, mg_212, ⟨_, rfl, rfl⟩, 4, rfl, by decide +kernel⟩⟩⟩, List.forall_mem_cons.mpr ⟨⟨fun h => absurd h (by decide), fun _ => ⟨mp_M_work_t, mt_85, mg_283, mg_560, mg_173, (by decide), ⟨by decide, by decide⟩, fun _ => ⟨mg_284, by decide +kernel⟩, fun h => absurd rfl h⟩⟩, List.forall_mem_cons.mpr ⟨⟨fun h => absurd h (by decide), fun _ => ⟨mp_M_mul_t, mt_78, mg_264, mg_561, mg_173, (by decide), ⟨by decide, by decide⟩, fun h => absurd h (by decide), fun _ => ⟨mg_265, mg_266, ⟨_, rfl, rfl⟩, 3, rfl, by decide +kernel⟩⟩⟩, fun _ h => absurd h List.not_mem_nil⟩⟩⟩⟩
theorem mo_M_squared : mm_ok mm_Zb mm_Gb mm_clb mm_Tb "RootCompassModel" prog_5_method_43_code mp_M_squared := ⟨by decide +kernel, fun _ h => absurd h List.not_mem_nil, fun _ h => absurd h List.not_mem_nil, List.forall_mem_cons.mpr ⟨⟨fun h => absurd h (by decide), fun _ => ⟨mp_M_sub_t, mt_60, mg_210, mg_546, mg_173, (by decide), ⟨by decide, by decide⟩, fun h => absurd h (by decide), fun _ => ⟨mg_211, mg_212, ⟨_, rfl, rfl⟩, 4, rfl, by decide +kernel⟩⟩⟩, List.forall_mem_cons.mpr ⟨⟨fun h => absurd h (by decide), fun _ => ⟨mp_M_work_t, mt_85, mg_283, mg_560, mg_173, (by decide), ⟨by decide, by decide⟩, fun _ => ⟨mg_284, by decide +kernel⟩, fun h => absurd rfl h⟩⟩, List.forall_mem_cons.mpr ⟨⟨fun h => absurd h (by decide), fun _ => ⟨mp_M_xOf_t, mt_83, mg_279, mg_562, mg_173, (by decide), ⟨by decide, by decide⟩, fun _ => ⟨mg_280, by decide +kernel⟩, fun h => absurd rfl h⟩⟩, List.forall_mem_cons.mpr ⟨⟨fun h => absurd h (by decide), fun _ => ⟨mp_M_yOf_t, mt_84, mg_281, mg_563, mg_173, (by decide), ⟨by decide, by decide⟩, fun _ => ⟨mg_282, by decide +kernel⟩, fun h => absurd rfl h⟩⟩, List.forall_mem_cons.mpr ⟨⟨fun h => absurd h (by decide), fun _ => ⟨mp_M_products_t, mt_86, mg_285, mg_564, mg_173, (by decide), ⟨by decide, by decide⟩, fun h => absurd h (by decide), fun _ => ⟨mg_286, mg_287, ⟨_, rfl, rfl⟩, 5, rfl, by decide +kernel⟩⟩⟩, fun _ h => absurd h List.not_mem_nil⟩⟩⟩⟩⟩⟩
theorem mo_M_makeLine : mm_ok mm_Zb mm_Gb mm_clb mm_Tb "RootCompassModel" prog_5_method_44_code mp_M_makeLine := ⟨by decide +kernel, List.forall_mem_cons.mpr ⟨⟨mm_RM, mm_TM, 11, mm_tyM, rfl, (by decide), mi_3, mm_tyM_ok, mm_nmM, Or.inl mg_20, fun h => absurd h (by decide), fun _ => ⟨rfl, rfl⟩⟩, fun _ h => absurd h List.not_mem_nil⟩, fun _ h => absurd h List.not_mem_nil, List.forall_mem_cons.mpr ⟨⟨fun h => absurd h (by decide), fun _ => ⟨mp_M_sub_t, mt_60, mg_210, mg_546, mg_173, (by decide), ⟨by decide, by decide⟩, fun h => absurd h (by decide), fun _ => ⟨mg_211, mg_212, ⟨_, rfl, rfl⟩, 4, rfl, by decide +kernel⟩⟩⟩, List.forall_mem_cons.mpr ⟨⟨fun h => absurd h (by decide), fun _ => ⟨mp_M_xOf_t, mt_83, mg_279, mg_562, mg_173, (by decide), ⟨by decide, by decide⟩, fun _ => ⟨mg_280, by decide +kernel⟩, fun h => absurd rfl h⟩⟩, List.forall_mem_cons.mpr ⟨⟨fun h => absurd h (by decide), fun _ => ⟨mp_M_yOf_t, mt_84, mg_281, mg_563, mg_173, (by decide), ⟨by decide, by decide⟩, fun _ => ⟨mg_282, by decide +kernel⟩, fun h => absurd rfl h⟩⟩, List.forall_mem_cons.mpr ⟨⟨fun h => absurd h (by decide), fun _ => ⟨mp_M_products_t, mt_86, mg_285, mg_564, mg_173, (by decide), ⟨by decide, by decide⟩, fun h => absurd h (by decide), fun _ => ⟨mg_286, mg_287, ⟨_, rfl, rfl⟩, 5, rfl, by decide +kernel⟩⟩⟩, List.forall_mem_cons.mpr ⟨⟨fun h => absurd h (by decide), fun _ => ⟨mp_M_alike_t, mt_64, mg_222, mg_565, mg_173, (by decide), ⟨by decide, by decide⟩, fun h => absurd h (by decide), fun _ => ⟨mg_223, mg_224, ⟨_, rfl, rfl⟩, 2, rfl, by decide +kernel⟩⟩⟩, fun _ h => absurd h List.not_mem_nil⟩⟩⟩⟩⟩⟩
theorem mo_M_makeMiddle : mm_ok mm_Zb mm_Gb mm_clb mm_Tb "RootCompassModel" prog_5_method_45_code mp_M_makeMiddle := ⟨by decide +kernel, fun _ h => absurd h List.not_mem_nil, fun _ h => absurd h List.not_mem_nil, List.forall_mem_cons.mpr ⟨⟨fun h => absurd h (by decide), fun _ => ⟨mp_M_add_t, mt_59, mg_207, mg_545, mg_173, (by decide), ⟨by decide, by decide⟩, fun h => absurd h (by decide), fun _ => ⟨mg_208, mg_209, ⟨_, rfl, rfl⟩, 4, rfl, by decide +kernel⟩⟩⟩, List.forall_mem_cons.mpr ⟨⟨fun h => absurd h (by decide), fun _ => ⟨mp_M_halve_t, mt_62, mg_216, mg_549, mg_173, (by decide), ⟨by decide, by decide⟩, fun h => absurd h (by decide), fun _ => ⟨mg_217, mg_218, ⟨_, rfl, rfl⟩, 3, rfl, by decide +kernel⟩⟩⟩, List.forall_mem_cons.mpr ⟨⟨fun h => absurd h (by decide), fun _ => ⟨mp_M_work_t, mt_85, mg_283, mg_560, mg_173, (by decide), ⟨by decide, by decide⟩, fun _ => ⟨mg_284, by decide +kernel⟩, fun h => absurd rfl h⟩⟩, List.forall_mem_cons.mpr ⟨⟨fun h => absurd h (by decide), fun _ => ⟨mp_M_xOf_t, mt_83, mg_279, mg_562, mg_173, (by decide), ⟨by decide, by decide⟩, fun _ => ⟨mg_280, by decide +kernel⟩, fun h => absurd rfl h⟩⟩, List.forall_mem_cons.mpr ⟨⟨fun h => absurd h (by decide), fun _ => ⟨mp_M_yOf_t, mt_84, mg_281, mg_563, mg_173, (by decide), ⟨by decide, by decide⟩, fun _ => ⟨mg_282, by decide +kernel⟩, fun h => absurd rfl h⟩⟩, fun _ h => absurd h List.not_mem_nil⟩⟩⟩⟩⟩⟩
theorem mo_M_meetLines : mm_ok mm_Zb mm_Gb mm_clb mm_Tb "RootCompassModel" prog_5_method_46_code mp_M_meetLines := ⟨by decide +kernel, List.forall_mem_cons.mpr ⟨⟨mm_RM, mm_TM, 11, mm_tyM, rfl, (by decide), mi_3, mm_tyM_ok, mm_nmM, Or.inl mg_13, fun h => absurd h (by decide), fun _ => ⟨rfl, rfl⟩⟩, List.forall_mem_cons.mpr ⟨⟨mm_RM, mm_TM, 11, mm_tyM, rfl, (by decide), mi_3, mm_tyM_ok, mm_nmM, Or.inl mg_20, fun h => absurd h (by decide), fun _ => ⟨rfl, rfl⟩⟩, fun _ h => absurd h List.not_mem_nil⟩⟩, fun _ h => absurd h List.not_mem_nil, List.forall_mem_cons.mpr ⟨⟨fun h => absurd h (by decide), fun _ => ⟨mp_M_isZero_t, mt_63, mg_219, mg_552, mg_173, (by decide), ⟨by decide, by decide⟩, fun h => absurd h (by decide), fun _ => ⟨mg_220, mg_221, ⟨_, rfl, rfl⟩, 2, rfl, by decide +kernel⟩⟩⟩, List.forall_mem_cons.mpr ⟨⟨fun h => absurd h (by decide), fun _ => ⟨mp_M_work_t, mt_85, mg_283, mg_560, mg_173, (by decide), ⟨by decide, by decide⟩, fun _ => ⟨mg_284, by decide +kernel⟩, fun h => absurd rfl h⟩⟩, List.forall_mem_cons.mpr ⟨⟨fun h => absurd h (by decide), fun _ => ⟨mp_M_mul_t, mt_78, mg_264, mg_561, mg_173, (by decide), ⟨by decide, by decide⟩, fun h => absurd h (by decide), fun _ => ⟨mg_265, mg_266, ⟨_, rfl, rfl⟩, 3, rfl, by decide +kernel⟩⟩⟩, List.forall_mem_cons.mpr ⟨⟨fun h => absurd h (by decide), fun _ => ⟨mp_M_xOf_t, mt_83, mg_279, mg_562, mg_173, (by decide), ⟨by decide, by decide⟩, fun _ => ⟨mg_280, by decide +kernel⟩, fun h => absurd rfl h⟩⟩, List.forall_mem_cons.mpr ⟨⟨fun h => absurd h (by decide), fun _ => ⟨mp_M_yOf_t, mt_84, mg_281, mg_563, mg_173, (by decide), ⟨by decide, by decide⟩, fun _ => ⟨mg_282, by decide +kernel⟩, fun h => absurd rfl h⟩⟩, List.forall_mem_cons.mpr ⟨⟨fun h => absurd h (by decide), fun _ => ⟨mp_M_cross_t, mt_87, mg_288, mg_566, mg_173, (by decide), ⟨by decide, by decide⟩, fun h => absurd h (by decide), fun _ => ⟨mg_289, mg_290, ⟨_, rfl, rfl⟩, 5, rfl, by decide +kernel⟩⟩⟩, List.forall_mem_cons.mpr ⟨⟨fun h => absurd h (by decide), fun _ => ⟨mp_M_inv_t, mt_79, mg_267, mg_567, mg_173, (by decide), ⟨by decide, by decide⟩, fun h => absurd h (by decide), fun _ => ⟨mg_268, mg_269, ⟨_, rfl, rfl⟩, 2, rfl, by decide +kernel⟩⟩⟩, fun _ h => absurd h List.not_mem_nil⟩⟩⟩⟩⟩⟩⟩⟩
theorem mo_M_meetCircle : mm_ok mm_Zb mm_Gb mm_clb mm_Tb "RootCompassModel" prog_5_method_47_code mp_M_meetCircle := ⟨by decide +kernel, List.forall_mem_cons.mpr ⟨⟨mm_RM, mm_TM, 11, mm_tyM, rfl, (by decide), mi_3, mm_tyM_ok, mm_nmM, Or.inl mg_21, fun h => absurd h (by decide), fun h => absurd h (by decide)⟩, List.forall_mem_cons.mpr ⟨⟨mm_RM, mm_TM, 11, mm_tyM, rfl, (by decide), mi_3, mm_tyM_ok, mm_nmM, Or.inl mg_13, fun h => absurd h (by decide), fun _ => ⟨rfl, rfl⟩⟩, List.forall_mem_cons.mpr ⟨⟨mm_RM, mm_TM, 11, mm_tyM, rfl, (by decide), mi_3, mm_tyM_ok, mm_nmM, Or.inl mg_20, fun h => absurd h (by decide), fun _ => ⟨rfl, rfl⟩⟩, fun _ h => absurd h List.not_mem_nil⟩⟩⟩, fun _ h => absurd h List.not_mem_nil, List.forall_mem_cons.mpr ⟨⟨fun h => absurd h (by decide), fun _ => ⟨mp_M_neg_t, mt_61, mg_213, mg_542, mg_173, (by decide), ⟨by decide, by decide⟩, fun h => absurd h (by decide), fun _ => ⟨mg_214, mg_215, ⟨_, rfl, rfl⟩, 3, rfl, by decide +kernel⟩⟩⟩, List.forall_mem_cons.mpr ⟨⟨fun h => absurd h (by decide), fun _ => ⟨mp_M_add_t, mt_59, mg_207, mg_545, mg_173, (by decide), ⟨by decide, by decide⟩, fun h => absurd h (by decide), fun _ => ⟨mg_208, mg_209, ⟨_, rfl, rfl⟩, 4, rfl, by decide +kernel⟩⟩⟩, List.forall_mem_cons.mpr ⟨⟨fun h => absurd h (by decide), fun _ => ⟨mp_M_sub_t, mt_60, mg_210, mg_546, mg_173, (by decide), ⟨by decide, by decide⟩, fun h => absurd h (by decide), fun _ => ⟨mg_211, mg_212, ⟨_, rfl, rfl⟩, 4, rfl, by decide +kernel⟩⟩⟩, List.forall_mem_cons.mpr ⟨⟨fun h => absurd h (by decide), fun _ => ⟨mp_M_work_t, mt_85, mg_283, mg_560, mg_173, (by decide), ⟨by decide, by decide⟩, fun _ => ⟨mg_284, by decide +kernel⟩, fun h => absurd rfl h⟩⟩, List.forall_mem_cons.mpr ⟨⟨fun h => absurd h (by decide), fun _ => ⟨mp_M_mul_t, mt_78, mg_264, mg_561, mg_173, (by decide), ⟨by decide, by decide⟩, fun h => absurd h (by decide), fun _ => ⟨mg_265, mg_266, ⟨_, rfl, rfl⟩, 3, rfl, by decide +kernel⟩⟩⟩, List.forall_mem_cons.mpr ⟨⟨fun h => absurd h (by decide), fun _ => ⟨mp_M_xOf_t, mt_83, mg_279, mg_562, mg_173, (by decide), ⟨by decide, by decide⟩, fun _ => ⟨mg_280, by decide +kernel⟩, fun h => absurd rfl h⟩⟩, List.forall_mem_cons.mpr ⟨⟨fun h => absurd h (by decide), fun _ => ⟨mp_M_yOf_t, mt_84, mg_281, mg_563, mg_173, (by decide), ⟨by decide, by decide⟩, fun _ => ⟨mg_282, by decide +kernel⟩, fun h => absurd rfl h⟩⟩, List.forall_mem_cons.mpr ⟨⟨fun h => absurd h (by decide), fun _ => ⟨mp_M_products_t, mt_86, mg_285, mg_564, mg_173, (by decide), ⟨by decide, by decide⟩, fun h => absurd h (by decide), fun _ => ⟨mg_286, mg_287, ⟨_, rfl, rfl⟩, 5, rfl, by decide +kernel⟩⟩⟩, List.forall_mem_cons.mpr ⟨⟨fun h => absurd h (by decide), fun _ => ⟨mp_M_cross_t, mt_87, mg_288, mg_566, mg_173, (by decide), ⟨by decide, by decide⟩, fun h => absurd h (by decide), fun _ => ⟨mg_289, mg_290, ⟨_, rfl, rfl⟩, 5, rfl, by decide +kernel⟩⟩⟩, List.forall_mem_cons.mpr ⟨⟨fun h => absurd h (by decide), fun _ => ⟨mp_M_inv_t, mt_79, mg_267, mg_567, mg_173, (by decide), ⟨by decide, by decide⟩, fun h => absurd h (by decide), fun _ => ⟨mg_268, mg_269, ⟨_, rfl, rfl⟩, 2, rfl, by decide +kernel⟩⟩⟩, List.forall_mem_cons.mpr ⟨⟨fun h => absurd h (by decide), fun _ => ⟨mp_M_takeRoot_t, mt_82, mg_276, mg_568, mg_173, (by decide), ⟨by decide, by decide⟩, fun h => absurd h (by decide), fun _ => ⟨mg_277, mg_278, ⟨_, rfl, rfl⟩, 2, rfl, by decide +kernel⟩⟩⟩, fun _ h => absurd h List.not_mem_nil⟩⟩⟩⟩⟩⟩⟩⟩⟩⟩⟩⟩
theorem mo_M_meetCircles : mm_ok mm_Zb mm_Gb mm_clb mm_Tb "RootCompassModel" prog_5_method_48_code mp_M_meetCircles := ⟨by decide +kernel, List.forall_mem_cons.mpr ⟨⟨mm_RM, mm_TM, 11, mm_tyM, rfl, (by decide), mi_3, mm_tyM_ok, mm_nmM, Or.inl mg_21, fun h => absurd h (by decide), fun h => absurd h (by decide)⟩, List.forall_mem_cons.mpr ⟨⟨mm_RM, mm_TM, 11, mm_tyM, rfl, (by decide), mi_3, mm_tyM_ok, mm_nmM, Or.inl mg_13, fun h => absurd h (by decide), fun _ => ⟨rfl, rfl⟩⟩, List.forall_mem_cons.mpr ⟨⟨mm_RM, mm_TM, 11, mm_tyM, rfl, (by decide), mi_3, mm_tyM_ok, mm_nmM, Or.inl mg_20, fun h => absurd h (by decide), fun _ => ⟨rfl, rfl⟩⟩, fun _ h => absurd h List.not_mem_nil⟩⟩⟩, fun _ h => absurd h List.not_mem_nil, List.forall_mem_cons.mpr ⟨⟨fun h => absurd h (by decide), fun _ => ⟨mp_M_add_t, mt_59, mg_207, mg_545, mg_173, (by decide), ⟨by decide, by decide⟩, fun h => absurd h (by decide), fun _ => ⟨mg_208, mg_209, ⟨_, rfl, rfl⟩, 4, rfl, by decide +kernel⟩⟩⟩, List.forall_mem_cons.mpr ⟨⟨fun h => absurd h (by decide), fun _ => ⟨mp_M_sub_t, mt_60, mg_210, mg_546, mg_173, (by decide), ⟨by decide, by decide⟩, fun h => absurd h (by decide), fun _ => ⟨mg_211, mg_212, ⟨_, rfl, rfl⟩, 4, rfl, by decide +kernel⟩⟩⟩, List.forall_mem_cons.mpr ⟨⟨fun h => absurd h (by decide), fun _ => ⟨mp_M_isZero_t, mt_63, mg_219, mg_552, mg_173, (by decide), ⟨by decide, by decide⟩, fun h => absurd h (by decide), fun _ => ⟨mg_220, mg_221, ⟨_, rfl, rfl⟩, 2, rfl, by decide +kernel⟩⟩⟩, List.forall_mem_cons.mpr ⟨⟨fun h => absurd h (by decide), fun _ => ⟨mp_M_work_t, mt_85, mg_283, mg_560, mg_173, (by decide), ⟨by decide, by decide⟩, fun _ => ⟨mg_284, by decide +kernel⟩, fun h => absurd rfl h⟩⟩, List.forall_mem_cons.mpr ⟨⟨fun h => absurd h (by decide), fun _ => ⟨mp_M_xOf_t, mt_83, mg_279, mg_562, mg_173, (by decide), ⟨by decide, by decide⟩, fun _ => ⟨mg_280, by decide +kernel⟩, fun h => absurd rfl h⟩⟩, List.forall_mem_cons.mpr ⟨⟨fun h => absurd h (by decide), fun _ => ⟨mp_M_yOf_t, mt_84, mg_281, mg_563, mg_173, (by decide), ⟨by decide, by decide⟩, fun _ => ⟨mg_282, by decide +kernel⟩, fun h => absurd rfl h⟩⟩, List.forall_mem_cons.mpr ⟨⟨fun h => absurd h (by decide), fun _ => ⟨mp_M_cross_t, mt_87, mg_288, mg_566, mg_173, (by decide), ⟨by decide, by decide⟩, fun h => absurd h (by decide), fun _ => ⟨mg_289, mg_290, ⟨_, rfl, rfl⟩, 5, rfl, by decide +kernel⟩⟩⟩, List.forall_mem_cons.mpr ⟨⟨fun h => absurd h (by decide), fun _ => ⟨mp_M_meetCircle_t, mt_92, mg_303, mg_569, mg_173, (by decide), ⟨by decide, by decide⟩, fun h => absurd h (by decide), fun _ => ⟨mg_304, mg_305, ⟨_, rfl, rfl⟩, 4, rfl, by decide +kernel⟩⟩⟩, fun _ h => absurd h List.not_mem_nil⟩⟩⟩⟩⟩⟩⟩⟩⟩
theorem mo_M_makeMeeting : mm_ok mm_Zb mm_Gb mm_clb mm_Tb "RootCompassModel" prog_5_method_49_code mp_M_makeMeeting := ⟨by decide +kernel, List.forall_mem_cons.mpr ⟨⟨mm_RM, mm_TM, 11, mm_tyM, rfl, (by decide), mi_3, mm_tyM_ok, mm_nmM, Or.inl mg_22, fun h => absurd h (by decide), fun h => absurd h (by decide)⟩, fun _ h => absurd h List.not_mem_nil⟩, fun _ h => absurd h List.not_mem_nil, List.forall_mem_cons.mpr ⟨⟨fun h => absurd h (by decide), fun _ => ⟨mp_M_meetCircle_t, mt_92, mg_303, mg_569, mg_173, (by decide), ⟨by decide, by decide⟩, fun h => absurd h (by decide), fun _ => ⟨mg_304, mg_305, ⟨_, rfl, rfl⟩, 4, rfl, by decide +kernel⟩⟩⟩, List.forall_mem_cons.mpr ⟨⟨fun h => absurd h (by decide), fun _ => ⟨mp_M_meetLines_t, mt_91, mg_300, mg_570, mg_173, (by decide), ⟨by decide, by decide⟩, fun h => absurd h (by decide), fun _ => ⟨mg_301, mg_302, ⟨_, rfl, rfl⟩, 3, rfl, by decide +kernel⟩⟩⟩, List.forall_mem_cons.mpr ⟨⟨fun h => absurd h (by decide), fun _ => ⟨mp_M_meetCircles_t, mt_93, mg_306, mg_571, mg_173, (by decide), ⟨by decide, by decide⟩, fun h => absurd h (by decide), fun _ => ⟨mg_307, mg_308, ⟨_, rfl, rfl⟩, 4, rfl, by decide +kernel⟩⟩⟩, fun _ h => absurd h List.not_mem_nil⟩⟩⟩⟩
theorem mo_M_make : mm_ok mm_Zb mm_Gb mm_clb mm_Tb "RootCompassModel" prog_5_method_50_code mp_M_make := ⟨by decide +kernel, List.forall_mem_cons.mpr ⟨⟨mm_RM, mm_TM, 11, mm_tyM, rfl, (by decide), mi_3, mm_tyM_ok, mm_nmM, Or.inl mg_22, fun h => absurd h (by decide), fun h => absurd h (by decide)⟩, List.forall_mem_cons.mpr ⟨⟨mm_RM, mm_TM, 11, mm_tyM, rfl, (by decide), mi_3, mm_tyM_ok, mm_nmM, Or.inl mg_21, fun h => absurd h (by decide), fun h => absurd h (by decide)⟩, List.forall_mem_cons.mpr ⟨⟨mm_RM, mm_TM, 11, mm_tyM, rfl, (by decide), mi_3, mm_tyM_ok, mm_nmM, Or.inl mg_13, fun h => absurd h (by decide), fun _ => ⟨rfl, rfl⟩⟩, List.forall_mem_cons.mpr ⟨⟨mm_RM, mm_TM, 11, mm_tyM, rfl, (by decide), mi_3, mm_tyM_ok, mm_nmM, Or.inl mg_20, fun h => absurd h (by decide), fun _ => ⟨rfl, rfl⟩⟩, fun _ h => absurd h List.not_mem_nil⟩⟩⟩⟩, fun _ h => absurd h List.not_mem_nil, List.forall_mem_cons.mpr ⟨⟨fun h => absurd h (by decide), fun _ => ⟨mp_M_put_t, mt_49, mg_178, mg_530, mg_173, (by decide), ⟨by decide, by decide⟩, fun h => absurd h (by decide), fun _ => ⟨mg_179, mg_180, ⟨_, rfl, rfl⟩, 3, rfl, by decide +kernel⟩⟩⟩, List.forall_mem_cons.mpr ⟨⟨fun h => absurd h (by decide), fun _ => ⟨mp_M_isZero_t, mt_63, mg_219, mg_552, mg_173, (by decide), ⟨by decide, by decide⟩, fun h => absurd h (by decide), fun _ => ⟨mg_220, mg_221, ⟨_, rfl, rfl⟩, 2, rfl, by decide +kernel⟩⟩⟩, List.forall_mem_cons.mpr ⟨⟨fun h => absurd h (by decide), fun _ => ⟨mp_M_clear_t, mt_65, mg_225, mg_553, mg_173, (by decide), ⟨by decide, by decide⟩, fun h => absurd h (by decide), fun _ => ⟨mg_226, mg_227, ⟨_, rfl, rfl⟩, 2, rfl, by decide +kernel⟩⟩⟩, List.forall_mem_cons.mpr ⟨⟨fun h => absurd h (by decide), fun _ => ⟨mp_M_makeLine_t, mt_89, mg_294, mg_572, mg_173, (by decide), ⟨by decide, by decide⟩, fun h => absurd h (by decide), fun _ => ⟨mg_295, mg_296, ⟨_, rfl, rfl⟩, 3, rfl, by decide +kernel⟩⟩⟩, List.forall_mem_cons.mpr ⟨⟨fun h => absurd h (by decide), fun _ => ⟨mp_M_squared_t, mt_88, mg_291, mg_573, mg_173, (by decide), ⟨by decide, by decide⟩, fun h => absurd h (by decide), fun _ => ⟨mg_292, mg_293, ⟨_, rfl, rfl⟩, 3, rfl, by decide +kernel⟩⟩⟩, List.forall_mem_cons.mpr ⟨⟨fun h => absurd h (by decide), fun _ => ⟨mp_M_makeMiddle_t, mt_90, mg_297, mg_574, mg_173, (by decide), ⟨by decide, by decide⟩, fun h => absurd h (by decide), fun _ => ⟨mg_298, mg_299, ⟨_, rfl, rfl⟩, 3, rfl, by decide +kernel⟩⟩⟩, List.forall_mem_cons.mpr ⟨⟨fun h => absurd h (by decide), fun _ => ⟨mp_M_makeMeeting_t, mt_94, mg_309, mg_575, mg_173, (by decide), ⟨by decide, by decide⟩, fun h => absurd h (by decide), fun _ => ⟨mg_310, mg_311, ⟨_, rfl, rfl⟩, 4, rfl, by decide +kernel⟩⟩⟩, fun _ h => absurd h List.not_mem_nil⟩⟩⟩⟩⟩⟩⟩⟩
theorem mo_M_redraw : mm_ok mm_Zb mm_Gb mm_clb mm_Tb "RootCompassModel" prog_5_method_51_code mp_M_redraw := ⟨by decide +kernel, List.forall_mem_cons.mpr ⟨⟨mm_RM, mm_TM, 11, mm_tyM, rfl, (by decide), mi_3, mm_tyM_ok, mm_nmM, Or.inl mg_19, fun _ => ⟨rfl, rfl⟩, fun h => absurd h (by decide)⟩, List.forall_mem_cons.mpr ⟨⟨mm_RM, mm_TM, 11, mm_tyM, rfl, (by decide), mi_3, mm_tyM_ok, mm_nmM, Or.inl mg_23, fun _ => ⟨rfl, rfl⟩, fun h => absurd h (by decide)⟩, fun _ h => absurd h List.not_mem_nil⟩⟩, fun _ h => absurd h List.not_mem_nil, List.forall_mem_cons.mpr ⟨⟨fun h => absurd h (by decide), fun _ => ⟨mp_M_make_t, mt_95, mg_312, mg_576, mg_173, (by decide), ⟨by decide, by decide⟩, fun h => absurd h (by decide), fun _ => ⟨mg_313, mg_314, ⟨_, rfl, rfl⟩, 1, rfl, by decide +kernel⟩⟩⟩, fun _ h => absurd h List.not_mem_nil⟩⟩
theorem mo_M_isPoint : mm_ok mm_Zb mm_Gb mm_clb mm_Tb "RootCompassModel" prog_5_method_52_code mp_M_isPoint := ⟨by decide +kernel, fun _ h => absurd h List.not_mem_nil, fun _ h => absurd h List.not_mem_nil, List.forall_mem_cons.mpr ⟨⟨fun h => absurd h (by decide), fun _ => ⟨mp_M_kindOf_t, mt_98, mg_321, mg_577, mg_173, (by decide), ⟨by decide, by decide⟩, fun h => absurd h (by decide), fun _ => ⟨mg_322, mg_323, ⟨_, rfl, rfl⟩, 1, rfl, by decide +kernel⟩⟩⟩, fun _ h => absurd h List.not_mem_nil⟩⟩
theorem mo_M_kindOf : mm_ok mm_Zb mm_Gb mm_clb mm_Tb "RootCompassModel" prog_5_method_53_code mp_M_kindOf := ⟨by decide +kernel, List.forall_mem_cons.mpr ⟨⟨mm_RM, mm_TM, 11, mm_tyM, rfl, (by decide), mi_3, mm_tyM_ok, mm_nmM, Or.inl mg_22, fun h => absurd h (by decide), fun h => absurd h (by decide)⟩, List.forall_mem_cons.mpr ⟨⟨mm_RM, mm_TM, 11, mm_tyM, rfl, (by decide), mi_3, mm_tyM_ok, mm_nmM, Or.inl mg_23, fun _ => ⟨rfl, rfl⟩, fun h => absurd h (by decide)⟩, fun _ h => absurd h List.not_mem_nil⟩⟩, fun _ h => absurd h List.not_mem_nil, fun _ h => absurd h List.not_mem_nil⟩
theorem mo_M_fresh : mm_ok mm_Zb mm_Gb mm_clb mm_Tb "RootCompassModel" prog_5_method_54_code mp_M_fresh := ⟨by decide +kernel, List.forall_mem_cons.mpr ⟨⟨mm_RM, mm_TM, 11, mm_tyM, rfl, (by decide), mi_3, mm_tyM_ok, mm_nmM, Or.inl mg_22, fun h => absurd h (by decide), fun h => absurd h (by decide)⟩, List.forall_mem_cons.mpr ⟨⟨mm_RM, mm_TM, 11, mm_tyM, rfl, (by decide), mi_3, mm_tyM_ok, mm_nmM, Or.inl mg_21, fun h => absurd h (by decide), fun h => absurd h (by decide)⟩, List.forall_mem_cons.mpr ⟨⟨mm_RM, mm_TM, 11, mm_tyM, rfl, (by decide), mi_3, mm_tyM_ok, mm_nmM, Or.inl mg_10, fun _ => ⟨rfl, rfl⟩, fun h => absurd h (by decide)⟩, List.forall_mem_cons.mpr ⟨⟨mm_RM, mm_TM, 11, mm_tyM, rfl, (by decide), mi_3, mm_tyM_ok, mm_nmM, Or.inl mg_19, fun _ => ⟨rfl, rfl⟩, fun h => absurd h (by decide)⟩, List.forall_mem_cons.mpr ⟨⟨mm_RM, mm_TM, 11, mm_tyM, rfl, (by decide), mi_3, mm_tyM_ok, mm_nmM, Or.inl mg_23, fun _ => ⟨rfl, rfl⟩, fun h => absurd h (by decide)⟩, fun _ h => absurd h List.not_mem_nil⟩⟩⟩⟩⟩, fun _ h => absurd h List.not_mem_nil, List.forall_mem_cons.mpr ⟨⟨fun h => absurd h (by decide), fun _ => ⟨mp_M_make_t, mt_95, mg_312, mg_576, mg_173, (by decide), ⟨by decide, by decide⟩, fun h => absurd h (by decide), fun _ => ⟨mg_313, mg_314, ⟨_, rfl, rfl⟩, 1, rfl, by decide +kernel⟩⟩⟩, fun _ h => absurd h List.not_mem_nil⟩⟩
theorem mo_M_isFraction : mm_ok mm_Zb mm_Gb mm_clb mm_Tb "RootCompassModel" prog_5_method_55_code mp_M_isFraction := ⟨by decide +kernel, fun _ h => absurd h List.not_mem_nil, fun _ h => absurd h List.not_mem_nil, fun _ h => absurd h List.not_mem_nil⟩
theorem mo_M_free : mm_ok mm_Zb mm_Gb mm_clb mm_Tb "RootCompassModel" prog_5_method_56_code mp_M_free := ⟨by decide +kernel, List.forall_mem_cons.mpr ⟨⟨mm_RM, mm_TM, 11, mm_tyM, rfl, (by decide), mi_3, mm_tyM_ok, mm_nmM, Or.inl mg_10, fun _ => ⟨rfl, rfl⟩, fun h => absurd h (by decide)⟩, fun _ h => absurd h List.not_mem_nil⟩, fun _ h => absurd h List.not_mem_nil, List.forall_mem_cons.mpr ⟨⟨fun h => absurd h (by decide), fun _ => ⟨mp_M_isFraction_t, mt_100, mg_327, mg_578, mg_173, (by decide), ⟨by decide, by decide⟩, fun _ => ⟨mg_328, by decide +kernel⟩, fun h => absurd rfl h⟩⟩, List.forall_mem_cons.mpr ⟨⟨fun h => absurd h (by decide), fun _ => ⟨mp_M_fresh_t, mt_99, mg_324, mg_579, mg_173, (by decide), ⟨by decide, by decide⟩, fun h => absurd h (by decide), fun _ => ⟨mg_325, mg_326, ⟨_, rfl, rfl⟩, 5, rfl, by decide +kernel⟩⟩⟩, fun _ h => absurd h List.not_mem_nil⟩⟩⟩
theorem mo_M_line : mm_ok mm_Zb mm_Gb mm_clb mm_Tb "RootCompassModel" prog_5_method_57_code mp_M_line := ⟨by decide +kernel, List.forall_mem_cons.mpr ⟨⟨mm_RM, mm_TM, 11, mm_tyM, rfl, (by decide), mi_3, mm_tyM_ok, mm_nmM, Or.inl mg_10, fun _ => ⟨rfl, rfl⟩, fun h => absurd h (by decide)⟩, fun _ h => absurd h List.not_mem_nil⟩, fun _ h => absurd h List.not_mem_nil, List.forall_mem_cons.mpr ⟨⟨fun h => absurd h (by decide), fun _ => ⟨mp_M_fresh_t, mt_99, mg_324, mg_579, mg_173, (by decide), ⟨by decide, by decide⟩, fun h => absurd h (by decide), fun _ => ⟨mg_325, mg_326, ⟨_, rfl, rfl⟩, 5, rfl, by decide +kernel⟩⟩⟩, List.forall_mem_cons.mpr ⟨⟨fun h => absurd h (by decide), fun _ => ⟨mp_M_isPoint_t, mt_97, mg_318, mg_580, mg_173, (by decide), ⟨by decide, by decide⟩, fun h => absurd h (by decide), fun _ => ⟨mg_319, mg_320, ⟨_, rfl, rfl⟩, 1, rfl, by decide +kernel⟩⟩⟩, fun _ h => absurd h List.not_mem_nil⟩⟩⟩
theorem mo_M_circle : mm_ok mm_Zb mm_Gb mm_clb mm_Tb "RootCompassModel" prog_5_method_58_code mp_M_circle := ⟨by decide +kernel, List.forall_mem_cons.mpr ⟨⟨mm_RM, mm_TM, 11, mm_tyM, rfl, (by decide), mi_3, mm_tyM_ok, mm_nmM, Or.inl mg_10, fun _ => ⟨rfl, rfl⟩, fun h => absurd h (by decide)⟩, fun _ h => absurd h List.not_mem_nil⟩, fun _ h => absurd h List.not_mem_nil, List.forall_mem_cons.mpr ⟨⟨fun h => absurd h (by decide), fun _ => ⟨mp_M_fresh_t, mt_99, mg_324, mg_579, mg_173, (by decide), ⟨by decide, by decide⟩, fun h => absurd h (by decide), fun _ => ⟨mg_325, mg_326, ⟨_, rfl, rfl⟩, 5, rfl, by decide +kernel⟩⟩⟩, List.forall_mem_cons.mpr ⟨⟨fun h => absurd h (by decide), fun _ => ⟨mp_M_isPoint_t, mt_97, mg_318, mg_580, mg_173, (by decide), ⟨by decide, by decide⟩, fun h => absurd h (by decide), fun _ => ⟨mg_319, mg_320, ⟨_, rfl, rfl⟩, 1, rfl, by decide +kernel⟩⟩⟩, fun _ h => absurd h List.not_mem_nil⟩⟩⟩
theorem mo_M_middle : mm_ok mm_Zb mm_Gb mm_clb mm_Tb "RootCompassModel" prog_5_method_59_code mp_M_middle := ⟨by decide +kernel, List.forall_mem_cons.mpr ⟨⟨mm_RM, mm_TM, 11, mm_tyM, rfl, (by decide), mi_3, mm_tyM_ok, mm_nmM, Or.inl mg_10, fun _ => ⟨rfl, rfl⟩, fun h => absurd h (by decide)⟩, fun _ h => absurd h List.not_mem_nil⟩, fun _ h => absurd h List.not_mem_nil, List.forall_mem_cons.mpr ⟨⟨fun h => absurd h (by decide), fun _ => ⟨mp_M_fresh_t, mt_99, mg_324, mg_579, mg_173, (by decide), ⟨by decide, by decide⟩, fun h => absurd h (by decide), fun _ => ⟨mg_325, mg_326, ⟨_, rfl, rfl⟩, 5, rfl, by decide +kernel⟩⟩⟩, List.forall_mem_cons.mpr ⟨⟨fun h => absurd h (by decide), fun _ => ⟨mp_M_isPoint_t, mt_97, mg_318, mg_580, mg_173, (by decide), ⟨by decide, by decide⟩, fun h => absurd h (by decide), fun _ => ⟨mg_319, mg_320, ⟨_, rfl, rfl⟩, 1, rfl, by decide +kernel⟩⟩⟩, fun _ h => absurd h List.not_mem_nil⟩⟩⟩
theorem mo_M_meet : mm_ok mm_Zb mm_Gb mm_clb mm_Tb "RootCompassModel" prog_5_method_60_code mp_M_meet := ⟨by decide +kernel, List.forall_mem_cons.mpr ⟨⟨mm_RM, mm_TM, 11, mm_tyM, rfl, (by decide), mi_3, mm_tyM_ok, mm_nmM, Or.inl mg_10, fun _ => ⟨rfl, rfl⟩, fun h => absurd h (by decide)⟩, fun _ h => absurd h List.not_mem_nil⟩, fun _ h => absurd h List.not_mem_nil, List.forall_mem_cons.mpr ⟨⟨fun h => absurd h (by decide), fun _ => ⟨mp_M_kindOf_t, mt_98, mg_321, mg_577, mg_173, (by decide), ⟨by decide, by decide⟩, fun h => absurd h (by decide), fun _ => ⟨mg_322, mg_323, ⟨_, rfl, rfl⟩, 1, rfl, by decide +kernel⟩⟩⟩, List.forall_mem_cons.mpr ⟨⟨fun h => absurd h (by decide), fun _ => ⟨mp_M_fresh_t, mt_99, mg_324, mg_579, mg_173, (by decide), ⟨by decide, by decide⟩, fun h => absurd h (by decide), fun _ => ⟨mg_325, mg_326, ⟨_, rfl, rfl⟩, 5, rfl, by decide +kernel⟩⟩⟩, fun _ h => absurd h List.not_mem_nil⟩⟩⟩
theorem mo_M_move : mm_ok mm_Zb mm_Gb mm_clb mm_Tb "RootCompassModel" prog_5_method_61_code mp_M_move := ⟨by decide +kernel, List.forall_mem_cons.mpr ⟨⟨mm_RM, mm_TM, 11, mm_tyM, rfl, (by decide), mi_3, mm_tyM_ok, mm_nmM, Or.inl mg_14, fun h => absurd h (by decide), fun h => absurd h (by decide)⟩, List.forall_mem_cons.mpr ⟨⟨mm_RM, mm_TM, 11, mm_tyM, rfl, (by decide), mi_3, mm_tyM_ok, mm_nmM, Or.inl mg_15, fun h => absurd h (by decide), fun h => absurd h (by decide)⟩, List.forall_mem_cons.mpr ⟨⟨mm_RM, mm_TM, 11, mm_tyM, rfl, (by decide), mi_3, mm_tyM_ok, mm_nmM, Or.inl mg_24, fun h => absurd h (by decide), fun h => absurd h (by decide)⟩, List.forall_mem_cons.mpr ⟨⟨mm_RM, mm_TM, 11, mm_tyM, rfl, (by decide), mi_3, mm_tyM_ok, mm_nmM, Or.inl mg_25, fun h => absurd h (by decide), fun h => absurd h (by decide)⟩, List.forall_mem_cons.mpr ⟨⟨mm_RM, mm_TM, 11, mm_tyM, rfl, (by decide), mi_3, mm_tyM_ok, mm_nmM, Or.inl mg_22, fun h => absurd h (by decide), fun h => absurd h (by decide)⟩, List.forall_mem_cons.mpr ⟨⟨mm_RM, mm_TM, 11, mm_tyM, rfl, (by decide), mi_3, mm_tyM_ok, mm_nmM, Or.inl mg_21, fun h => absurd h (by decide), fun h => absurd h (by decide)⟩, List.forall_mem_cons.mpr ⟨⟨mm_RM, mm_TM, 11, mm_tyM, rfl, (by decide), mi_3, mm_tyM_ok, mm_nmM, Or.inl mg_10, fun _ => ⟨rfl, rfl⟩, fun h => absurd h (by decide)⟩, List.forall_mem_cons.mpr ⟨⟨mm_RM, mm_TM, 11, mm_tyM, rfl, (by decide), mi_3, mm_tyM_ok, mm_nmM, Or.inl mg_19, fun _ => ⟨rfl, rfl⟩, fun h => absurd h (by decide)⟩, fun _ h => absurd h List.not_mem_nil⟩⟩⟩⟩⟩⟩⟩⟩, fun _ h => absurd h List.not_mem_nil, List.forall_mem_cons.mpr ⟨⟨fun h => absurd h (by decide), fun _ => ⟨mp_M_isFraction_t, mt_100, mg_327, mg_578, mg_173, (by decide), ⟨by decide, by decide⟩, fun _ => ⟨mg_328, by decide +kernel⟩, fun h => absurd rfl h⟩⟩, List.forall_mem_cons.mpr ⟨⟨fun h => absurd h (by decide), fun _ => ⟨mp_M_isPoint_t, mt_97, mg_318, mg_580, mg_173, (by decide), ⟨by decide, by decide⟩, fun h => absurd h (by decide), fun _ => ⟨mg_319, mg_320, ⟨_, rfl, rfl⟩, 1, rfl, by decide +kernel⟩⟩⟩, List.forall_mem_cons.mpr ⟨⟨fun h => absurd h (by decide), fun _ => ⟨mp_M_become_t, mt_107, mg_347, mg_581, mg_173, (by decide), ⟨by decide, by decide⟩, fun h => absurd h (by decide), fun _ => ⟨mg_348, mg_349, ⟨_, rfl, rfl⟩, 5, rfl, by decide +kernel⟩⟩⟩, List.forall_mem_cons.mpr ⟨⟨fun h => absurd h (by decide), fun _ => ⟨mp_M_redraw_t, mt_96, mg_315, mg_582, mg_173, (by decide), ⟨by decide, by decide⟩, fun h => absurd h (by decide), fun _ => ⟨mg_316, mg_317, ⟨_, rfl, rfl⟩, 0, rfl, by decide +kernel⟩⟩⟩, fun _ h => absurd h List.not_mem_nil⟩⟩⟩⟩⟩
theorem mo_M_become : mm_ok mm_Zb mm_Gb mm_clb mm_Tb "RootCompassModel" prog_5_method_62_code mp_M_become := ⟨by decide +kernel, List.forall_mem_cons.mpr ⟨⟨mm_RM, mm_TM, 11, mm_tyM, rfl, (by decide), mi_3, mm_tyM_ok, mm_nmM, Or.inl mg_21, fun h => absurd h (by decide), fun h => absurd h (by decide)⟩, fun _ h => absurd h List.not_mem_nil⟩, fun _ h => absurd h List.not_mem_nil, fun _ h => absurd h List.not_mem_nil⟩
theorem mo_M_undo : mm_ok mm_Zb mm_Gb mm_clb mm_Tb "RootCompassModel" prog_5_method_63_code mp_M_undo := ⟨by decide +kernel, List.forall_mem_cons.mpr ⟨⟨mm_RM, mm_TM, 11, mm_tyM, rfl, (by decide), mi_3, mm_tyM_ok, mm_nmM, Or.inl mg_10, fun _ => ⟨rfl, rfl⟩, fun h => absurd h (by decide)⟩, List.forall_mem_cons.mpr ⟨⟨mm_RM, mm_TM, 11, mm_tyM, rfl, (by decide), mi_3, mm_tyM_ok, mm_nmM, Or.inl mg_23, fun _ => ⟨rfl, rfl⟩, fun h => absurd h (by decide)⟩, fun _ h => absurd h List.not_mem_nil⟩⟩, fun _ h => absurd h List.not_mem_nil, List.forall_mem_cons.mpr ⟨⟨fun h => absurd h (by decide), fun _ => ⟨mp_M_redraw_t, mt_96, mg_315, mg_582, mg_173, (by decide), ⟨by decide, by decide⟩, fun h => absurd h (by decide), fun _ => ⟨mg_316, mg_317, ⟨_, rfl, rfl⟩, 0, rfl, by decide +kernel⟩⟩⟩, fun _ h => absurd h List.not_mem_nil⟩⟩
theorem mo_M_told : mm_ok mm_Zb mm_Gb mm_clb mm_Tb "RootCompassModel" prog_5_method_64_code mp_M_told := ⟨by decide +kernel, List.forall_mem_cons.mpr ⟨⟨mm_RM, mm_TM, 11, mm_tyM, rfl, (by decide), mi_3, mm_tyM_ok, mm_nmM, Or.inl mg_10, fun _ => ⟨rfl, rfl⟩, fun h => absurd h (by decide)⟩, List.forall_mem_cons.mpr ⟨⟨mm_RM, mm_TM, 11, mm_tyM, rfl, (by decide), mi_3, mm_tyM_ok, mm_nmM, Or.inl mg_13, fun h => absurd h (by decide), fun _ => ⟨rfl, rfl⟩⟩, fun _ h => absurd h List.not_mem_nil⟩⟩, fun _ h => absurd h List.not_mem_nil, fun _ h => absurd h List.not_mem_nil⟩
theorem mo_M_on : mm_ok mm_Zb mm_Gb mm_clb mm_Tb "RootCompassModel" prog_5_method_65_code mp_M_on := ⟨by decide +kernel, List.forall_mem_cons.mpr ⟨⟨mm_RM, mm_TM, 11, mm_tyM, rfl, (by decide), mi_3, mm_tyM_ok, mm_nmM, Or.inl mg_22, fun h => absurd h (by decide), fun h => absurd h (by decide)⟩, List.forall_mem_cons.mpr ⟨⟨mm_RM, mm_TM, 11, mm_tyM, rfl, (by decide), mi_3, mm_tyM_ok, mm_nmM, Or.inl mg_21, fun h => absurd h (by decide), fun h => absurd h (by decide)⟩, List.forall_mem_cons.mpr ⟨⟨mm_RM, mm_TM, 11, mm_tyM, rfl, (by decide), mi_3, mm_tyM_ok, mm_nmM, Or.inl mg_10, fun _ => ⟨rfl, rfl⟩, fun h => absurd h (by decide)⟩, List.forall_mem_cons.mpr ⟨⟨mm_RM, mm_TM, 11, mm_tyM, rfl, (by decide), mi_3, mm_tyM_ok, mm_nmM, Or.inl mg_13, fun h => absurd h (by decide), fun _ => ⟨rfl, rfl⟩⟩, fun _ h => absurd h List.not_mem_nil⟩⟩⟩⟩, fun _ h => absurd h List.not_mem_nil, List.forall_mem_cons.mpr ⟨⟨fun h => absurd h (by decide), fun _ => ⟨mp_M_work_t, mt_85, mg_283, mg_560, mg_173, (by decide), ⟨by decide, by decide⟩, fun _ => ⟨mg_284, by decide +kernel⟩, fun h => absurd rfl h⟩⟩, List.forall_mem_cons.mpr ⟨⟨fun h => absurd h (by decide), fun _ => ⟨mp_M_xOf_t, mt_83, mg_279, mg_562, mg_173, (by decide), ⟨by decide, by decide⟩, fun _ => ⟨mg_280, by decide +kernel⟩, fun h => absurd rfl h⟩⟩, List.forall_mem_cons.mpr ⟨⟨fun h => absurd h (by decide), fun _ => ⟨mp_M_yOf_t, mt_84, mg_281, mg_563, mg_173, (by decide), ⟨by decide, by decide⟩, fun _ => ⟨mg_282, by decide +kernel⟩, fun h => absurd rfl h⟩⟩, List.forall_mem_cons.mpr ⟨⟨fun h => absurd h (by decide), fun _ => ⟨mp_M_products_t, mt_86, mg_285, mg_564, mg_173, (by decide), ⟨by decide, by decide⟩, fun h => absurd h (by decide), fun _ => ⟨mg_286, mg_287, ⟨_, rfl, rfl⟩, 5, rfl, by decide +kernel⟩⟩⟩, List.forall_mem_cons.mpr ⟨⟨fun h => absurd h (by decide), fun _ => ⟨mp_M_alike_t, mt_64, mg_222, mg_565, mg_173, (by decide), ⟨by decide, by decide⟩, fun h => absurd h (by decide), fun _ => ⟨mg_223, mg_224, ⟨_, rfl, rfl⟩, 2, rfl, by decide +kernel⟩⟩⟩, List.forall_mem_cons.mpr ⟨⟨fun h => absurd h (by decide), fun _ => ⟨mp_M_squared_t, mt_88, mg_291, mg_573, mg_173, (by decide), ⟨by decide, by decide⟩, fun h => absurd h (by decide), fun _ => ⟨mg_292, mg_293, ⟨_, rfl, rfl⟩, 3, rfl, by decide +kernel⟩⟩⟩, List.forall_mem_cons.mpr ⟨⟨fun h => absurd h (by decide), fun _ => ⟨mp_M_kindOf_t, mt_98, mg_321, mg_577, mg_173, (by decide), ⟨by decide, by decide⟩, fun h => absurd h (by decide), fun _ => ⟨mg_322, mg_323, ⟨_, rfl, rfl⟩, 1, rfl, by decide +kernel⟩⟩⟩, List.forall_mem_cons.mpr ⟨⟨fun h => absurd h (by decide), fun _ => ⟨mp_M_isPoint_t, mt_97, mg_318, mg_580, mg_173, (by decide), ⟨by decide, by decide⟩, fun h => absurd h (by decide), fun _ => ⟨mg_319, mg_320, ⟨_, rfl, rfl⟩, 1, rfl, by decide +kernel⟩⟩⟩, List.forall_mem_cons.mpr ⟨⟨fun h => absurd h (by decide), fun _ => ⟨mp_M_told_t, mt_109, mg_353, mg_583, mg_173, (by decide), ⟨by decide, by decide⟩, fun h => absurd h (by decide), fun _ => ⟨mg_354, mg_355, ⟨_, rfl, rfl⟩, 1, rfl, by decide +kernel⟩⟩⟩, fun _ h => absurd h List.not_mem_nil⟩⟩⟩⟩⟩⟩⟩⟩⟩⟩
theorem mo_M_same : mm_ok mm_Zb mm_Gb mm_clb mm_Tb "RootCompassModel" prog_5_method_66_code mp_M_same := ⟨by decide +kernel, List.forall_mem_cons.mpr ⟨⟨mm_RM, mm_TM, 11, mm_tyM, rfl, (by decide), mi_3, mm_tyM_ok, mm_nmM, Or.inl mg_10, fun _ => ⟨rfl, rfl⟩, fun h => absurd h (by decide)⟩, fun _ h => absurd h List.not_mem_nil⟩, fun _ h => absurd h List.not_mem_nil, List.forall_mem_cons.mpr ⟨⟨fun h => absurd h (by decide), fun _ => ⟨mp_M_xOf_t, mt_83, mg_279, mg_562, mg_173, (by decide), ⟨by decide, by decide⟩, fun _ => ⟨mg_280, by decide +kernel⟩, fun h => absurd rfl h⟩⟩, List.forall_mem_cons.mpr ⟨⟨fun h => absurd h (by decide), fun _ => ⟨mp_M_yOf_t, mt_84, mg_281, mg_563, mg_173, (by decide), ⟨by decide, by decide⟩, fun _ => ⟨mg_282, by decide +kernel⟩, fun h => absurd rfl h⟩⟩, List.forall_mem_cons.mpr ⟨⟨fun h => absurd h (by decide), fun _ => ⟨mp_M_alike_t, mt_64, mg_222, mg_565, mg_173, (by decide), ⟨by decide, by decide⟩, fun h => absurd h (by decide), fun _ => ⟨mg_223, mg_224, ⟨_, rfl, rfl⟩, 2, rfl, by decide +kernel⟩⟩⟩, List.forall_mem_cons.mpr ⟨⟨fun h => absurd h (by decide), fun _ => ⟨mp_M_isPoint_t, mt_97, mg_318, mg_580, mg_173, (by decide), ⟨by decide, by decide⟩, fun h => absurd h (by decide), fun _ => ⟨mg_319, mg_320, ⟨_, rfl, rfl⟩, 1, rfl, by decide +kernel⟩⟩⟩, fun _ h => absurd h List.not_mem_nil⟩⟩⟩⟩⟩
theorem mo_M_equal : mm_ok mm_Zb mm_Gb mm_clb mm_Tb "RootCompassModel" prog_5_method_67_code mp_M_equal := ⟨by decide +kernel, List.forall_mem_cons.mpr ⟨⟨mm_RM, mm_TM, 11, mm_tyM, rfl, (by decide), mi_3, mm_tyM_ok, mm_nmM, Or.inl mg_10, fun _ => ⟨rfl, rfl⟩, fun h => absurd h (by decide)⟩, List.forall_mem_cons.mpr ⟨⟨mm_RM, mm_TM, 11, mm_tyM, rfl, (by decide), mi_3, mm_tyM_ok, mm_nmM, Or.inl mg_13, fun h => absurd h (by decide), fun _ => ⟨rfl, rfl⟩⟩, fun _ h => absurd h List.not_mem_nil⟩⟩, fun _ h => absurd h List.not_mem_nil, List.forall_mem_cons.mpr ⟨⟨fun h => absurd h (by decide), fun _ => ⟨mp_M_work_t, mt_85, mg_283, mg_560, mg_173, (by decide), ⟨by decide, by decide⟩, fun _ => ⟨mg_284, by decide +kernel⟩, fun h => absurd rfl h⟩⟩, List.forall_mem_cons.mpr ⟨⟨fun h => absurd h (by decide), fun _ => ⟨mp_M_alike_t, mt_64, mg_222, mg_565, mg_173, (by decide), ⟨by decide, by decide⟩, fun h => absurd h (by decide), fun _ => ⟨mg_223, mg_224, ⟨_, rfl, rfl⟩, 2, rfl, by decide +kernel⟩⟩⟩, List.forall_mem_cons.mpr ⟨⟨fun h => absurd h (by decide), fun _ => ⟨mp_M_squared_t, mt_88, mg_291, mg_573, mg_173, (by decide), ⟨by decide, by decide⟩, fun h => absurd h (by decide), fun _ => ⟨mg_292, mg_293, ⟨_, rfl, rfl⟩, 3, rfl, by decide +kernel⟩⟩⟩, List.forall_mem_cons.mpr ⟨⟨fun h => absurd h (by decide), fun _ => ⟨mp_M_isPoint_t, mt_97, mg_318, mg_580, mg_173, (by decide), ⟨by decide, by decide⟩, fun h => absurd h (by decide), fun _ => ⟨mg_319, mg_320, ⟨_, rfl, rfl⟩, 1, rfl, by decide +kernel⟩⟩⟩, List.forall_mem_cons.mpr ⟨⟨fun h => absurd h (by decide), fun _ => ⟨mp_M_told_t, mt_109, mg_353, mg_583, mg_173, (by decide), ⟨by decide, by decide⟩, fun h => absurd h (by decide), fun _ => ⟨mg_354, mg_355, ⟨_, rfl, rfl⟩, 1, rfl, by decide +kernel⟩⟩⟩, fun _ h => absurd h List.not_mem_nil⟩⟩⟩⟩⟩⟩
theorem mo_M_angle : mm_ok mm_Zb mm_Gb mm_clb mm_Tb "RootCompassModel" prog_5_method_68_code mp_M_angle := ⟨by decide +kernel, List.forall_mem_cons.mpr ⟨⟨mm_RM, mm_TM, 11, mm_tyM, rfl, (by decide), mi_3, mm_tyM_ok, mm_nmM, Or.inl mg_10, fun _ => ⟨rfl, rfl⟩, fun h => absurd h (by decide)⟩, List.forall_mem_cons.mpr ⟨⟨mm_RM, mm_TM, 11, mm_tyM, rfl, (by decide), mi_3, mm_tyM_ok, mm_nmM, Or.inl mg_13, fun h => absurd h (by decide), fun _ => ⟨rfl, rfl⟩⟩, fun _ h => absurd h List.not_mem_nil⟩⟩, fun _ h => absurd h List.not_mem_nil, List.forall_mem_cons.mpr ⟨⟨fun h => absurd h (by decide), fun _ => ⟨mp_M_isZero_t, mt_63, mg_219, mg_552, mg_173, (by decide), ⟨by decide, by decide⟩, fun h => absurd h (by decide), fun _ => ⟨mg_220, mg_221, ⟨_, rfl, rfl⟩, 2, rfl, by decide +kernel⟩⟩⟩, List.forall_mem_cons.mpr ⟨⟨fun h => absurd h (by decide), fun _ => ⟨mp_M_work_t, mt_85, mg_283, mg_560, mg_173, (by decide), ⟨by decide, by decide⟩, fun _ => ⟨mg_284, by decide +kernel⟩, fun h => absurd rfl h⟩⟩, List.forall_mem_cons.mpr ⟨⟨fun h => absurd h (by decide), fun _ => ⟨mp_M_xOf_t, mt_83, mg_279, mg_562, mg_173, (by decide), ⟨by decide, by decide⟩, fun _ => ⟨mg_280, by decide +kernel⟩, fun h => absurd rfl h⟩⟩, List.forall_mem_cons.mpr ⟨⟨fun h => absurd h (by decide), fun _ => ⟨mp_M_yOf_t, mt_84, mg_281, mg_563, mg_173, (by decide), ⟨by decide, by decide⟩, fun _ => ⟨mg_282, by decide +kernel⟩, fun h => absurd rfl h⟩⟩, List.forall_mem_cons.mpr ⟨⟨fun h => absurd h (by decide), fun _ => ⟨mp_M_products_t, mt_86, mg_285, mg_564, mg_173, (by decide), ⟨by decide, by decide⟩, fun h => absurd h (by decide), fun _ => ⟨mg_286, mg_287, ⟨_, rfl, rfl⟩, 5, rfl, by decide +kernel⟩⟩⟩, List.forall_mem_cons.mpr ⟨⟨fun h => absurd h (by decide), fun _ => ⟨mp_M_cross_t, mt_87, mg_288, mg_566, mg_173, (by decide), ⟨by decide, by decide⟩, fun h => absurd h (by decide), fun _ => ⟨mg_289, mg_290, ⟨_, rfl, rfl⟩, 5, rfl, by decide +kernel⟩⟩⟩, List.forall_mem_cons.mpr ⟨⟨fun h => absurd h (by decide), fun _ => ⟨mp_M_kindOf_t, mt_98, mg_321, mg_577, mg_173, (by decide), ⟨by decide, by decide⟩, fun h => absurd h (by decide), fun _ => ⟨mg_322, mg_323, ⟨_, rfl, rfl⟩, 1, rfl, by decide +kernel⟩⟩⟩, fun _ h => absurd h List.not_mem_nil⟩⟩⟩⟩⟩⟩⟩⟩
theorem mo_M_side : mm_ok mm_Zb mm_Gb mm_clb mm_Tb "RootCompassModel" prog_5_method_69_code mp_M_side := ⟨by decide +kernel, List.forall_mem_cons.mpr ⟨⟨mm_RM, mm_TM, 11, mm_tyM, rfl, (by decide), mi_3, mm_tyM_ok, mm_nmM, Or.inl mg_10, fun _ => ⟨rfl, rfl⟩, fun h => absurd h (by decide)⟩, List.forall_mem_cons.mpr ⟨⟨mm_RM, mm_TM, 11, mm_tyM, rfl, (by decide), mi_3, mm_tyM_ok, mm_nmM, Or.inl mg_13, fun h => absurd h (by decide), fun _ => ⟨rfl, rfl⟩⟩, fun _ h => absurd h List.not_mem_nil⟩⟩, fun _ h => absurd h List.not_mem_nil, List.forall_mem_cons.mpr ⟨⟨fun h => absurd h (by decide), fun _ => ⟨mp_M_sub_t, mt_60, mg_210, mg_546, mg_173, (by decide), ⟨by decide, by decide⟩, fun h => absurd h (by decide), fun _ => ⟨mg_211, mg_212, ⟨_, rfl, rfl⟩, 4, rfl, by decide +kernel⟩⟩⟩, List.forall_mem_cons.mpr ⟨⟨fun h => absurd h (by decide), fun _ => ⟨mp_M_signOf_t, mt_80, mg_270, mg_558, mg_173, (by decide), ⟨by decide, by decide⟩, fun h => absurd h (by decide), fun _ => ⟨mg_271, mg_272, ⟨_, rfl, rfl⟩, 1, rfl, by decide +kernel⟩⟩⟩, List.forall_mem_cons.mpr ⟨⟨fun h => absurd h (by decide), fun _ => ⟨mp_M_work_t, mt_85, mg_283, mg_560, mg_173, (by decide), ⟨by decide, by decide⟩, fun _ => ⟨mg_284, by decide +kernel⟩, fun h => absurd rfl h⟩⟩, List.forall_mem_cons.mpr ⟨⟨fun h => absurd h (by decide), fun _ => ⟨mp_M_xOf_t, mt_83, mg_279, mg_562, mg_173, (by decide), ⟨by decide, by decide⟩, fun _ => ⟨mg_280, by decide +kernel⟩, fun h => absurd rfl h⟩⟩, List.forall_mem_cons.mpr ⟨⟨fun h => absurd h (by decide), fun _ => ⟨mp_M_yOf_t, mt_84, mg_281, mg_563, mg_173, (by decide), ⟨by decide, by decide⟩, fun _ => ⟨mg_282, by decide +kernel⟩, fun h => absurd rfl h⟩⟩, List.forall_mem_cons.mpr ⟨⟨fun h => absurd h (by decide), fun _ => ⟨mp_M_cross_t, mt_87, mg_288, mg_566, mg_173, (by decide), ⟨by decide, by decide⟩, fun h => absurd h (by decide), fun _ => ⟨mg_289, mg_290, ⟨_, rfl, rfl⟩, 5, rfl, by decide +kernel⟩⟩⟩, List.forall_mem_cons.mpr ⟨⟨fun h => absurd h (by decide), fun _ => ⟨mp_M_isPoint_t, mt_97, mg_318, mg_580, mg_173, (by decide), ⟨by decide, by decide⟩, fun h => absurd h (by decide), fun _ => ⟨mg_319, mg_320, ⟨_, rfl, rfl⟩, 1, rfl, by decide +kernel⟩⟩⟩, fun _ h => absurd h List.not_mem_nil⟩⟩⟩⟩⟩⟩⟩⟩
theorem mo_M_sign : mm_ok mm_Zb mm_Gb mm_clb mm_Tb "RootCompassModel" prog_5_method_70_code mp_M_sign := ⟨by decide +kernel, List.forall_mem_cons.mpr ⟨⟨mm_RM, mm_TM, 11, mm_tyM, rfl, (by decide), mi_3, mm_tyM_ok, mm_nmM, Or.inl mg_14, fun h => absurd h (by decide), fun h => absurd h (by decide)⟩, List.forall_mem_cons.mpr ⟨⟨mm_RM, mm_TM, 11, mm_tyM, rfl, (by decide), mi_3, mm_tyM_ok, mm_nmM, Or.inl mg_10, fun _ => ⟨rfl, rfl⟩, fun h => absurd h (by decide)⟩, List.forall_mem_cons.mpr ⟨⟨mm_RM, mm_TM, 11, mm_tyM, rfl, (by decide), mi_3, mm_tyM_ok, mm_nmM, Or.inl mg_13, fun h => absurd h (by decide), fun _ => ⟨rfl, rfl⟩⟩, fun _ h => absurd h List.not_mem_nil⟩⟩⟩, List.forall_mem_cons.mpr ⟨mg_26, List.forall_mem_cons.mpr ⟨mg_27, fun _ h => absurd h List.not_mem_nil⟩⟩, List.forall_mem_cons.mpr ⟨⟨fun h => absurd h (by decide), fun _ => ⟨mp_M_sub_t, mt_60, mg_210, mg_546, mg_173, (by decide), ⟨by decide, by decide⟩, fun h => absurd h (by decide), fun _ => ⟨mg_211, mg_212, ⟨_, rfl, rfl⟩, 4, rfl, by decide +kernel⟩⟩⟩, List.forall_mem_cons.mpr ⟨⟨fun h => absurd h (by decide), fun _ => ⟨mp_M_clear_t, mt_65, mg_225, mg_553, mg_173, (by decide), ⟨by decide, by decide⟩, fun h => absurd h (by decide), fun _ => ⟨mg_226, mg_227, ⟨_, rfl, rfl⟩, 2, rfl, by decide +kernel⟩⟩⟩, List.forall_mem_cons.mpr ⟨⟨fun h => absurd h (by decide), fun _ => ⟨mp_M_signOf_t, mt_80, mg_270, mg_558, mg_173, (by decide), ⟨by decide, by decide⟩, fun h => absurd h (by decide), fun _ => ⟨mg_271, mg_272, ⟨_, rfl, rfl⟩, 1, rfl, by decide +kernel⟩⟩⟩, List.forall_mem_cons.mpr ⟨⟨fun h => absurd h (by decide), fun _ => ⟨mp_M_work_t, mt_85, mg_283, mg_560, mg_173, (by decide), ⟨by decide, by decide⟩, fun _ => ⟨mg_284, by decide +kernel⟩, fun h => absurd rfl h⟩⟩, List.forall_mem_cons.mpr ⟨⟨fun h => absurd h (by decide), fun _ => ⟨mp_M_xOf_t, mt_83, mg_279, mg_562, mg_173, (by decide), ⟨by decide, by decide⟩, fun _ => ⟨mg_280, by decide +kernel⟩, fun h => absurd rfl h⟩⟩, List.forall_mem_cons.mpr ⟨⟨fun h => absurd h (by decide), fun _ => ⟨mp_M_yOf_t, mt_84, mg_281, mg_563, mg_173, (by decide), ⟨by decide, by decide⟩, fun _ => ⟨mg_282, by decide +kernel⟩, fun h => absurd rfl h⟩⟩, List.forall_mem_cons.mpr ⟨⟨fun h => absurd h (by decide), fun _ => ⟨mp_M_isPoint_t, mt_97, mg_318, mg_580, mg_173, (by decide), ⟨by decide, by decide⟩, fun h => absurd h (by decide), fun _ => ⟨mg_319, mg_320, ⟨_, rfl, rfl⟩, 1, rfl, by decide +kernel⟩⟩⟩, fun _ h => absurd h List.not_mem_nil⟩⟩⟩⟩⟩⟩⟩⟩
theorem mo_M_part : mm_ok mm_Zb mm_Gb mm_clb mm_Tb "RootCompassModel" prog_5_method_71_code mp_M_part := ⟨by decide +kernel, List.forall_mem_cons.mpr ⟨⟨mm_RM, mm_TM, 11, mm_tyM, rfl, (by decide), mi_3, mm_tyM_ok, mm_nmM, Or.inl mg_14, fun h => absurd h (by decide), fun h => absurd h (by decide)⟩, List.forall_mem_cons.mpr ⟨⟨mm_RM, mm_TM, 11, mm_tyM, rfl, (by decide), mi_3, mm_tyM_ok, mm_nmM, Or.inl mg_15, fun h => absurd h (by decide), fun h => absurd h (by decide)⟩, List.forall_mem_cons.mpr ⟨⟨mm_RM, mm_TM, 11, mm_tyM, rfl, (by decide), mi_3, mm_tyM_ok, mm_nmM, Or.inl mg_10, fun _ => ⟨rfl, rfl⟩, fun h => absurd h (by decide)⟩, fun _ h => absurd h List.not_mem_nil⟩⟩⟩, fun _ h => absurd h List.not_mem_nil, List.forall_mem_cons.mpr ⟨⟨fun h => absurd h (by decide), fun _ => ⟨mp_M_xOf_t, mt_83, mg_279, mg_562, mg_173, (by decide), ⟨by decide, by decide⟩, fun _ => ⟨mg_280, by decide +kernel⟩, fun h => absurd rfl h⟩⟩, List.forall_mem_cons.mpr ⟨⟨fun h => absurd h (by decide), fun _ => ⟨mp_M_yOf_t, mt_84, mg_281, mg_563, mg_173, (by decide), ⟨by decide, by decide⟩, fun _ => ⟨mg_282, by decide +kernel⟩, fun h => absurd rfl h⟩⟩, List.forall_mem_cons.mpr ⟨⟨fun h => absurd h (by decide), fun _ => ⟨mp_M_isPoint_t, mt_97, mg_318, mg_580, mg_173, (by decide), ⟨by decide, by decide⟩, fun h => absurd h (by decide), fun _ => ⟨mg_319, mg_320, ⟨_, rfl, rfl⟩, 1, rfl, by decide +kernel⟩⟩⟩, fun _ h => absurd h List.not_mem_nil⟩⟩⟩⟩
theorem mo_M_radicand : mm_ok mm_Zb mm_Gb mm_clb mm_Tb "RootCompassModel" prog_5_method_72_code mp_M_radicand := ⟨by decide +kernel, List.forall_mem_cons.mpr ⟨⟨mm_RM, mm_TM, 11, mm_tyM, rfl, (by decide), mi_3, mm_tyM_ok, mm_nmM, Or.inl mg_14, fun h => absurd h (by decide), fun h => absurd h (by decide)⟩, List.forall_mem_cons.mpr ⟨⟨mm_RM, mm_TM, 11, mm_tyM, rfl, (by decide), mi_3, mm_tyM_ok, mm_nmM, Or.inl mg_15, fun h => absurd h (by decide), fun h => absurd h (by decide)⟩, List.forall_mem_cons.mpr ⟨⟨mm_RM, mm_TM, 11, mm_tyM, rfl, (by decide), mi_3, mm_tyM_ok, mm_nmM, Or.inl mg_10, fun _ => ⟨rfl, rfl⟩, fun h => absurd h (by decide)⟩, List.forall_mem_cons.mpr ⟨⟨mm_RM, mm_TM, 11, mm_tyM, rfl, (by decide), mi_3, mm_tyM_ok, mm_nmM, Or.inl mg_19, fun _ => ⟨rfl, rfl⟩, fun h => absurd h (by decide)⟩, fun _ h => absurd h List.not_mem_nil⟩⟩⟩⟩, fun _ h => absurd h List.not_mem_nil, fun _ h => absurd h List.not_mem_nil⟩
theorem mo_M_kind : mm_ok mm_Zb mm_Gb mm_clb mm_Tb "RootCompassModel" prog_5_method_73_code mp_M_kind := ⟨by decide +kernel, List.forall_mem_cons.mpr ⟨⟨mm_RM, mm_TM, 11, mm_tyM, rfl, (by decide), mi_3, mm_tyM_ok, mm_nmM, Or.inl mg_10, fun _ => ⟨rfl, rfl⟩, fun h => absurd h (by decide)⟩, fun _ h => absurd h List.not_mem_nil⟩, fun _ h => absurd h List.not_mem_nil, List.forall_mem_cons.mpr ⟨⟨fun h => absurd h (by decide), fun _ => ⟨mp_M_kindOf_t, mt_98, mg_321, mg_577, mg_173, (by decide), ⟨by decide, by decide⟩, fun h => absurd h (by decide), fun _ => ⟨mg_322, mg_323, ⟨_, rfl, rfl⟩, 1, rfl, by decide +kernel⟩⟩⟩, fun _ h => absurd h List.not_mem_nil⟩⟩
theorem mo_M_look : mm_ok mm_Zb mm_Gb mm_clb mm_Tb "RootCompassModel" prog_5_method_74_code mp_M_look := ⟨by decide +kernel, List.forall_mem_cons.mpr ⟨⟨mm_RM, mm_TM, 11, mm_tyM, rfl, (by decide), mi_3, mm_tyM_ok, mm_nmM, Or.inl mg_22, fun h => absurd h (by decide), fun h => absurd h (by decide)⟩, List.forall_mem_cons.mpr ⟨⟨mm_RM, mm_TM, 11, mm_tyM, rfl, (by decide), mi_3, mm_tyM_ok, mm_nmM, Or.inl mg_10, fun _ => ⟨rfl, rfl⟩, fun h => absurd h (by decide)⟩, List.forall_mem_cons.mpr ⟨⟨mm_RM, mm_TM, 11, mm_tyM, rfl, (by decide), mi_3, mm_tyM_ok, mm_nmM, Or.inl mg_19, fun _ => ⟨rfl, rfl⟩, fun h => absurd h (by decide)⟩, List.forall_mem_cons.mpr ⟨⟨mm_RM, mm_TM, 11, mm_tyM, rfl, (by decide), mi_3, mm_tyM_ok, mm_nmM, Or.inl mg_23, fun _ => ⟨rfl, rfl⟩, fun h => absurd h (by decide)⟩, fun _ h => absurd h List.not_mem_nil⟩⟩⟩⟩, fun _ h => absurd h List.not_mem_nil, fun _ h => absurd h List.not_mem_nil⟩
theorem mo_N_radicandOf : mm_ok mm_Zb mm_Gb mm_clb mm_Tb "RootCompass$Numbers" prog_3_method_2_code mp_N_radicandOf := ⟨by decide +kernel, fun _ h => absurd h List.not_mem_nil, fun _ h => absurd h List.not_mem_nil, fun _ h => absurd h List.not_mem_nil⟩
theorem mo_N_home : mm_ok mm_Zb mm_Gb mm_clb mm_Tb "RootCompass$Numbers" prog_3_method_3_code mp_N_home := ⟨by decide +kernel, fun _ h => absurd h List.not_mem_nil, fun _ h => absurd h List.not_mem_nil, fun _ h => absurd h List.not_mem_nil⟩
theorem mo_N_begin : mm_ok mm_Zb mm_Gb mm_clb mm_Tb "RootCompass$Numbers" prog_3_method_4_code mp_N_begin := ⟨by decide +kernel, List.forall_mem_cons.mpr ⟨⟨RX1, TX1, 6, tyX1, rfl, (by decide), mi_1, tyX1_ok, nmX1, Or.inl mg_28, fun h => absurd h (by decide), fun h => absurd h (by decide)⟩, List.forall_mem_cons.mpr ⟨⟨RX1, TX1, 6, tyX1, rfl, (by decide), mi_1, tyX1_ok, nmX1, Or.inl mg_29, fun _ => ⟨rfl, rfl⟩, fun h => absurd h (by decide)⟩, List.forall_mem_cons.mpr ⟨⟨RX1, TX1, 6, tyX1, rfl, (by decide), mi_1, tyX1_ok, nmX1, Or.inl mg_30, fun h => absurd h (by decide), fun _ => ⟨rfl, rfl⟩⟩, fun _ h => absurd h List.not_mem_nil⟩⟩⟩, fun _ h => absurd h List.not_mem_nil, fun _ h => absurd h List.not_mem_nil⟩
theorem mo_N_read : mm_ok mm_Zb mm_Gb mm_clb mm_Tb "RootCompass$Numbers" prog_3_method_5_code mp_N_read := ⟨by decide +kernel, List.forall_mem_cons.mpr ⟨⟨RX1, TX1, 6, tyX1, rfl, (by decide), mi_1, tyX1_ok, nmX1, Or.inl mg_32, fun h => absurd h (by decide), fun h => absurd h (by decide)⟩, List.forall_mem_cons.mpr ⟨⟨RX1, TX1, 6, tyX1, rfl, (by decide), mi_1, tyX1_ok, nmX1, Or.inl mg_31, fun h => absurd h (by decide), fun h => absurd h (by decide)⟩, fun _ h => absurd h List.not_mem_nil⟩⟩, fun _ h => absurd h List.not_mem_nil, fun _ h => absurd h List.not_mem_nil⟩
theorem mo_N_copy : mm_ok mm_Zb mm_Gb mm_clb mm_Tb "RootCompass$Numbers" prog_3_method_6_code mp_N_copy := ⟨by decide +kernel, List.forall_mem_cons.mpr ⟨⟨RX1, TX1, 6, tyX1, rfl, (by decide), mi_1, tyX1_ok, nmX1, Or.inl mg_32, fun h => absurd h (by decide), fun h => absurd h (by decide)⟩, List.forall_mem_cons.mpr ⟨⟨RX1, TX1, 6, tyX1, rfl, (by decide), mi_1, tyX1_ok, nmX1, Or.inl mg_31, fun h => absurd h (by decide), fun h => absurd h (by decide)⟩, fun _ h => absurd h List.not_mem_nil⟩⟩, fun _ h => absurd h List.not_mem_nil, List.forall_mem_cons.mpr ⟨⟨fun _ => ⟨mg_584, mg_585, mg_586, mg_587⟩, fun h => absurd rfl h⟩, fun _ h => absurd h List.not_mem_nil⟩⟩
theorem mo_N_alike : mm_ok mm_Zb mm_Gb mm_clb mm_Tb "RootCompass$Numbers" prog_3_method_7_code mp_N_alike := ⟨by decide +kernel, List.forall_mem_cons.mpr ⟨⟨RX1, TX1, 6, tyX1, rfl, (by decide), mi_1, tyX1_ok, nmX1, Or.inl mg_32, fun h => absurd h (by decide), fun h => absurd h (by decide)⟩, List.forall_mem_cons.mpr ⟨⟨RX1, TX1, 6, tyX1, rfl, (by decide), mi_1, tyX1_ok, nmX1, Or.inl mg_31, fun h => absurd h (by decide), fun h => absurd h (by decide)⟩, fun _ h => absurd h List.not_mem_nil⟩⟩, fun _ h => absurd h List.not_mem_nil, fun _ h => absurd h List.not_mem_nil⟩
theorem mo_N_isNought : mm_ok mm_Zb mm_Gb mm_clb mm_Tb "RootCompass$Numbers" prog_3_method_8_code mp_N_isNought := ⟨by decide +kernel, fun _ h => absurd h List.not_mem_nil, fun _ h => absurd h List.not_mem_nil, List.forall_mem_cons.mpr ⟨⟨fun h => absurd h (by decide), fun _ => ⟨mp_N_isZero_t, mt_141, mg_448, mg_588, mg_387, (by decide), ⟨by decide, by decide⟩, fun h => absurd h (by decide), fun _ => ⟨mg_449, mg_450, ⟨_, rfl, rfl⟩, 2, rfl, by decide +kernel⟩⟩⟩, fun _ h => absurd h List.not_mem_nil⟩⟩
theorem mo_N_whole : mm_ok mm_Zb mm_Gb mm_clb mm_Tb "RootCompass$Numbers" prog_3_method_9_code mp_N_whole := ⟨by decide +kernel, fun _ h => absurd h List.not_mem_nil, fun _ h => absurd h List.not_mem_nil, List.forall_mem_cons.mpr ⟨⟨fun h => absurd h (by decide), fun _ => ⟨mp_N_quotient_t, mt_128, mg_409, mg_589, mg_387, (by decide), ⟨by decide, by decide⟩, fun h => absurd h (by decide), fun _ => ⟨mg_410, mg_411, ⟨_, rfl, rfl⟩, 2, rfl, by decide +kernel⟩⟩⟩, fun _ h => absurd h List.not_mem_nil⟩⟩
theorem mo_N_quotient : mm_ok mm_Zb mm_Gb mm_clb mm_Tb "RootCompass$Numbers" prog_3_method_10_code mp_N_quotient := ⟨by decide +kernel, fun _ h => absurd h List.not_mem_nil, fun _ h => absurd h List.not_mem_nil, List.forall_mem_cons.mpr ⟨⟨fun h => absurd h (by decide), fun _ => ⟨mp_N_reserve_t, mt_138, mg_439, mg_590, mg_387, (by decide), ⟨by decide, by decide⟩, fun h => absurd h (by decide), fun _ => ⟨mg_440, mg_441, ⟨_, rfl, rfl⟩, 0, rfl, by decide +kernel⟩⟩⟩, List.forall_mem_cons.mpr ⟨⟨fun h => absurd h (by decide), fun _ => ⟨mp_N_put_t, mt_139, mg_442, mg_591, mg_387, (by decide), ⟨by decide, by decide⟩, fun h => absurd h (by decide), fun _ => ⟨mg_443, mg_444, ⟨_, rfl, rfl⟩, 3, rfl, by decide +kernel⟩⟩⟩, fun _ h => absurd h List.not_mem_nil⟩⟩⟩
theorem mo_N_plus : mm_ok mm_Zb mm_Gb mm_clb mm_Tb "RootCompass$Numbers" prog_3_method_11_code mp_N_plus := ⟨by decide +kernel, List.forall_mem_cons.mpr ⟨⟨RX1, TX1, 6, tyX1, rfl, (by decide), mi_1, tyX1_ok, nmX1, Or.inl mg_33, fun _ => ⟨rfl, rfl⟩, fun h => absurd h (by decide)⟩, fun _ h => absurd h List.not_mem_nil⟩, fun _ h => absurd h List.not_mem_nil, List.forall_mem_cons.mpr ⟨⟨fun h => absurd h (by decide), fun _ => ⟨mp_N_sum_t, mt_142, mg_451, mg_592, mg_387, (by decide), ⟨by decide, by decide⟩, fun h => absurd h (by decide), fun _ => ⟨mg_452, mg_453, ⟨_, rfl, rfl⟩, 3, rfl, by decide +kernel⟩⟩⟩, fun _ h => absurd h List.not_mem_nil⟩⟩
theorem mo_N_minus : mm_ok mm_Zb mm_Gb mm_clb mm_Tb "RootCompass$Numbers" prog_3_method_12_code mp_N_minus := ⟨by decide +kernel, List.forall_mem_cons.mpr ⟨⟨RX1, TX1, 6, tyX1, rfl, (by decide), mi_1, tyX1_ok, nmX1, Or.inl mg_33, fun _ => ⟨rfl, rfl⟩, fun h => absurd h (by decide)⟩, fun _ h => absurd h List.not_mem_nil⟩, fun _ h => absurd h List.not_mem_nil, List.forall_mem_cons.mpr ⟨⟨fun h => absurd h (by decide), fun _ => ⟨mp_N_sum_t, mt_142, mg_451, mg_592, mg_387, (by decide), ⟨by decide, by decide⟩, fun h => absurd h (by decide), fun _ => ⟨mg_452, mg_453, ⟨_, rfl, rfl⟩, 3, rfl, by decide +kernel⟩⟩⟩, List.forall_mem_cons.mpr ⟨⟨fun h => absurd h (by decide), fun _ => ⟨mp_N_negative_t, mt_143, mg_454, mg_593, mg_387, (by decide), ⟨by decide, by decide⟩, fun h => absurd h (by decide), fun _ => ⟨mg_455, mg_456, ⟨_, rfl, rfl⟩, 2, rfl, by decide +kernel⟩⟩⟩, fun _ h => absurd h List.not_mem_nil⟩⟩⟩
theorem mo_N_times : mm_ok mm_Zb mm_Gb mm_clb mm_Tb "RootCompass$Numbers" prog_3_method_13_code mp_N_times := ⟨by decide +kernel, List.forall_mem_cons.mpr ⟨⟨RX1, TX1, 6, tyX1, rfl, (by decide), mi_1, tyX1_ok, nmX1, Or.inl mg_33, fun _ => ⟨rfl, rfl⟩, fun h => absurd h (by decide)⟩, fun _ h => absurd h List.not_mem_nil⟩, fun _ h => absurd h List.not_mem_nil, List.forall_mem_cons.mpr ⟨⟨fun h => absurd h (by decide), fun _ => ⟨mp_N_product_t, mt_145, mg_460, mg_594, mg_387, (by decide), ⟨by decide, by decide⟩, fun h => absurd h (by decide), fun _ => ⟨mg_461, mg_462, ⟨_, rfl, rfl⟩, 3, rfl, by decide +kernel⟩⟩⟩, fun _ h => absurd h List.not_mem_nil⟩⟩
theorem mo_N_negated : mm_ok mm_Zb mm_Gb mm_clb mm_Tb "RootCompass$Numbers" prog_3_method_14_code mp_N_negated := ⟨by decide +kernel, List.forall_mem_cons.mpr ⟨⟨RX1, TX1, 6, tyX1, rfl, (by decide), mi_1, tyX1_ok, nmX1, Or.inl mg_33, fun _ => ⟨rfl, rfl⟩, fun h => absurd h (by decide)⟩, fun _ h => absurd h List.not_mem_nil⟩, fun _ h => absurd h List.not_mem_nil, List.forall_mem_cons.mpr ⟨⟨fun h => absurd h (by decide), fun _ => ⟨mp_N_negative_t, mt_143, mg_454, mg_593, mg_387, (by decide), ⟨by decide, by decide⟩, fun h => absurd h (by decide), fun _ => ⟨mg_455, mg_456, ⟨_, rfl, rfl⟩, 2, rfl, by decide +kernel⟩⟩⟩, fun _ h => absurd h List.not_mem_nil⟩⟩
theorem mo_N_halved : mm_ok mm_Zb mm_Gb mm_clb mm_Tb "RootCompass$Numbers" prog_3_method_15_code mp_N_halved := ⟨by decide +kernel, List.forall_mem_cons.mpr ⟨⟨RX1, TX1, 6, tyX1, rfl, (by decide), mi_1, tyX1_ok, nmX1, Or.inl mg_33, fun _ => ⟨rfl, rfl⟩, fun h => absurd h (by decide)⟩, fun _ h => absurd h List.not_mem_nil⟩, fun _ h => absurd h List.not_mem_nil, List.forall_mem_cons.mpr ⟨⟨fun h => absurd h (by decide), fun _ => ⟨mp_N_half_t, mt_144, mg_457, mg_595, mg_387, (by decide), ⟨by decide, by decide⟩, fun h => absurd h (by decide), fun _ => ⟨mg_458, mg_459, ⟨_, rfl, rfl⟩, 2, rfl, by decide +kernel⟩⟩⟩, fun _ h => absurd h List.not_mem_nil⟩⟩
theorem mo_N_inverted : mm_ok mm_Zb mm_Gb mm_clb mm_Tb "RootCompass$Numbers" prog_3_method_16_code mp_N_inverted := ⟨by decide +kernel, List.forall_mem_cons.mpr ⟨⟨RX1, TX1, 6, tyX1, rfl, (by decide), mi_1, tyX1_ok, nmX1, Or.inl mg_33, fun _ => ⟨rfl, rfl⟩, fun h => absurd h (by decide)⟩, fun _ h => absurd h List.not_mem_nil⟩, fun _ h => absurd h List.not_mem_nil, List.forall_mem_cons.mpr ⟨⟨fun h => absurd h (by decide), fun _ => ⟨mp_N_inverse_t, mt_146, mg_463, mg_596, mg_387, (by decide), ⟨by decide, by decide⟩, fun h => absurd h (by decide), fun _ => ⟨mg_464, mg_465, ⟨_, rfl, rfl⟩, 2, rfl, by decide +kernel⟩⟩⟩, fun _ h => absurd h List.not_mem_nil⟩⟩
theorem mo_N_signum : mm_ok mm_Zb mm_Gb mm_clb mm_Tb "RootCompass$Numbers" prog_3_method_17_code mp_N_signum := ⟨by decide +kernel, List.forall_mem_cons.mpr ⟨⟨RX1, TX1, 6, tyX1, rfl, (by decide), mi_1, tyX1_ok, nmX1, Or.inl mg_33, fun _ => ⟨rfl, rfl⟩, fun h => absurd h (by decide)⟩, fun _ h => absurd h List.not_mem_nil⟩, fun _ h => absurd h List.not_mem_nil, List.forall_mem_cons.mpr ⟨⟨fun h => absurd h (by decide), fun _ => ⟨mp_N_signOf_t, mt_147, mg_466, mg_597, mg_387, (by decide), ⟨by decide, by decide⟩, fun h => absurd h (by decide), fun _ => ⟨mg_467, mg_468, ⟨_, rfl, rfl⟩, 2, rfl, by decide +kernel⟩⟩⟩, fun _ h => absurd h List.not_mem_nil⟩⟩
theorem mo_N_takeRoot : mm_ok mm_Zb mm_Gb mm_clb mm_Tb "RootCompass$Numbers" prog_3_method_18_code mp_N_takeRoot := ⟨by decide +kernel, List.forall_mem_cons.mpr ⟨⟨RX1, TX1, 6, tyX1, rfl, (by decide), mi_1, tyX1_ok, nmX1, Or.inl mg_30, fun h => absurd h (by decide), fun _ => ⟨rfl, rfl⟩⟩, List.forall_mem_cons.mpr ⟨⟨RX1, TX1, 6, tyX1, rfl, (by decide), mi_1, tyX1_ok, nmX1, Or.inl mg_33, fun _ => ⟨rfl, rfl⟩, fun h => absurd h (by decide)⟩, fun _ h => absurd h List.not_mem_nil⟩⟩, fun _ h => absurd h List.not_mem_nil, List.forall_mem_cons.mpr ⟨⟨fun h => absurd h (by decide), fun _ => ⟨mp_N_reserve_t, mt_138, mg_439, mg_590, mg_387, (by decide), ⟨by decide, by decide⟩, fun h => absurd h (by decide), fun _ => ⟨mg_440, mg_441, ⟨_, rfl, rfl⟩, 0, rfl, by decide +kernel⟩⟩⟩, List.forall_mem_cons.mpr ⟨⟨fun h => absurd h (by decide), fun _ => ⟨mp_N_signOf_t, mt_147, mg_466, mg_597, mg_387, (by decide), ⟨by decide, by decide⟩, fun h => absurd h (by decide), fun _ => ⟨mg_467, mg_468, ⟨_, rfl, rfl⟩, 2, rfl, by decide +kernel⟩⟩⟩, List.forall_mem_cons.mpr ⟨⟨fun h => absurd h (by decide), fun _ => ⟨mp_N_root_t, mt_148, mg_469, mg_598, mg_387, (by decide), ⟨by decide, by decide⟩, fun h => absurd h (by decide), fun _ => ⟨mg_470, mg_471, ⟨_, rfl, rfl⟩, 2, rfl, by decide +kernel⟩⟩⟩, List.forall_mem_cons.mpr ⟨⟨fun h => absurd h (by decide), fun _ => ⟨mp_N_newLevel_t, mt_137, mg_436, mg_599, mg_387, (by decide), ⟨by decide, by decide⟩, fun h => absurd h (by decide), fun _ => ⟨mg_437, mg_438, ⟨_, rfl, rfl⟩, 1, rfl, by decide +kernel⟩⟩⟩, fun _ h => absurd h List.not_mem_nil⟩⟩⟩⟩⟩
theorem mo_N_newLevel : mm_ok mm_Zb mm_Gb mm_clb mm_Tb "RootCompass$Numbers" prog_3_method_19_code mp_N_newLevel := ⟨by decide +kernel, List.forall_mem_cons.mpr ⟨⟨RX1, TX1, 6, tyX1, rfl, (by decide), mi_1, tyX1_ok, nmX1, Or.inl mg_32, fun h => absurd h (by decide), fun h => absurd h (by decide)⟩, List.forall_mem_cons.mpr ⟨⟨RX1, TX1, 6, tyX1, rfl, (by decide), mi_1, tyX1_ok, nmX1, Or.inl mg_33, fun _ => ⟨rfl, rfl⟩, fun h => absurd h (by decide)⟩, fun _ h => absurd h List.not_mem_nil⟩⟩, fun _ h => absurd h List.not_mem_nil, List.forall_mem_cons.mpr ⟨⟨fun h => absurd h (by decide), fun _ => ⟨mp_N_reserve_t, mt_138, mg_439, mg_590, mg_387, (by decide), ⟨by decide, by decide⟩, fun h => absurd h (by decide), fun _ => ⟨mg_440, mg_441, ⟨_, rfl, rfl⟩, 0, rfl, by decide +kernel⟩⟩⟩, List.forall_mem_cons.mpr ⟨⟨fun h => absurd h (by decide), fun _ => ⟨mp_N_radicandOf_t, mt_120, mg_386, mg_600, mg_387, (by decide), ⟨by decide, by decide⟩, fun _ => ⟨mg_388, by decide +kernel⟩, fun h => absurd rfl h⟩⟩, List.forall_mem_cons.mpr ⟨⟨fun h => absurd h (by decide), fun _ => ⟨mp_N_copy_t, mt_124, mg_397, mg_601, mg_387, (by decide), ⟨by decide, by decide⟩, fun h => absurd h (by decide), fun _ => ⟨mg_398, mg_399, ⟨_, rfl, rfl⟩, 2, rfl, by decide +kernel⟩⟩⟩, fun _ h => absurd h List.not_mem_nil⟩⟩⟩⟩
theorem mo_N_reserve : mm_ok mm_Zb mm_Gb mm_clb mm_Tb "RootCompass$Numbers" prog_3_method_20_code mp_N_reserve := ⟨by decide +kernel, List.forall_mem_cons.mpr ⟨⟨RX1, TX1, 6, tyX1, rfl, (by decide), mi_1, tyX1_ok, nmX1, Or.inl mg_28, fun h => absurd h (by decide), fun h => absurd h (by decide)⟩, List.forall_mem_cons.mpr ⟨⟨RX1, TX1, 6, tyX1, rfl, (by decide), mi_1, tyX1_ok, nmX1, Or.inl mg_32, fun h => absurd h (by decide), fun h => absurd h (by decide)⟩, List.forall_mem_cons.mpr ⟨⟨RX1, TX1, 6, tyX1, rfl, (by decide), mi_1, tyX1_ok, nmX1, Or.inl mg_31, fun h => absurd h (by decide), fun h => absurd h (by decide)⟩, List.forall_mem_cons.mpr ⟨⟨RX1, TX1, 6, tyX1, rfl, (by decide), mi_1, tyX1_ok, nmX1, Or.inl mg_29, fun _ => ⟨rfl, rfl⟩, fun h => absurd h (by decide)⟩, List.forall_mem_cons.mpr ⟨⟨RX1, TX1, 6, tyX1, rfl, (by decide), mi_1, tyX1_ok, nmX1, Or.inl mg_30, fun h => absurd h (by decide), fun _ => ⟨rfl, rfl⟩⟩, fun _ h => absurd h List.not_mem_nil⟩⟩⟩⟩⟩, fun _ h => absurd h List.not_mem_nil, fun _ h => absurd h List.not_mem_nil⟩
theorem mo_N_put : mm_ok mm_Zb mm_Gb mm_clb mm_Tb "RootCompass$Numbers" prog_3_method_21_code mp_N_put := ⟨by decide +kernel, List.forall_mem_cons.mpr ⟨⟨RX1, TX1, 6, tyX1, rfl, (by decide), mi_1, tyX1_ok, nmX1, Or.inl mg_32, fun h => absurd h (by decide), fun h => absurd h (by decide)⟩, List.forall_mem_cons.mpr ⟨⟨RX1, TX1, 6, tyX1, rfl, (by decide), mi_1, tyX1_ok, nmX1, Or.inl mg_31, fun h => absurd h (by decide), fun h => absurd h (by decide)⟩, List.forall_mem_cons.mpr ⟨⟨RX1, TX1, 6, tyX1, rfl, (by decide), mi_1, tyX1_ok, nmX1, Or.inl mg_30, fun h => absurd h (by decide), fun _ => ⟨rfl, rfl⟩⟩, fun _ h => absurd h List.not_mem_nil⟩⟩⟩, List.forall_mem_cons.mpr ⟨mg_34, List.forall_mem_cons.mpr ⟨mg_35, fun _ h => absurd h List.not_mem_nil⟩⟩, fun _ h => absurd h List.not_mem_nil⟩
theorem mo_N_pair : mm_ok mm_Zb mm_Gb mm_clb mm_Tb "RootCompass$Numbers" prog_3_method_22_code mp_N_pair := ⟨by decide +kernel, List.forall_mem_cons.mpr ⟨⟨RX1, TX1, 6, tyX1, rfl, (by decide), mi_1, tyX1_ok, nmX1, Or.inl mg_32, fun h => absurd h (by decide), fun h => absurd h (by decide)⟩, List.forall_mem_cons.mpr ⟨⟨RX1, TX1, 6, tyX1, rfl, (by decide), mi_1, tyX1_ok, nmX1, Or.inl mg_31, fun h => absurd h (by decide), fun h => absurd h (by decide)⟩, List.forall_mem_cons.mpr ⟨⟨RX1, TX1, 6, tyX1, rfl, (by decide), mi_1, tyX1_ok, nmX1, Or.inl mg_29, fun _ => ⟨rfl, rfl⟩, fun h => absurd h (by decide)⟩, fun _ h => absurd h List.not_mem_nil⟩⟩⟩, fun _ h => absurd h List.not_mem_nil, List.forall_mem_cons.mpr ⟨⟨fun _ => ⟨mg_584, mg_585, mg_586, mg_587⟩, fun h => absurd rfl h⟩, fun _ h => absurd h List.not_mem_nil⟩⟩
theorem mo_N_isZero : mm_ok mm_Zb mm_Gb mm_clb mm_Tb "RootCompass$Numbers" prog_3_method_23_code mp_N_isZero := ⟨by decide +kernel, List.forall_mem_cons.mpr ⟨⟨RX1, TX1, 6, tyX1, rfl, (by decide), mi_1, tyX1_ok, nmX1, Or.inl mg_32, fun h => absurd h (by decide), fun h => absurd h (by decide)⟩, fun _ h => absurd h List.not_mem_nil⟩, fun _ h => absurd h List.not_mem_nil, fun _ h => absurd h List.not_mem_nil⟩
theorem mo_N_sum : mm_ok mm_Zb mm_Gb mm_clb mm_Tb "RootCompass$Numbers" prog_3_method_24_code mp_N_sum := ⟨by decide +kernel, List.forall_mem_cons.mpr ⟨⟨RX1, TX1, 6, tyX1, rfl, (by decide), mi_1, tyX1_ok, nmX1, Or.inl mg_32, fun h => absurd h (by decide), fun h => absurd h (by decide)⟩, List.forall_mem_cons.mpr ⟨⟨RX1, TX1, 6, tyX1, rfl, (by decide), mi_1, tyX1_ok, nmX1, Or.inl mg_31, fun h => absurd h (by decide), fun h => absurd h (by decide)⟩, fun _ h => absurd h List.not_mem_nil⟩⟩, fun _ h => absurd h List.not_mem_nil, List.forall_mem_cons.mpr ⟨⟨fun h => absurd h (by decide), fun _ => ⟨mp_N_reserve_t, mt_138, mg_439, mg_590, mg_387, (by decide), ⟨by decide, by decide⟩, fun h => absurd h (by decide), fun _ => ⟨mg_440, mg_441, ⟨_, rfl, rfl⟩, 0, rfl, by decide +kernel⟩⟩⟩, List.forall_mem_cons.mpr ⟨⟨fun h => absurd h (by decide), fun _ => ⟨mp_N_put_t, mt_139, mg_442, mg_591, mg_387, (by decide), ⟨by decide, by decide⟩, fun h => absurd h (by decide), fun _ => ⟨mg_443, mg_444, ⟨_, rfl, rfl⟩, 3, rfl, by decide +kernel⟩⟩⟩, fun _ h => absurd h List.not_mem_nil⟩⟩⟩
theorem mo_N_negative : mm_ok mm_Zb mm_Gb mm_clb mm_Tb "RootCompass$Numbers" prog_3_method_25_code mp_N_negative := ⟨by decide +kernel, List.forall_mem_cons.mpr ⟨⟨RX1, TX1, 6, tyX1, rfl, (by decide), mi_1, tyX1_ok, nmX1, Or.inl mg_32, fun h => absurd h (by decide), fun h => absurd h (by decide)⟩, List.forall_mem_cons.mpr ⟨⟨RX1, TX1, 6, tyX1, rfl, (by decide), mi_1, tyX1_ok, nmX1, Or.inl mg_31, fun h => absurd h (by decide), fun h => absurd h (by decide)⟩, fun _ h => absurd h List.not_mem_nil⟩⟩, fun _ h => absurd h List.not_mem_nil, List.forall_mem_cons.mpr ⟨⟨fun h => absurd h (by decide), fun _ => ⟨mp_N_reserve_t, mt_138, mg_439, mg_590, mg_387, (by decide), ⟨by decide, by decide⟩, fun h => absurd h (by decide), fun _ => ⟨mg_440, mg_441, ⟨_, rfl, rfl⟩, 0, rfl, by decide +kernel⟩⟩⟩, fun _ h => absurd h List.not_mem_nil⟩⟩
theorem mo_N_half : mm_ok mm_Zb mm_Gb mm_clb mm_Tb "RootCompass$Numbers" prog_3_method_26_code mp_N_half := ⟨by decide +kernel, List.forall_mem_cons.mpr ⟨⟨RX1, TX1, 6, tyX1, rfl, (by decide), mi_1, tyX1_ok, nmX1, Or.inl mg_32, fun h => absurd h (by decide), fun h => absurd h (by decide)⟩, List.forall_mem_cons.mpr ⟨⟨RX1, TX1, 6, tyX1, rfl, (by decide), mi_1, tyX1_ok, nmX1, Or.inl mg_31, fun h => absurd h (by decide), fun h => absurd h (by decide)⟩, fun _ h => absurd h List.not_mem_nil⟩⟩, List.forall_mem_cons.mpr ⟨mg_36, fun _ h => absurd h List.not_mem_nil⟩, List.forall_mem_cons.mpr ⟨⟨fun h => absurd h (by decide), fun _ => ⟨mp_N_reserve_t, mt_138, mg_439, mg_590, mg_387, (by decide), ⟨by decide, by decide⟩, fun h => absurd h (by decide), fun _ => ⟨mg_440, mg_441, ⟨_, rfl, rfl⟩, 0, rfl, by decide +kernel⟩⟩⟩, List.forall_mem_cons.mpr ⟨⟨fun h => absurd h (by decide), fun _ => ⟨mp_N_put_t, mt_139, mg_442, mg_591, mg_387, (by decide), ⟨by decide, by decide⟩, fun h => absurd h (by decide), fun _ => ⟨mg_443, mg_444, ⟨_, rfl, rfl⟩, 3, rfl, by decide +kernel⟩⟩⟩, fun _ h => absurd h List.not_mem_nil⟩⟩⟩
theorem mo_N_product : mm_ok mm_Zb mm_Gb mm_clb mm_Tb "RootCompass$Numbers" prog_3_method_27_code mp_N_product := ⟨by decide +kernel, List.forall_mem_cons.mpr ⟨⟨RX1, TX1, 6, tyX1, rfl, (by decide), mi_1, tyX1_ok, nmX1, Or.inl mg_32, fun h => absurd h (by decide), fun h => absurd h (by decide)⟩, List.forall_mem_cons.mpr ⟨⟨RX1, TX1, 6, tyX1, rfl, (by decide), mi_1, tyX1_ok, nmX1, Or.inl mg_31, fun h => absurd h (by decide), fun h => absurd h (by decide)⟩, fun _ h => absurd h List.not_mem_nil⟩⟩, fun _ h => absurd h List.not_mem_nil, List.forall_mem_cons.mpr ⟨⟨fun h => absurd h (by decide), fun _ => ⟨mp_N_isZero_t, mt_141, mg_448, mg_588, mg_387, (by decide), ⟨by decide, by decide⟩, fun h => absurd h (by decide), fun _ => ⟨mg_449, mg_450, ⟨_, rfl, rfl⟩, 2, rfl, by decide +kernel⟩⟩⟩, List.forall_mem_cons.mpr ⟨⟨fun h => absurd h (by decide), fun _ => ⟨mp_N_reserve_t, mt_138, mg_439, mg_590, mg_387, (by decide), ⟨by decide, by decide⟩, fun h => absurd h (by decide), fun _ => ⟨mg_440, mg_441, ⟨_, rfl, rfl⟩, 0, rfl, by decide +kernel⟩⟩⟩, List.forall_mem_cons.mpr ⟨⟨fun h => absurd h (by decide), fun _ => ⟨mp_N_put_t, mt_139, mg_442, mg_591, mg_387, (by decide), ⟨by decide, by decide⟩, fun h => absurd h (by decide), fun _ => ⟨mg_443, mg_444, ⟨_, rfl, rfl⟩, 3, rfl, by decide +kernel⟩⟩⟩, List.forall_mem_cons.mpr ⟨⟨fun h => absurd h (by decide), fun _ => ⟨mp_N_sum_t, mt_142, mg_451, mg_592, mg_387, (by decide), ⟨by decide, by decide⟩, fun h => absurd h (by decide), fun _ => ⟨mg_452, mg_453, ⟨_, rfl, rfl⟩, 3, rfl, by decide +kernel⟩⟩⟩, List.forall_mem_cons.mpr ⟨⟨fun h => absurd h (by decide), fun _ => ⟨mp_N_product_t, mt_145, mg_460, mg_594, mg_387, (by decide), ⟨by decide, by decide⟩, fun h => absurd h (by decide), fun _ => ⟨mg_461, mg_462, ⟨_, rfl, rfl⟩, 3, rfl, by decide +kernel⟩⟩⟩, List.forall_mem_cons.mpr ⟨⟨fun h => absurd h (by decide), fun _ => ⟨mp_N_radicandOf_t, mt_120, mg_386, mg_600, mg_387, (by decide), ⟨by decide, by decide⟩, fun _ => ⟨mg_388, by decide +kernel⟩, fun h => absurd rfl h⟩⟩, List.forall_mem_cons.mpr ⟨⟨fun h => absurd h (by decide), fun _ => ⟨mp_N_pair_t, mt_140, mg_445, mg_602, mg_387, (by decide), ⟨by decide, by decide⟩, fun h => absurd h (by decide), fun _ => ⟨mg_446, mg_447, ⟨_, rfl, rfl⟩, 4, rfl, by decide +kernel⟩⟩⟩, fun _ h => absurd h List.not_mem_nil⟩⟩⟩⟩⟩⟩⟩⟩
theorem mo_N_inverse : mm_ok mm_Zb mm_Gb mm_clb mm_Tb "RootCompass$Numbers" prog_3_method_28_code mp_N_inverse := ⟨by decide +kernel, List.forall_mem_cons.mpr ⟨⟨RX1, TX1, 6, tyX1, rfl, (by decide), mi_1, tyX1_ok, nmX1, Or.inl mg_32, fun h => absurd h (by decide), fun h => absurd h (by decide)⟩, List.forall_mem_cons.mpr ⟨⟨RX1, TX1, 6, tyX1, rfl, (by decide), mi_1, tyX1_ok, nmX1, Or.inl mg_31, fun h => absurd h (by decide), fun h => absurd h (by decide)⟩, List.forall_mem_cons.mpr ⟨⟨RX1, TX1, 6, tyX1, rfl, (by decide), mi_1, tyX1_ok, nmX1, Or.inl mg_30, fun h => absurd h (by decide), fun _ => ⟨rfl, rfl⟩⟩, fun _ h => absurd h List.not_mem_nil⟩⟩⟩, fun _ h => absurd h List.not_mem_nil, List.forall_mem_cons.mpr ⟨⟨fun h => absurd h (by decide), fun _ => ⟨mp_N_isZero_t, mt_141, mg_448, mg_588, mg_387, (by decide), ⟨by decide, by decide⟩, fun h => absurd h (by decide), fun _ => ⟨mg_449, mg_450, ⟨_, rfl, rfl⟩, 2, rfl, by decide +kernel⟩⟩⟩, List.forall_mem_cons.mpr ⟨⟨fun h => absurd h (by decide), fun _ => ⟨mp_N_reserve_t, mt_138, mg_439, mg_590, mg_387, (by decide), ⟨by decide, by decide⟩, fun h => absurd h (by decide), fun _ => ⟨mg_440, mg_441, ⟨_, rfl, rfl⟩, 0, rfl, by decide +kernel⟩⟩⟩, List.forall_mem_cons.mpr ⟨⟨fun h => absurd h (by decide), fun _ => ⟨mp_N_sum_t, mt_142, mg_451, mg_592, mg_387, (by decide), ⟨by decide, by decide⟩, fun h => absurd h (by decide), fun _ => ⟨mg_452, mg_453, ⟨_, rfl, rfl⟩, 3, rfl, by decide +kernel⟩⟩⟩, List.forall_mem_cons.mpr ⟨⟨fun h => absurd h (by decide), fun _ => ⟨mp_N_negative_t, mt_143, mg_454, mg_593, mg_387, (by decide), ⟨by decide, by decide⟩, fun h => absurd h (by decide), fun _ => ⟨mg_455, mg_456, ⟨_, rfl, rfl⟩, 2, rfl, by decide +kernel⟩⟩⟩, List.forall_mem_cons.mpr ⟨⟨fun h => absurd h (by decide), fun _ => ⟨mp_N_product_t, mt_145, mg_460, mg_594, mg_387, (by decide), ⟨by decide, by decide⟩, fun h => absurd h (by decide), fun _ => ⟨mg_461, mg_462, ⟨_, rfl, rfl⟩, 3, rfl, by decide +kernel⟩⟩⟩, List.forall_mem_cons.mpr ⟨⟨fun h => absurd h (by decide), fun _ => ⟨mp_N_inverse_t, mt_146, mg_463, mg_596, mg_387, (by decide), ⟨by decide, by decide⟩, fun h => absurd h (by decide), fun _ => ⟨mg_464, mg_465, ⟨_, rfl, rfl⟩, 2, rfl, by decide +kernel⟩⟩⟩, List.forall_mem_cons.mpr ⟨⟨fun h => absurd h (by decide), fun _ => ⟨mp_N_radicandOf_t, mt_120, mg_386, mg_600, mg_387, (by decide), ⟨by decide, by decide⟩, fun _ => ⟨mg_388, by decide +kernel⟩, fun h => absurd rfl h⟩⟩, List.forall_mem_cons.mpr ⟨⟨fun h => absurd h (by decide), fun _ => ⟨mp_N_pair_t, mt_140, mg_445, mg_602, mg_387, (by decide), ⟨by decide, by decide⟩, fun h => absurd h (by decide), fun _ => ⟨mg_446, mg_447, ⟨_, rfl, rfl⟩, 4, rfl, by decide +kernel⟩⟩⟩, fun _ h => absurd h List.not_mem_nil⟩⟩⟩⟩⟩⟩⟩⟩⟩
theorem mo_N_signOf : mm_ok mm_Zb mm_Gb mm_clb mm_Tb "RootCompass$Numbers" prog_3_method_29_code mp_N_signOf := ⟨by decide +kernel, List.forall_mem_cons.mpr ⟨⟨RX1, TX1, 6, tyX1, rfl, (by decide), mi_1, tyX1_ok, nmX1, Or.inl mg_32, fun h => absurd h (by decide), fun h => absurd h (by decide)⟩, fun _ h => absurd h List.not_mem_nil⟩, fun _ h => absurd h List.not_mem_nil, List.forall_mem_cons.mpr ⟨⟨fun h => absurd h (by decide), fun _ => ⟨mp_N_sum_t, mt_142, mg_451, mg_592, mg_387, (by decide), ⟨by decide, by decide⟩, fun h => absurd h (by decide), fun _ => ⟨mg_452, mg_453, ⟨_, rfl, rfl⟩, 3, rfl, by decide +kernel⟩⟩⟩, List.forall_mem_cons.mpr ⟨⟨fun h => absurd h (by decide), fun _ => ⟨mp_N_negative_t, mt_143, mg_454, mg_593, mg_387, (by decide), ⟨by decide, by decide⟩, fun h => absurd h (by decide), fun _ => ⟨mg_455, mg_456, ⟨_, rfl, rfl⟩, 2, rfl, by decide +kernel⟩⟩⟩, List.forall_mem_cons.mpr ⟨⟨fun h => absurd h (by decide), fun _ => ⟨mp_N_product_t, mt_145, mg_460, mg_594, mg_387, (by decide), ⟨by decide, by decide⟩, fun h => absurd h (by decide), fun _ => ⟨mg_461, mg_462, ⟨_, rfl, rfl⟩, 3, rfl, by decide +kernel⟩⟩⟩, List.forall_mem_cons.mpr ⟨⟨fun h => absurd h (by decide), fun _ => ⟨mp_N_signOf_t, mt_147, mg_466, mg_597, mg_387, (by decide), ⟨by decide, by decide⟩, fun h => absurd h (by decide), fun _ => ⟨mg_467, mg_468, ⟨_, rfl, rfl⟩, 2, rfl, by decide +kernel⟩⟩⟩, List.forall_mem_cons.mpr ⟨⟨fun h => absurd h (by decide), fun _ => ⟨mp_N_radicandOf_t, mt_120, mg_386, mg_600, mg_387, (by decide), ⟨by decide, by decide⟩, fun _ => ⟨mg_388, by decide +kernel⟩, fun h => absurd rfl h⟩⟩, List.forall_mem_cons.mpr ⟨⟨fun h => absurd h (by decide), fun _ => ⟨mp_J_compare_t, mt_151, mg_477, mg_603, mg_478, (by decide), ⟨by decide, by decide⟩, fun _ => ⟨mg_479, by decide +kernel⟩, fun h => absurd rfl h⟩⟩, fun _ h => absurd h List.not_mem_nil⟩⟩⟩⟩⟩⟩⟩
theorem mo_N_root : mm_ok mm_Zb mm_Gb mm_clb mm_Tb "RootCompass$Numbers" prog_3_method_30_code mp_N_root := ⟨by decide +kernel, fun _ h => absurd h List.not_mem_nil, fun _ h => absurd h List.not_mem_nil, List.forall_mem_cons.mpr ⟨⟨fun h => absurd h (by decide), fun _ => ⟨mp_N_isZero_t, mt_141, mg_448, mg_588, mg_387, (by decide), ⟨by decide, by decide⟩, fun h => absurd h (by decide), fun _ => ⟨mg_449, mg_450, ⟨_, rfl, rfl⟩, 2, rfl, by decide +kernel⟩⟩⟩, List.forall_mem_cons.mpr ⟨⟨fun h => absurd h (by decide), fun _ => ⟨mp_N_reserve_t, mt_138, mg_439, mg_590, mg_387, (by decide), ⟨by decide, by decide⟩, fun h => absurd h (by decide), fun _ => ⟨mg_440, mg_441, ⟨_, rfl, rfl⟩, 0, rfl, by decide +kernel⟩⟩⟩, List.forall_mem_cons.mpr ⟨⟨fun h => absurd h (by decide), fun _ => ⟨mp_N_sum_t, mt_142, mg_451, mg_592, mg_387, (by decide), ⟨by decide, by decide⟩, fun h => absurd h (by decide), fun _ => ⟨mg_452, mg_453, ⟨_, rfl, rfl⟩, 3, rfl, by decide +kernel⟩⟩⟩, List.forall_mem_cons.mpr ⟨⟨fun h => absurd h (by decide), fun _ => ⟨mp_N_negative_t, mt_143, mg_454, mg_593, mg_387, (by decide), ⟨by decide, by decide⟩, fun h => absurd h (by decide), fun _ => ⟨mg_455, mg_456, ⟨_, rfl, rfl⟩, 2, rfl, by decide +kernel⟩⟩⟩, List.forall_mem_cons.mpr ⟨⟨fun h => absurd h (by decide), fun _ => ⟨mp_N_product_t, mt_145, mg_460, mg_594, mg_387, (by decide), ⟨by decide, by decide⟩, fun h => absurd h (by decide), fun _ => ⟨mg_461, mg_462, ⟨_, rfl, rfl⟩, 3, rfl, by decide +kernel⟩⟩⟩, List.forall_mem_cons.mpr ⟨⟨fun h => absurd h (by decide), fun _ => ⟨mp_N_half_t, mt_144, mg_457, mg_595, mg_387, (by decide), ⟨by decide, by decide⟩, fun h => absurd h (by decide), fun _ => ⟨mg_458, mg_459, ⟨_, rfl, rfl⟩, 2, rfl, by decide +kernel⟩⟩⟩, List.forall_mem_cons.mpr ⟨⟨fun h => absurd h (by decide), fun _ => ⟨mp_N_inverse_t, mt_146, mg_463, mg_596, mg_387, (by decide), ⟨by decide, by decide⟩, fun h => absurd h (by decide), fun _ => ⟨mg_464, mg_465, ⟨_, rfl, rfl⟩, 2, rfl, by decide +kernel⟩⟩⟩, List.forall_mem_cons.mpr ⟨⟨fun h => absurd h (by decide), fun _ => ⟨mp_N_signOf_t, mt_147, mg_466, mg_597, mg_387, (by decide), ⟨by decide, by decide⟩, fun h => absurd h (by decide), fun _ => ⟨mg_467, mg_468, ⟨_, rfl, rfl⟩, 2, rfl, by decide +kernel⟩⟩⟩, List.forall_mem_cons.mpr ⟨⟨fun h => absurd h (by decide), fun _ => ⟨mp_N_root_t, mt_148, mg_469, mg_598, mg_387, (by decide), ⟨by decide, by decide⟩, fun h => absurd h (by decide), fun _ => ⟨mg_470, mg_471, ⟨_, rfl, rfl⟩, 2, rfl, by decide +kernel⟩⟩⟩, List.forall_mem_cons.mpr ⟨⟨fun h => absurd h (by decide), fun _ => ⟨mp_N_radicandOf_t, mt_120, mg_386, mg_600, mg_387, (by decide), ⟨by decide, by decide⟩, fun _ => ⟨mg_388, by decide +kernel⟩, fun h => absurd rfl h⟩⟩, List.forall_mem_cons.mpr ⟨⟨fun h => absurd h (by decide), fun _ => ⟨mp_N_pair_t, mt_140, mg_445, mg_602, mg_387, (by decide), ⟨by decide, by decide⟩, fun h => absurd h (by decide), fun _ => ⟨mg_446, mg_447, ⟨_, rfl, rfl⟩, 4, rfl, by decide +kernel⟩⟩⟩, List.forall_mem_cons.mpr ⟨⟨fun h => absurd h (by decide), fun _ => ⟨mp_N_rootOfFraction_t, mt_149, mg_472, mg_604, mg_387, (by decide), ⟨by decide, by decide⟩, fun h => absurd h (by decide), fun _ => ⟨mg_473, mg_474, ⟨_, rfl, rfl⟩, 1, rfl, by decide +kernel⟩⟩⟩, fun _ h => absurd h List.not_mem_nil⟩⟩⟩⟩⟩⟩⟩⟩⟩⟩⟩⟩⟩
theorem mo_N_rootOfFraction : mm_ok mm_Zb mm_Gb mm_clb mm_Tb "RootCompass$Numbers" prog_3_method_31_code mp_N_rootOfFraction := ⟨by decide +kernel, List.forall_mem_cons.mpr ⟨⟨RX1, TX1, 6, tyX1, rfl, (by decide), mi_1, tyX1_ok, nmX1, Or.inl mg_32, fun h => absurd h (by decide), fun h => absurd h (by decide)⟩, List.forall_mem_cons.mpr ⟨⟨RX1, TX1, 6, tyX1, rfl, (by decide), mi_1, tyX1_ok, nmX1, Or.inl mg_31, fun h => absurd h (by decide), fun h => absurd h (by decide)⟩, fun _ h => absurd h List.not_mem_nil⟩⟩, fun _ h => absurd h List.not_mem_nil, List.forall_mem_cons.mpr ⟨⟨fun h => absurd h (by decide), fun _ => ⟨mp_N_reserve_t, mt_138, mg_439, mg_590, mg_387, (by decide), ⟨by decide, by decide⟩, fun h => absurd h (by decide), fun _ => ⟨mg_440, mg_441, ⟨_, rfl, rfl⟩, 0, rfl, by decide +kernel⟩⟩⟩, List.forall_mem_cons.mpr ⟨⟨fun h => absurd h (by decide), fun _ => ⟨mp_N_rootOfWhole_t, mt_150, mg_475, mg_605, mg_387, (by decide), ⟨by decide, by decide⟩, fun _ => ⟨mg_476, by decide +kernel⟩, fun h => absurd rfl h⟩⟩, fun _ h => absurd h List.not_mem_nil⟩⟩⟩
theorem mo_N_rootOfWhole : mm_ok mm_Zb mm_Gb mm_clb mm_Tb "RootCompass$Numbers" prog_3_method_32_code mp_N_rootOfWhole := ⟨by decide +kernel, fun _ h => absurd h List.not_mem_nil, List.forall_mem_cons.mpr ⟨mg_37, fun _ h => absurd h List.not_mem_nil⟩, fun _ h => absurd h List.not_mem_nil⟩
theorem mo_J_compare : mm_ok mm_Zb mm_Gb mm_clb mm_Tb "java/lang/Integer" prog_10_method_40_code mp_J_compare := ⟨by decide +kernel, fun _ h => absurd h List.not_mem_nil, fun _ h => absurd h List.not_mem_nil, fun _ h => absurd h List.not_mem_nil⟩
def mm_okt (t : mm_T) : Prop := plainName t.1.cls = true ∧ mm_cd t ∈ mm_Gb ∧ mm_ok mm_Zb mm_Gb mm_clb mm_Tb t.1.cls t.2.1 t.2.2.2.2.2
theorem mq_0 : ∀ t ∈ mm_T0, mm_okt t := List.forall_mem_cons.mpr ⟨⟨by decide +kernel, mg_38, mo_C_free⟩, List.forall_mem_cons.mpr ⟨⟨by decide +kernel, mg_42, mo_C_line⟩, List.forall_mem_cons.mpr ⟨⟨by decide +kernel, mg_45, mo_C_circle⟩, List.forall_mem_cons.mpr ⟨⟨by decide +kernel, mg_48, mo_C_middle⟩, List.forall_mem_cons.mpr ⟨⟨by decide +kernel, mg_51, mo_C_meet⟩, List.forall_mem_cons.mpr ⟨⟨by decide +kernel, mg_54, mo_C_move⟩, List.forall_mem_cons.mpr ⟨⟨by decide +kernel, mg_57, mo_C_undo⟩, List.forall_mem_cons.mpr ⟨⟨by decide +kernel, mg_60, mo_C_on⟩, List.forall_mem_cons.mpr ⟨⟨by decide +kernel, mg_63, mo_C_same⟩, List.forall_mem_cons.mpr ⟨⟨by decide +kernel, mg_66, mo_C_equal⟩, List.forall_mem_cons.mpr ⟨⟨by decide +kernel, mg_69, mo_C_angle⟩, List.forall_mem_cons.mpr ⟨⟨by decide +kernel, mg_72, mo_C_side⟩, List.forall_mem_cons.mpr ⟨⟨by decide +kernel, mg_75, mo_C_sign⟩, List.forall_mem_cons.mpr ⟨⟨by decide +kernel, mg_78, mo_C_part⟩, List.forall_mem_cons.mpr ⟨⟨by decide +kernel, mg_81, mo_C_radicand⟩, List.forall_mem_cons.mpr ⟨⟨by decide +kernel, mg_84, mo_C_kind⟩, List.forall_mem_cons.mpr ⟨⟨by decide +kernel, mg_87, mo_C_look⟩, List.forall_mem_cons.mpr ⟨⟨by decide +kernel, mg_90, mo_C_countFreePoints⟩, List.forall_mem_cons.mpr ⟨⟨by decide +kernel, mg_93, mo_C_isPoint⟩, List.forall_mem_cons.mpr ⟨⟨by decide +kernel, mg_96, mo_C_isLine⟩, fun _ h => absurd h List.not_mem_nil⟩⟩⟩⟩⟩⟩⟩⟩⟩⟩⟩⟩⟩⟩⟩⟩⟩⟩⟩⟩
theorem mq_1 : ∀ t ∈ mm_T1, mm_okt t := List.forall_mem_cons.mpr ⟨⟨by decide +kernel, mg_99, mo_C_isCircle⟩, List.forall_mem_cons.mpr ⟨⟨by decide +kernel, mg_102, mo_C_isCurve⟩, List.forall_mem_cons.mpr ⟨⟨by decide +kernel, mg_105, mo_C_isPlace⟩, List.forall_mem_cons.mpr ⟨⟨by decide +kernel, mg_107, mo_C_isInput⟩, List.forall_mem_cons.mpr ⟨⟨by decide +kernel, mg_109, mo_C_addStep⟩, List.forall_mem_cons.mpr ⟨⟨by decide +kernel, mg_112, mo_C_settle⟩, List.forall_mem_cons.mpr ⟨⟨by decide +kernel, mg_115, mo_C_refuseTooWide⟩, List.forall_mem_cons.mpr ⟨⟨by decide +kernel, mg_118, mo_C_redraw⟩, List.forall_mem_cons.mpr ⟨⟨by decide +kernel, mg_121, mo_C_drawLine⟩, List.forall_mem_cons.mpr ⟨⟨by decide +kernel, mg_124, mo_C_drawCircle⟩, List.forall_mem_cons.mpr ⟨⟨by decide +kernel, mg_127, mo_C_drawMiddle⟩, List.forall_mem_cons.mpr ⟨⟨by decide +kernel, mg_130, mo_C_drawMeetingOfLines⟩, List.forall_mem_cons.mpr ⟨⟨by decide +kernel, mg_133, mo_C_takeLine⟩, List.forall_mem_cons.mpr ⟨⟨by decide +kernel, mg_136, mo_C_takeCommonLine⟩, List.forall_mem_cons.mpr ⟨⟨by decide +kernel, mg_139, mo_C_measureCut⟩, List.forall_mem_cons.mpr ⟨⟨by decide +kernel, mg_142, mo_C_drawCut⟩, List.forall_mem_cons.mpr ⟨⟨by decide +kernel, mg_145, mo_C_liesOnLine⟩, List.forall_mem_cons.mpr ⟨⟨by decide +kernel, mg_148, mo_C_coincide⟩, List.forall_mem_cons.mpr ⟨⟨by decide +kernel, mg_151, mo_C_squareOfDistance⟩, List.forall_mem_cons.mpr ⟨⟨by decide +kernel, mg_154, mo_C_place⟩, fun _ h => absurd h List.not_mem_nil⟩⟩⟩⟩⟩⟩⟩⟩⟩⟩⟩⟩⟩⟩⟩⟩⟩⟩⟩⟩
theorem mq_2 : ∀ t ∈ mm_T2, mm_okt t := List.forall_mem_cons.mpr ⟨⟨by decide +kernel, mg_157, mo_C_copyPlace⟩, List.forall_mem_cons.mpr ⟨⟨by decide +kernel, mg_160, mo_C_xOf⟩, List.forall_mem_cons.mpr ⟨⟨by decide +kernel, mg_162, mo_C_yOf⟩, List.forall_mem_cons.mpr ⟨⟨by decide +kernel, mg_164, mo_C_lineA⟩, List.forall_mem_cons.mpr ⟨⟨by decide +kernel, mg_166, mo_C_lineB⟩, List.forall_mem_cons.mpr ⟨⟨by decide +kernel, mg_168, mo_C_lineC⟩, List.forall_mem_cons.mpr ⟨⟨by decide +kernel, mg_170, mo_C_squareOf⟩, List.forall_mem_cons.mpr ⟨⟨by decide +kernel, mg_172, mo_M_thrown⟩, List.forall_mem_cons.mpr ⟨⟨by decide +kernel, mg_176, mo_M_divisor⟩, List.forall_mem_cons.mpr ⟨⟨by decide +kernel, mg_178, mo_M_put⟩, List.forall_mem_cons.mpr ⟨⟨by decide +kernel, mg_181, mo_M_add0⟩, List.forall_mem_cons.mpr ⟨⟨by decide +kernel, mg_184, mo_M_sub0⟩, List.forall_mem_cons.mpr ⟨⟨by decide +kernel, mg_187, mo_M_mul0⟩, List.forall_mem_cons.mpr ⟨⟨by decide +kernel, mg_190, mo_M_neg0⟩, List.forall_mem_cons.mpr ⟨⟨by decide +kernel, mg_193, mo_M_inv0⟩, List.forall_mem_cons.mpr ⟨⟨by decide +kernel, mg_196, mo_M_sign0⟩, List.forall_mem_cons.mpr ⟨⟨by decide +kernel, mg_199, mo_M_square⟩, List.forall_mem_cons.mpr ⟨⟨by decide +kernel, mg_201, mo_M_root0⟩, List.forall_mem_cons.mpr ⟨⟨by decide +kernel, mg_204, mo_M_set⟩, List.forall_mem_cons.mpr ⟨⟨by decide +kernel, mg_207, mo_M_add⟩, fun _ h => absurd h List.not_mem_nil⟩⟩⟩⟩⟩⟩⟩⟩⟩⟩⟩⟩⟩⟩⟩⟩⟩⟩⟩⟩
theorem mq_3 : ∀ t ∈ mm_T3, mm_okt t := List.forall_mem_cons.mpr ⟨⟨by decide +kernel, mg_210, mo_M_sub⟩, List.forall_mem_cons.mpr ⟨⟨by decide +kernel, mg_213, mo_M_neg⟩, List.forall_mem_cons.mpr ⟨⟨by decide +kernel, mg_216, mo_M_halve⟩, List.forall_mem_cons.mpr ⟨⟨by decide +kernel, mg_219, mo_M_isZero⟩, List.forall_mem_cons.mpr ⟨⟨by decide +kernel, mg_222, mo_M_alike⟩, List.forall_mem_cons.mpr ⟨⟨by decide +kernel, mg_225, mo_M_clear⟩, List.forall_mem_cons.mpr ⟨⟨by decide +kernel, mg_228, mo_M_mul1⟩, List.forall_mem_cons.mpr ⟨⟨by decide +kernel, mg_231, mo_M_norm1⟩, List.forall_mem_cons.mpr ⟨⟨by decide +kernel, mg_234, mo_M_inv1⟩, List.forall_mem_cons.mpr ⟨⟨by decide +kernel, mg_237, mo_M_sign1⟩, List.forall_mem_cons.mpr ⟨⟨by decide +kernel, mg_240, mo_M_half1⟩, List.forall_mem_cons.mpr ⟨⟨by decide +kernel, mg_243, mo_M_root1⟩, List.forall_mem_cons.mpr ⟨⟨by decide +kernel, mg_246, mo_M_mul2⟩, List.forall_mem_cons.mpr ⟨⟨by decide +kernel, mg_249, mo_M_norm2⟩, List.forall_mem_cons.mpr ⟨⟨by decide +kernel, mg_252, mo_M_inv2⟩, List.forall_mem_cons.mpr ⟨⟨by decide +kernel, mg_255, mo_M_sign2⟩, List.forall_mem_cons.mpr ⟨⟨by decide +kernel, mg_258, mo_M_half2⟩, List.forall_mem_cons.mpr ⟨⟨by decide +kernel, mg_261, mo_M_root2⟩, List.forall_mem_cons.mpr ⟨⟨by decide +kernel, mg_264, mo_M_mul⟩, List.forall_mem_cons.mpr ⟨⟨by decide +kernel, mg_267, mo_M_inv⟩, fun _ h => absurd h List.not_mem_nil⟩⟩⟩⟩⟩⟩⟩⟩⟩⟩⟩⟩⟩⟩⟩⟩⟩⟩⟩⟩
theorem mq_4 : ∀ t ∈ mm_T4, mm_okt t := List.forall_mem_cons.mpr ⟨⟨by decide +kernel, mg_270, mo_M_signOf⟩, List.forall_mem_cons.mpr ⟨⟨by decide +kernel, mg_273, mo_M_root⟩, List.forall_mem_cons.mpr ⟨⟨by decide +kernel, mg_276, mo_M_takeRoot⟩, List.forall_mem_cons.mpr ⟨⟨by decide +kernel, mg_279, mo_M_xOf⟩, List.forall_mem_cons.mpr ⟨⟨by decide +kernel, mg_281, mo_M_yOf⟩, List.forall_mem_cons.mpr ⟨⟨by decide +kernel, mg_283, mo_M_work⟩, List.forall_mem_cons.mpr ⟨⟨by decide +kernel, mg_285, mo_M_products⟩, List.forall_mem_cons.mpr ⟨⟨by decide +kernel, mg_288, mo_M_cross⟩, List.forall_mem_cons.mpr ⟨⟨by decide +kernel, mg_291, mo_M_squared⟩, List.forall_mem_cons.mpr ⟨⟨by decide +kernel, mg_294, mo_M_makeLine⟩, List.forall_mem_cons.mpr ⟨⟨by decide +kernel, mg_297, mo_M_makeMiddle⟩, List.forall_mem_cons.mpr ⟨⟨by decide +kernel, mg_300, mo_M_meetLines⟩, List.forall_mem_cons.mpr ⟨⟨by decide +kernel, mg_303, mo_M_meetCircle⟩, List.forall_mem_cons.mpr ⟨⟨by decide +kernel, mg_306, mo_M_meetCircles⟩, List.forall_mem_cons.mpr ⟨⟨by decide +kernel, mg_309, mo_M_makeMeeting⟩, List.forall_mem_cons.mpr ⟨⟨by decide +kernel, mg_312, mo_M_make⟩, List.forall_mem_cons.mpr ⟨⟨by decide +kernel, mg_315, mo_M_redraw⟩, List.forall_mem_cons.mpr ⟨⟨by decide +kernel, mg_318, mo_M_isPoint⟩, List.forall_mem_cons.mpr ⟨⟨by decide +kernel, mg_321, mo_M_kindOf⟩, List.forall_mem_cons.mpr ⟨⟨by decide +kernel, mg_324, mo_M_fresh⟩, fun _ h => absurd h List.not_mem_nil⟩⟩⟩⟩⟩⟩⟩⟩⟩⟩⟩⟩⟩⟩⟩⟩⟩⟩⟩⟩
theorem mq_5 : ∀ t ∈ mm_T5, mm_okt t := List.forall_mem_cons.mpr ⟨⟨by decide +kernel, mg_327, mo_M_isFraction⟩, List.forall_mem_cons.mpr ⟨⟨by decide +kernel, mg_329, mo_M_free⟩, List.forall_mem_cons.mpr ⟨⟨by decide +kernel, mg_332, mo_M_line⟩, List.forall_mem_cons.mpr ⟨⟨by decide +kernel, mg_335, mo_M_circle⟩, List.forall_mem_cons.mpr ⟨⟨by decide +kernel, mg_338, mo_M_middle⟩, List.forall_mem_cons.mpr ⟨⟨by decide +kernel, mg_341, mo_M_meet⟩, List.forall_mem_cons.mpr ⟨⟨by decide +kernel, mg_344, mo_M_move⟩, List.forall_mem_cons.mpr ⟨⟨by decide +kernel, mg_347, mo_M_become⟩, List.forall_mem_cons.mpr ⟨⟨by decide +kernel, mg_350, mo_M_undo⟩, List.forall_mem_cons.mpr ⟨⟨by decide +kernel, mg_353, mo_M_told⟩, List.forall_mem_cons.mpr ⟨⟨by decide +kernel, mg_356, mo_M_on⟩, List.forall_mem_cons.mpr ⟨⟨by decide +kernel, mg_359, mo_M_same⟩, List.forall_mem_cons.mpr ⟨⟨by decide +kernel, mg_362, mo_M_equal⟩, List.forall_mem_cons.mpr ⟨⟨by decide +kernel, mg_365, mo_M_angle⟩, List.forall_mem_cons.mpr ⟨⟨by decide +kernel, mg_368, mo_M_side⟩, List.forall_mem_cons.mpr ⟨⟨by decide +kernel, mg_371, mo_M_sign⟩, List.forall_mem_cons.mpr ⟨⟨by decide +kernel, mg_374, mo_M_part⟩, List.forall_mem_cons.mpr ⟨⟨by decide +kernel, mg_377, mo_M_radicand⟩, List.forall_mem_cons.mpr ⟨⟨by decide +kernel, mg_380, mo_M_kind⟩, List.forall_mem_cons.mpr ⟨⟨by decide +kernel, mg_383, mo_M_look⟩, fun _ h => absurd h List.not_mem_nil⟩⟩⟩⟩⟩⟩⟩⟩⟩⟩⟩⟩⟩⟩⟩⟩⟩⟩⟩⟩
theorem mq_6 : ∀ t ∈ mm_T6, mm_okt t := List.forall_mem_cons.mpr ⟨⟨by decide +kernel, mg_386, mo_N_radicandOf⟩, List.forall_mem_cons.mpr ⟨⟨by decide +kernel, mg_389, mo_N_home⟩, List.forall_mem_cons.mpr ⟨⟨by decide +kernel, mg_391, mo_N_begin⟩, List.forall_mem_cons.mpr ⟨⟨by decide +kernel, mg_394, mo_N_read⟩, List.forall_mem_cons.mpr ⟨⟨by decide +kernel, mg_397, mo_N_copy⟩, List.forall_mem_cons.mpr ⟨⟨by decide +kernel, mg_400, mo_N_alike⟩, List.forall_mem_cons.mpr ⟨⟨by decide +kernel, mg_403, mo_N_isNought⟩, List.forall_mem_cons.mpr ⟨⟨by decide +kernel, mg_406, mo_N_whole⟩, List.forall_mem_cons.mpr ⟨⟨by decide +kernel, mg_409, mo_N_quotient⟩, List.forall_mem_cons.mpr ⟨⟨by decide +kernel, mg_412, mo_N_plus⟩, List.forall_mem_cons.mpr ⟨⟨by decide +kernel, mg_415, mo_N_minus⟩, List.forall_mem_cons.mpr ⟨⟨by decide +kernel, mg_418, mo_N_times⟩, List.forall_mem_cons.mpr ⟨⟨by decide +kernel, mg_421, mo_N_negated⟩, List.forall_mem_cons.mpr ⟨⟨by decide +kernel, mg_424, mo_N_halved⟩, List.forall_mem_cons.mpr ⟨⟨by decide +kernel, mg_427, mo_N_inverted⟩, List.forall_mem_cons.mpr ⟨⟨by decide +kernel, mg_430, mo_N_signum⟩, List.forall_mem_cons.mpr ⟨⟨by decide +kernel, mg_433, mo_N_takeRoot⟩, List.forall_mem_cons.mpr ⟨⟨by decide +kernel, mg_436, mo_N_newLevel⟩, List.forall_mem_cons.mpr ⟨⟨by decide +kernel, mg_439, mo_N_reserve⟩, List.forall_mem_cons.mpr ⟨⟨by decide +kernel, mg_442, mo_N_put⟩, fun _ h => absurd h List.not_mem_nil⟩⟩⟩⟩⟩⟩⟩⟩⟩⟩⟩⟩⟩⟩⟩⟩⟩⟩⟩⟩
theorem mq_7 : ∀ t ∈ mm_T7, mm_okt t := List.forall_mem_cons.mpr ⟨⟨by decide +kernel, mg_445, mo_N_pair⟩, List.forall_mem_cons.mpr ⟨⟨by decide +kernel, mg_448, mo_N_isZero⟩, List.forall_mem_cons.mpr ⟨⟨by decide +kernel, mg_451, mo_N_sum⟩, List.forall_mem_cons.mpr ⟨⟨by decide +kernel, mg_454, mo_N_negative⟩, List.forall_mem_cons.mpr ⟨⟨by decide +kernel, mg_457, mo_N_half⟩, List.forall_mem_cons.mpr ⟨⟨by decide +kernel, mg_460, mo_N_product⟩, List.forall_mem_cons.mpr ⟨⟨by decide +kernel, mg_463, mo_N_inverse⟩, List.forall_mem_cons.mpr ⟨⟨by decide +kernel, mg_466, mo_N_signOf⟩, List.forall_mem_cons.mpr ⟨⟨by decide +kernel, mg_469, mo_N_root⟩, List.forall_mem_cons.mpr ⟨⟨by decide +kernel, mg_472, mo_N_rootOfFraction⟩, List.forall_mem_cons.mpr ⟨⟨by decide +kernel, mg_475, mo_N_rootOfWhole⟩, List.forall_mem_cons.mpr ⟨⟨by decide +kernel, mg_477, mo_J_compare⟩, fun _ h => absurd h List.not_mem_nil⟩⟩⟩⟩⟩⟩⟩⟩⟩⟩⟩⟩
theorem mq_all : ∀ t ∈ mm_Tb, mm_okt t := List.forall_mem_append.mpr ⟨mq_0, List.forall_mem_append.mpr ⟨mq_1, List.forall_mem_append.mpr ⟨mq_2, List.forall_mem_append.mpr ⟨mq_3, List.forall_mem_append.mpr ⟨mq_4, List.forall_mem_append.mpr ⟨mq_5, List.forall_mem_append.mpr ⟨mq_6, mq_7⟩⟩⟩⟩⟩⟩⟩
theorem mm_okTb : mm_okT mm_Zb mm_Gb mm_clb mm_Tb := ⟨mm_Gb_good, fun _ t h => mq_all t (List.mem_of_getElem? h)⟩
end
