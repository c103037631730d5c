/-- a new array of a class that is known already -/
theorem ca_newa {p : Program} {l : Launch} {e : Env} {R : Room} {s : State} {m : MethodId} {args : Array Value} {below : List Frame} {meth : Method} {c : Code} {H : Heap} {locs : List Loc} {cells slots : Nat} {Q : State → Prop} {cc : ByteArray} {pc : Nat} {ls : Array Slot} {rest : List Value} {D : va_G} {cl : List vw_C} {ws : va_W} {A : Nat → Prop} {H0 : Heap} {aC : Nat → Nat}
    (hexec : p.tables.exec = Jvm.exec) (hb : c.code = cc) {atype : ArrayType} (harr : (Cond.arrayClass (newarray.typeOf atype)).before args s = true) {ty : FieldType} (hty : newarray.typeOf atype = ty) (kx : Nat) (hkx : (mm_ty aC)[kx]? = some (aC kx, ty)) (hpr : ty = .int ∨ ty = .long) (hK : va_K D cl (mm_ty aC) s) (hP : va_P D cl ws H) (hD : va_D A ws) (hS : va_S A H0 H locs) (hA : ∀ q, H0.size ≤ q → A q)
    {n : Int32} {N' : Nat} {a0 : vp_A} (ha : ∀ cA : ClassId, vp_cell cA a0 = arrV cA N' (fun _ => defaultValue ty)) (hn : ¬ n < 0) (hN : n.toNatClampNeg = N') (hbytes : N' * componentBytes ty ≤ 536870912) (hcells : cells + 1 ≤ R.cells) (hslots : slots + N' ≤ R.slots) (hdg : decode cc pc = .ok (.newarray atype, 2))
    (kk : ∀ (q : Nat) (H1 : Heap), va_P D cl (ws ++ [(q, .inl (aC kx, a0))]) H1 → va_D A (ws ++ [(q, .inl (aC kx, a0))]) → va_S A H0 H1 locs →
      W p l e R s m args below meth c H1 locs (cells + 1) (slots + N') Q (F0 m (pc + 2) ls (.ref q :: rest))) : W p l e R s m args below meth c H locs cells slots Q (F0 m pc ls (.int n :: rest)) := by
  refine va_newa hexec hb harr hty hK hP hD hS hA ha hn hN hbytes hcells hslots hdg (fun q cA H1 hK1 hP1 hD1 hS1 => ?_)
  have h1 := (hK.2 kx _ hkx).2
  have h2 := (hK1.2 2 (cA, ty) rfl).2
  have e : cA = aC kx := by
    rcases hpr with rfl | rfl
    · have h1 : s.vm.findClass ("[" ++ FieldType.int.toString) = some (aC kx) := h1
      have h2 : s.vm.findClass ("[" ++ FieldType.int.toString) = some cA := h2
      exact Option.some.inj (h2.symm.trans h1)
    · have h1 : s.vm.findClass ("[" ++ FieldType.long.toString) = some (aC kx) := h1
      have h2 : s.vm.findClass ("[" ++ FieldType.long.toString) = some cA := h2
      exact Option.some.inj (h2.symm.trans h1)
  subst e
  exact kk q H1 hP1 hD1 hS1
theorem mk_0 : Cond.methodLink "RootCompass$Cut" 1 ⟨"java/lang/Object", "<init>", "()V"⟩ ∈ mm_Gb := mg_t1 (List.mem_of_getElem? (i := 55) (by decide +kernel)) (by decide +kernel)
theorem mk_1 : Cond.instanceMethod ⟨"java/lang/Object", "<init>", "()V"⟩ ∈ mm_Gb := mg_t1 (List.mem_of_getElem? (i := 20) (by decide +kernel)) (by decide +kernel)
theorem mk_2 : Cond.code objectInit ⟨#[0xb1]⟩ 1 none ∈ mm_Gb := mg_t1 (List.mem_of_getElem? (i := 21) rfl) (by decide +kernel)
theorem mk_3 : Cond.methodLink "RootCompass$Numbers" 3 ⟨"java/lang/Object", "<init>", "()V"⟩ ∈ mm_Gb := mg_t1 (List.mem_of_getElem? (i := 27) (by decide +kernel)) (by decide +kernel)
theorem mk_4 : Cond.fieldLink "RootCompass$Numbers" 11 "RootCompass$Numbers" "work" "I" ∈ mm_Gb := mg_t1 (List.mem_of_getElem? (i := 30) (by decide +kernel)) (by decide +kernel)
theorem mk_5 : Cond.arrayClass .int ∈ mm_Gb := mg_t1 (List.mem_of_getElem? (i := 49) (by decide +kernel)) (by decide +kernel)
theorem mk_6 : Cond.fieldLink "RootCompass$Numbers" 15 "RootCompass$Numbers" "over" "[I" ∈ mm_Gb := mg_t1 (List.mem_of_getElem? (i := 28) (by decide +kernel)) (by decide +kernel)
theorem mk_7 : Cond.fieldLink "RootCompass$Numbers" 19 "RootCompass$Numbers" "under" "[I" ∈ mm_Gb := mg_t1 (List.mem_of_getElem? (i := 29) (by decide +kernel)) (by decide +kernel)
theorem mk_8 : Cond.methodLink "RootCompass" 1 ⟨"java/lang/Object", "<init>", "()V"⟩ ∈ mm_Gb := mg_t1 (List.mem_of_getElem? (i := 19) (by decide +kernel)) (by decide +kernel)
theorem mk_9 : Cond.classLink "RootCompass" 7 "RootCompass$Numbers" ∈ mm_Gb := mg_t1 (List.mem_of_getElem? (i := 22) (by decide +kernel)) (by decide +kernel)
theorem mk_10 : Cond.instantiable "RootCompass$Numbers" 6 ∈ mm_Gb := mg_t1 (List.mem_of_getElem? (i := 23) (by decide +kernel)) (by decide +kernel)
theorem mk_11 : Cond.initialized "RootCompass$Numbers" ∈ mm_Gb := mg_t1 (List.mem_of_getElem? (i := 2) (by decide +kernel)) (by decide +kernel)
theorem mk_12 : Cond.code ⟨"RootCompass$Numbers", "<init>", "(I)V"⟩ prog_3_method_1_code 2 none ∈ mm_Gb := mg_t1 (List.mem_of_getElem? (i := 26) (by decide +kernel)) (by decide +kernel)
theorem mk_13 : Cond.instanceMethod ⟨"RootCompass$Numbers", "<init>", "(I)V"⟩ ∈ mm_Gb := mg_t1 (List.mem_of_getElem? (i := 25) (by decide +kernel)) (by decide +kernel)
theorem mk_14 : Cond.methodLink "RootCompass" 11 ⟨"RootCompass$Numbers", "<init>", "(I)V"⟩ ∈ mm_Gb := mg_t1 (List.mem_of_getElem? (i := 24) (by decide +kernel)) (by decide +kernel)
theorem mk_15 : Cond.fieldLink "RootCompass" 14 "RootCompass" "numbers" "LRootCompass$Numbers;" ∈ mm_Gb := mg_t1 (List.mem_of_getElem? (i := 78) (by decide +kernel)) (by decide +kernel)
theorem mk_16 : Cond.classLink "RootCompass" 18 "RootCompass$Cut" ∈ mm_Gb := mg_t1 (List.mem_of_getElem? (i := 50) (by decide +kernel)) (by decide +kernel)
theorem mk_17 : Cond.instantiable "RootCompass$Cut" 7 ∈ mm_Gb := mg_t1 (List.mem_of_getElem? (i := 51) (by decide +kernel)) (by decide +kernel)
theorem mk_18 : Cond.initialized "RootCompass$Cut" ∈ mm_Gb := mg_t1 (List.mem_of_getElem? (i := 3) (by decide +kernel)) (by decide +kernel)
theorem mk_19 : Cond.code ⟨"RootCompass$Cut", "<init>", "()V"⟩ prog_2_method_1_code 1 none ∈ mm_Gb := mg_t1 (List.mem_of_getElem? (i := 54) (by decide +kernel)) (by decide +kernel)
theorem mk_20 : Cond.instanceMethod ⟨"RootCompass$Cut", "<init>", "()V"⟩ ∈ mm_Gb := mg_t1 (List.mem_of_getElem? (i := 53) (by decide +kernel)) (by decide +kernel)
theorem mk_21 : Cond.fieldLink "RootCompass" 21 "RootCompass" "cut" "LRootCompass$Cut;" ∈ mm_Gb := mg_t1 (List.mem_of_getElem? (i := 79) (by decide +kernel)) (by decide +kernel)
theorem mk_22 : Cond.fieldLink "RootCompass" 25 "RootCompass" "step" "[I" ∈ mm_Gb := mg_t1 (List.mem_of_getElem? (i := 80) (by decide +kernel)) (by decide +kernel)
theorem mk_23 : Cond.fieldLink "RootCompass" 29 "RootCompass" "first" "[I" ∈ mm_Gb := mg_t1 (List.mem_of_getElem? (i := 81) (by decide +kernel)) (by decide +kernel)
theorem mk_24 : Cond.fieldLink "RootCompass" 32 "RootCompass" "second" "[I" ∈ mm_Gb := mg_t1 (List.mem_of_getElem? (i := 82) (by decide +kernel)) (by decide +kernel)
theorem mk_25 : Cond.fieldLink "RootCompass" 35 "RootCompass" "third" "[I" ∈ mm_Gb := mg_t1 (List.mem_of_getElem? (i := 83) (by decide +kernel)) (by decide +kernel)
theorem mk_26 : Cond.fieldLink "RootCompass" 38 "RootCompass" "depthBefore" "[I" ∈ mm_Gb := mg_t1 (List.mem_of_getElem? (i := 84) (by decide +kernel)) (by decide +kernel)
theorem mk_27 : Cond.fieldLink "RootCompass" 41 "RootCompass" "count" "I" ∈ mm_Gb := mg_t1 (List.mem_of_getElem? (i := 85) (by decide +kernel)) (by decide +kernel)
theorem mk_28 : Cond.fieldLink "RootCompassModel" 13 "RootCompassModel" "q" "[J" ∈ mm_Gb := mg_t3 (List.mem_of_getElem? (i := 125) (by decide +kernel)) (by decide +kernel)
theorem mk_29 : Cond.methodLink "RootCompassModel" 1 ⟨"java/lang/Object", "<init>", "()V"⟩ ∈ mm_Gb := mg_t3 (List.mem_of_getElem? (i := 118) (by decide +kernel)) (by decide +kernel)
theorem mk_30 : Cond.arrayClass .long ∈ mm_Gb := mg_t3 (List.mem_of_getElem? (i := 154) (by decide +kernel)) (by decide +kernel)
theorem mk_31 : Cond.fieldLink "RootCompassModel" 7 "RootCompassModel" "p" "[J" ∈ mm_Gb := mg_t3 (List.mem_of_getElem? (i := 124) (by decide +kernel)) (by decide +kernel)
theorem mk_32 : Cond.fieldLink "RootCompassModel" 16 "RootCompassModel" "oldP" "[J" ∈ mm_Gb := mg_t3 (List.mem_of_getElem? (i := 126) (by decide +kernel)) (by decide +kernel)
theorem mk_33 : Cond.fieldLink "RootCompassModel" 19 "RootCompassModel" "oldQ" "[J" ∈ mm_Gb := mg_t3 (List.mem_of_getElem? (i := 127) (by decide +kernel)) (by decide +kernel)
theorem mk_34 : Cond.fieldLink "RootCompassModel" 22 "RootCompassModel" "step" "[I" ∈ mm_Gb := mg_t3 (List.mem_of_getElem? (i := 129) (by decide +kernel)) (by decide +kernel)
theorem mk_35 : Cond.fieldLink "RootCompassModel" 26 "RootCompassModel" "of" "[I" ∈ mm_Gb := mg_t3 (List.mem_of_getElem? (i := 130) (by decide +kernel)) (by decide +kernel)
theorem mk_36 : Cond.constantLong "RootCompassModel" 29 2 ∈ mm_Gb := mg_t3 (List.mem_of_getElem? (i := 119) (by decide +kernel)) (by decide +kernel)
theorem dk_K_0 : decode prog_2_method_1_code 0 = .ok (.aload_n 0, 1) := by decide +kernel
theorem dk_K_1 : decode prog_2_method_1_code 1 = .ok (.invokespecial 1, 3) := by decide +kernel
theorem dk_K_4 : decode prog_2_method_1_code 4 = .ok (.return_, 1) := by decide +kernel
theorem dk_N_0 : decode prog_3_method_1_code 0 = .ok (.aload_n 0, 1) := by decide +kernel
theorem dk_N_1 : decode prog_3_method_1_code 1 = .ok (.invokespecial 3, 3) := by decide +kernel
theorem dk_N_4 : decode prog_3_method_1_code 4 = .ok (.aload_n 0, 1) := by decide +kernel
theorem dk_N_5 : decode prog_3_method_1_code 5 = .ok (.iconst 2, 1) := by decide +kernel
theorem dk_N_6 : decode prog_3_method_1_code 6 = .ok (.iload_n 1, 1) := by decide +kernel
theorem dk_N_7 : decode prog_3_method_1_code 7 = .ok (.iadd, 1) := by decide +kernel
theorem dk_N_8 : decode prog_3_method_1_code 8 = .ok (.iconst 4, 1) := by decide +kernel
theorem dk_N_9 : decode prog_3_method_1_code 9 = .ok (.imul, 1) := by decide +kernel
theorem dk_N_10 : decode prog_3_method_1_code 10 = .ok (.putfield 11, 3) := by decide +kernel
theorem dk_N_13 : decode prog_3_method_1_code 13 = .ok (.aload_n 0, 1) := by decide +kernel
theorem dk_N_14 : decode prog_3_method_1_code 14 = .ok (.aload_n 0, 1) := by decide +kernel
theorem dk_N_15 : decode prog_3_method_1_code 15 = .ok (.getfield 11, 3) := by decide +kernel
theorem dk_N_18 : decode prog_3_method_1_code 18 = .ok (.sipush 1024, 3) := by decide +kernel
theorem dk_N_21 : decode prog_3_method_1_code 21 = .ok (.iadd, 1) := by decide +kernel
theorem dk_N_22 : decode prog_3_method_1_code 22 = .ok (.newarray .int, 2) := by decide +kernel
theorem dk_N_24 : decode prog_3_method_1_code 24 = .ok (.putfield 15, 3) := by decide +kernel
theorem dk_N_27 : decode prog_3_method_1_code 27 = .ok (.aload_n 0, 1) := by decide +kernel
theorem dk_N_28 : decode prog_3_method_1_code 28 = .ok (.aload_n 0, 1) := by decide +kernel
theorem dk_N_29 : decode prog_3_method_1_code 29 = .ok (.getfield 11, 3) := by decide +kernel
theorem dk_N_32 : decode prog_3_method_1_code 32 = .ok (.sipush 1024, 3) := by decide +kernel
theorem dk_N_35 : decode prog_3_method_1_code 35 = .ok (.iadd, 1) := by decide +kernel
theorem dk_N_36 : decode prog_3_method_1_code 36 = .ok (.newarray .int, 2) := by decide +kernel
theorem dk_N_38 : decode prog_3_method_1_code 38 = .ok (.putfield 19, 3) := by decide +kernel
theorem dk_N_41 : decode prog_3_method_1_code 41 = .ok (.return_, 1) := by decide +kernel
theorem dk_C_0 : decode prog_1_method_1_code 0 = .ok (.aload_n 0, 1) := by decide +kernel
theorem dk_C_1 : decode prog_1_method_1_code 1 = .ok (.invokespecial 1, 3) := by decide +kernel
theorem dk_C_4 : decode prog_1_method_1_code 4 = .ok (.aload_n 0, 1) := by decide +kernel
theorem dk_C_5 : decode prog_1_method_1_code 5 = .ok (.new 7, 3) := by decide +kernel
theorem dk_C_8 : decode prog_1_method_1_code 8 = .ok (.dup, 1) := by decide +kernel
theorem dk_C_9 : decode prog_1_method_1_code 9 = .ok (.bipush 75, 2) := by decide +kernel
theorem dk_C_11 : decode prog_1_method_1_code 11 = .ok (.invokespecial 11, 3) := by decide +kernel
theorem dk_C_14 : decode prog_1_method_1_code 14 = .ok (.putfield 14, 3) := by decide +kernel
theorem dk_C_17 : decode prog_1_method_1_code 17 = .ok (.aload_n 0, 1) := by decide +kernel
theorem dk_C_18 : decode prog_1_method_1_code 18 = .ok (.new 18, 3) := by decide +kernel
theorem dk_C_21 : decode prog_1_method_1_code 21 = .ok (.dup, 1) := by decide +kernel
theorem dk_C_22 : decode prog_1_method_1_code 22 = .ok (.invokespecial 20, 3) := by decide +kernel
theorem dk_C_25 : decode prog_1_method_1_code 25 = .ok (.putfield 21, 3) := by decide +kernel
theorem dk_C_28 : decode prog_1_method_1_code 28 = .ok (.aload_n 0, 1) := by decide +kernel
theorem dk_C_29 : decode prog_1_method_1_code 29 = .ok (.bipush 24, 2) := by decide +kernel
theorem dk_C_31 : decode prog_1_method_1_code 31 = .ok (.newarray .int, 2) := by decide +kernel
theorem dk_C_33 : decode prog_1_method_1_code 33 = .ok (.putfield 25, 3) := by decide +kernel
theorem dk_C_36 : decode prog_1_method_1_code 36 = .ok (.aload_n 0, 1) := by decide +kernel
theorem dk_C_37 : decode prog_1_method_1_code 37 = .ok (.bipush 24, 2) := by decide +kernel
theorem dk_C_39 : decode prog_1_method_1_code 39 = .ok (.newarray .int, 2) := by decide +kernel
theorem dk_C_41 : decode prog_1_method_1_code 41 = .ok (.putfield 29, 3) := by decide +kernel
theorem dk_C_44 : decode prog_1_method_1_code 44 = .ok (.aload_n 0, 1) := by decide +kernel
theorem dk_C_45 : decode prog_1_method_1_code 45 = .ok (.bipush 24, 2) := by decide +kernel
theorem dk_C_47 : decode prog_1_method_1_code 47 = .ok (.newarray .int, 2) := by decide +kernel
theorem dk_C_49 : decode prog_1_method_1_code 49 = .ok (.putfield 32, 3) := by decide +kernel
theorem dk_C_52 : decode prog_1_method_1_code 52 = .ok (.aload_n 0, 1) := by decide +kernel
theorem dk_C_53 : decode prog_1_method_1_code 53 = .ok (.bipush 24, 2) := by decide +kernel
theorem dk_C_55 : decode prog_1_method_1_code 55 = .ok (.newarray .int, 2) := by decide +kernel
theorem dk_C_57 : decode prog_1_method_1_code 57 = .ok (.putfield 35, 3) := by decide +kernel
theorem dk_C_60 : decode prog_1_method_1_code 60 = .ok (.aload_n 0, 1) := by decide +kernel
theorem dk_C_61 : decode prog_1_method_1_code 61 = .ok (.bipush 25, 2) := by decide +kernel
theorem dk_C_63 : decode prog_1_method_1_code 63 = .ok (.newarray .int, 2) := by decide +kernel
theorem dk_C_65 : decode prog_1_method_1_code 65 = .ok (.putfield 38, 3) := by decide +kernel
theorem dk_C_68 : decode prog_1_method_1_code 68 = .ok (.aload_n 0, 1) := by decide +kernel
theorem dk_C_69 : decode prog_1_method_1_code 69 = .ok (.iconst 0, 1) := by decide +kernel
theorem dk_C_70 : decode prog_1_method_1_code 70 = .ok (.putfield 41, 3) := by decide +kernel
theorem dk_C_73 : decode prog_1_method_1_code 73 = .ok (.return_, 1) := by decide +kernel
theorem dk_M_58 : decode prog_5_method_1_code 58 = .ok (.iload_n 1, 1) := by decide +kernel
theorem dk_M_59 : decode prog_5_method_1_code 59 = .ok (.sipush 480, 3) := by decide +kernel
theorem dk_M_62 : decode prog_5_method_1_code 62 = .ok (.if_icmp .ge 16, 3) := by decide +kernel
theorem dk_M_65 : decode prog_5_method_1_code 65 = .ok (.aload_n 0, 1) := by decide +kernel
theorem dk_M_66 : decode prog_5_method_1_code 66 = .ok (.getfield 13, 3) := by decide +kernel
theorem dk_M_69 : decode prog_5_method_1_code 69 = .ok (.iload_n 1, 1) := by decide +kernel
theorem dk_M_70 : decode prog_5_method_1_code 70 = .ok (.lconst 1, 1) := by decide +kernel
theorem dk_M_71 : decode prog_5_method_1_code 71 = .ok (.lastore, 1) := by decide +kernel
theorem dk_M_72 : decode prog_5_method_1_code 72 = .ok (.iinc 1 1, 3) := by decide +kernel
theorem dk_M_75 : decode prog_5_method_1_code 75 = .ok (.goto (-17), 3) := by decide +kernel
theorem dk_M_0 : decode prog_5_method_1_code 0 = .ok (.aload_n 0, 1) := by decide +kernel
theorem dk_M_1 : decode prog_5_method_1_code 1 = .ok (.invokespecial 1, 3) := by decide +kernel
theorem dk_M_4 : decode prog_5_method_1_code 4 = .ok (.aload_n 0, 1) := by decide +kernel
theorem dk_M_5 : decode prog_5_method_1_code 5 = .ok (.sipush 480, 3) := by decide +kernel
theorem dk_M_8 : decode prog_5_method_1_code 8 = .ok (.newarray .long, 2) := by decide +kernel
theorem dk_M_10 : decode prog_5_method_1_code 10 = .ok (.putfield 7, 3) := by decide +kernel
theorem dk_M_13 : decode prog_5_method_1_code 13 = .ok (.aload_n 0, 1) := by decide +kernel
theorem dk_M_14 : decode prog_5_method_1_code 14 = .ok (.sipush 480, 3) := by decide +kernel
theorem dk_M_17 : decode prog_5_method_1_code 17 = .ok (.newarray .long, 2) := by decide +kernel
theorem dk_M_19 : decode prog_5_method_1_code 19 = .ok (.putfield 13, 3) := by decide +kernel
theorem dk_M_22 : decode prog_5_method_1_code 22 = .ok (.aload_n 0, 1) := by decide +kernel
theorem dk_M_23 : decode prog_5_method_1_code 23 = .ok (.sipush 292, 3) := by decide +kernel
theorem dk_M_26 : decode prog_5_method_1_code 26 = .ok (.newarray .long, 2) := by decide +kernel
theorem dk_M_28 : decode prog_5_method_1_code 28 = .ok (.putfield 16, 3) := by decide +kernel
theorem dk_M_31 : decode prog_5_method_1_code 31 = .ok (.aload_n 0, 1) := by decide +kernel
theorem dk_M_32 : decode prog_5_method_1_code 32 = .ok (.sipush 292, 3) := by decide +kernel
theorem dk_M_35 : decode prog_5_method_1_code 35 = .ok (.newarray .long, 2) := by decide +kernel
theorem dk_M_37 : decode prog_5_method_1_code 37 = .ok (.putfield 19, 3) := by decide +kernel
theorem dk_M_40 : decode prog_5_method_1_code 40 = .ok (.aload_n 0, 1) := by decide +kernel
theorem dk_M_41 : decode prog_5_method_1_code 41 = .ok (.bipush 24, 2) := by decide +kernel
theorem dk_M_43 : decode prog_5_method_1_code 43 = .ok (.newarray .int, 2) := by decide +kernel
theorem dk_M_45 : decode prog_5_method_1_code 45 = .ok (.putfield 22, 3) := by decide +kernel
theorem dk_M_48 : decode prog_5_method_1_code 48 = .ok (.aload_n 0, 1) := by decide +kernel
theorem dk_M_49 : decode prog_5_method_1_code 49 = .ok (.bipush 96, 2) := by decide +kernel
theorem dk_M_51 : decode prog_5_method_1_code 51 = .ok (.newarray .int, 2) := by decide +kernel
theorem dk_M_53 : decode prog_5_method_1_code 53 = .ok (.putfield 26, 3) := by decide +kernel
theorem dk_M_56 : decode prog_5_method_1_code 56 = .ok (.iconst 0, 1) := by decide +kernel
theorem dk_M_57 : decode prog_5_method_1_code 57 = .ok (.istore_n 1, 1) := by decide +kernel
theorem dk_M_78 : decode prog_5_method_1_code 78 = .ok (.aload_n 0, 1) := by decide +kernel
theorem dk_M_79 : decode prog_5_method_1_code 79 = .ok (.getfield 7, 3) := by decide +kernel
theorem dk_M_82 : decode prog_5_method_1_code 82 = .ok (.sipush 299, 3) := by decide +kernel
theorem dk_M_85 : decode prog_5_method_1_code 85 = .ok (.lconst 1, 1) := by decide +kernel
theorem dk_M_86 : decode prog_5_method_1_code 86 = .ok (.lastore, 1) := by decide +kernel
theorem dk_M_87 : decode prog_5_method_1_code 87 = .ok (.aload_n 0, 1) := by decide +kernel
theorem dk_M_88 : decode prog_5_method_1_code 88 = .ok (.getfield 13, 3) := by decide +kernel
theorem dk_M_91 : decode prog_5_method_1_code 91 = .ok (.sipush 299, 3) := by decide +kernel
theorem dk_M_94 : decode prog_5_method_1_code 94 = .ok (.ldc2_w 29, 3) := by decide +kernel
theorem dk_M_97 : decode prog_5_method_1_code 97 = .ok (.lastore, 1) := by decide +kernel
theorem dk_M_98 : decode prog_5_method_1_code 98 = .ok (.return_, 1) := by decide +kernel
set_option maxHeartbeats 400000 in
set_option maxRecDepth 100000 in
/-- Cut() -/
theorem k_K (l : Launch) (D : va_G) (aC : Nat → Nat) (h0 sz : Nat) : Met l ⟨"RootCompass$Cut", "<init>", "()V"⟩ (Cond.code ⟨"RootCompass$Cut", "<init>", "()V"⟩ prog_2_method_1_code 1 none :: mm_Gb) ({ frames := 1, cells := 0, slots := 0, locals := 12 }) (va_Pc [.ref h0] (fun U => U.heap.size = sz ∧ va_P D mm_clb [(h0, .inr (0, [.int 0, .int 0, .int 0, .int 0, .int 0, .int 0, .int 0]))] U.heap ∧ va_K D mm_clb (mm_ty aC) U ∧ va_D (fun _ => True) [(h0, .inr (0, [.int 0, .int 0, .int 0, .int 0, .int 0, .int 0, .int 0]))])) (va_Qv (fun _ : Unit => True) (fun u t => va_P D mm_clb [(h0, .inr (0, [.int 0, .int 0, .int 0, .int 0, .int 0, .int 0, .int 0]))] t.heap ∧ va_K D mm_clb (mm_ty aC) t ∧ va_D (va_A [(h0, .inr (0, [.int 0, .int 0, .int 0, .int 0, .int 0, .int 0, .int 0]))] sz) [(h0, .inr (0, [.int 0, .int 0, .int 0, .int 0, .int 0, .int 0, .int 0]))]) (va_A [(h0, .inr (0, [.int 0, .int 0, .int 0, .int 0, .int 0, .int 0, .int 0]))] sz)) 0 0 (va_A [(h0, .inr (0, [.int 0, .int 0, .int 0, .int 0, .int 0, .int 0, .int 0]))] sz) := by
  refine Met.ofW (cc := prog_2_method_1_code) (maxL := 1) (ret := none) (by decide) rfl ?_
  intro p e s m args below meth c s₁ B hml hv
  obtain ⟨rfl, hsz, hP, hK, hD0⟩ := hv
  have hx := B.exec
  have hb := B.bytes
  have hr := B.returns
  have hts := atoms_spec (ws := Cond.code ⟨"RootCompass$Cut", "<init>", "()V"⟩ prog_2_method_1_code 1 none :: mm_Gb) B.pre
  have hG : ∀ w ∈ mm_Gb, w.before [.ref h0].toArray s = true := fun w hw => hts w (List.mem_cons_of_mem _ hw)
  have hown : s.vm.findClass "RootCompass$Cut" = some m.cls := findClass_of_methodNamed B.named
  have hlocks := B.notSynchronized
  have hin : meth.name = "<init>" := (name_of_methodNamed B.named B.method).1
  subst hsz
  have hD := hD0.self (sz := s.heap.size)
  generalize hAe : va_A [(h0, .inr (0, [.int 0, .int 0, .int 0, .int 0, .int 0, .int 0, .int 0]))] s.heap.size = A at hD ⊢
  have hA : ∀ q : Nat, s.heap.size ≤ q → A q := fun q h => by rw [← hAe]; exact Or.inr h
  have hS : va_S A s.heap s.heap [] := va_S.rf
  have hP : va_P D mm_clb [(h0, .inr (0, [.int 0, .int 0, .int 0, .int 0, .int 0, .int 0, .int 0]))] s.heap := hP
  have hl := lv_entry ([.ref h0]) (n := 1) (Nat.le_of_ble_eq_true rfl)
  rw [lg_entry_eq]
  generalize (lg_sl ([.ref h0]) ++ List.replicate (1 - (lg_sl ([.ref h0])).length) Slot.unset).toArray = ls at hl ⊢
  have hl : lv_has ls 1 [(0, .ref h0)] := hl
  refine lv_aload_n hx hb dk_K_0 rfl (lv_at hl 0 rfl) ?_
  refine W.objInit hx hb hown (hG _ mk_0) (hG _ mk_1) (hG _ mk_2) rfl (by rw [hml]; exact hl.1) rfl dk_K_1 (Nat.le_of_ble_eq_true rfl) (Nat.le_of_ble_eq_true rfl) ?_
  refine W.eq (g2 := F0 m 4 ls []) rfl ?_
  have hP9 := hP.sub (ws' := [(h0, .inr (0, [.int 0, .int 0, .int 0, .int 0, .int 0, .int 0, .int 0]))]) [0] rfl
  have hD9 := hD.sub (ws' := [(h0, .inr (0, [.int 0, .int 0, .int 0, .int 0, .int 0, .int 0, .int 0]))]) [0] (by decide) rfl
  refine W.widen (k := 0) (n := 0) (Nat.le_of_ble_eq_true rfl) (Nat.le_of_ble_eq_true rfl) ?_
  exact W.vret hx hb hr (fun t ht hW => ⟨⟨(), rfl, trivial, by rw [ht]; exact hP9, va_K.moved hW.alike hK, hD9⟩, hS.F ht⟩) hS.2.2 dk_K_4 hlocks
set_option maxHeartbeats 400000 in
set_option maxRecDepth 100000 in
/-- Numbers(75) -/
theorem k_N (l : Launch) (D : va_G) (aC : Nat → Nat) (h0 sz : Nat) : Met l ⟨"RootCompass$Numbers", "<init>", "(I)V"⟩ (Cond.code ⟨"RootCompass$Numbers", "<init>", "(I)V"⟩ prog_3_method_1_code 2 none :: mm_Gb) ({ frames := 1, cells := 2, slots := 2664, locals := 16 }) (va_Pc [.ref h0, .int 75] (fun U => U.heap.size = sz ∧ va_P D mm_clb [(h0, .inr (1, [.null, .null, .int 0, .int 0, .int 0, .int 0]))] U.heap ∧ va_K D mm_clb (mm_ty aC) U ∧ va_D (fun _ => True) [(h0, .inr (1, [.null, .null, .int 0, .int 0, .int 0, .int 0]))])) (va_Qv (fun _ : Nat × Nat => True) (fun u t => va_P D mm_clb [(h0, .inr (1, [.ref u.1, .ref u.2, .int 308, .int 0, .int 0, .int 0])), (u.1, .inl (aC 0, (1332, .inl (fun _ => 0)))), (u.2, .inl (aC 0, (1332, .inl (fun _ => 0))))] t.heap ∧ va_K D mm_clb (mm_ty aC) t ∧ va_D (va_A [(h0, .inr (1, [.null, .null, .int 0, .int 0, .int 0, .int 0]))] sz) [(h0, .inr (1, [.ref u.1, .ref u.2, .int 308, .int 0, .int 0, .int 0])), (u.1, .inl (aC 0, (1332, .inl (fun _ => 0)))), (u.2, .inl (aC 0, (1332, .inl (fun _ => 0))))]) (va_A [(h0, .inr (1, [.null, .null, .int 0, .int 0, .int 0, .int 0]))] sz)) 2 2664 (va_A [(h0, .inr (1, [.null, .null, .int 0, .int 0, .int 0, .int 0]))] sz) := by
  refine Met.ofW (cc := prog_3_method_1_code) (maxL := 2) (ret := none) (by decide) rfl ?_
  intro p e s m args below meth c s₁ B hml hv
  obtain ⟨rfl, hsz, hP, hK, hD0⟩ := hv
  have hx := B.exec
  have hb := B.bytes
  have hr := B.returns
  have hts := atoms_spec (ws := Cond.code ⟨"RootCompass$Numbers", "<init>", "(I)V"⟩ prog_3_method_1_code 2 none :: mm_Gb) B.pre
  have hG : ∀ w ∈ mm_Gb, w.before [.ref h0, .int 75].toArray s = true := fun w hw => hts w (List.mem_cons_of_mem _ hw)
  have hown : s.vm.findClass "RootCompass$Numbers" = some m.cls := findClass_of_methodNamed B.named
  have hlocks := B.notSynchronized
  have hin : meth.name = "<init>" := (name_of_methodNamed B.named B.method).1
  subst hsz
  have hD := hD0.self (sz := s.heap.size)
  generalize hAe : va_A [(h0, .inr (1, [.null, .null, .int 0, .int 0, .int 0, .int 0]))] s.heap.size = A at hD ⊢
  have hA : ∀ q : Nat, s.heap.size ≤ q → A q := fun q h => by rw [← hAe]; exact Or.inr h
  have hS : va_S A s.heap s.heap [] := va_S.rf
  have hP : va_P D mm_clb [(h0, .inr (1, [.null, .null, .int 0, .int 0, .int 0, .int 0]))] s.heap := hP
  have hl := lv_entry ([.ref h0, .int 75]) (n := 2) (Nat.le_of_ble_eq_true rfl)
  rw [lg_entry_eq]
  generalize (lg_sl ([.ref h0, .int 75]) ++ List.replicate (2 - (lg_sl ([.ref h0, .int 75])).length) Slot.unset).toArray = ls at hl ⊢
  have hl : lv_has ls 2 [(0, .ref h0), (1, .int 75)] := hl
  refine lv_aload_n hx hb dk_N_0 rfl (lv_at hl 0 rfl) ?_
  refine W.objInit hx hb hown (hG _ mk_3) (hG _ mk_1) (hG _ mk_2) rfl (by rw [hml]; exact hl.1) rfl dk_N_1 (Nat.le_of_ble_eq_true rfl) (Nat.le_of_ble_eq_true rfl) ?_
  refine W.eq (g2 := F0 m 4 ls []) rfl ?_
  refine lv_aload_n hx hb dk_N_4 rfl (lv_at hl 0 rfl) ?_
  refine lv_iconst (v := 2) hx hb dk_N_5 (by decide) ?_
  refine lv_iload_n hx hb dk_N_6 rfl (lv_at hl 1 rfl) ?_
  refine lv_iadd hx hb dk_N_7 ?_
  refine lv_iconst (v := 4) hx hb dk_N_8 (by decide) ?_
  refine lv_imul hx hb dk_N_9 ?_
  refine va_putF (D := D) (ci := 1) (v := .int 308) (ty := .int) (C := RX1) (T := TX1) (N := 6) hx hb hG mi_1 tyX1 tyX1_ok nmX1 hown hK hP hD hS 0 rfl rfl 2 (by decide) (hG _ mk_4) (fun _ h9 => h9) rfl hin rfl (by decide +kernel) rfl rfl (Nat.le_of_ble_eq_true rfl) dk_N_10 (fun H locs hP hD hS => ?_)
  have hP : va_P D mm_clb [(h0, .inr (1, [.null, .null, .int 308, .int 0, .int 0, .int 0]))] H := hP
  have hD : va_D A [(h0, .inr (1, [.null, .null, .int 308, .int 0, .int 0, .int 0]))] := hD
  refine lv_aload_n hx hb dk_N_13 rfl (lv_at hl 0 rfl) ?_
  refine lv_aload_n hx hb dk_N_14 rfl (lv_at hl 0 rfl) ?_
  refine va_get (D := D) (ci := 1) (v := .int 308) (C := RX1) (T := TX1) (N := 6) hx hb hG mi_1 hown hK hP 0 rfl rfl 2 (by decide) (hG _ mk_4) (fun _ h9 => h9) rfl dk_N_15 ?_
  refine lv_sipush (v := 1024) hx hb dk_N_18 (by decide) ?_
  refine lv_iadd hx hb dk_N_21 ?_
  refine ca_newa (atype := .int) (n := 1332) (N' := 1332) (a0 := (1332, .inl (fun _ => 0))) hx hb (hG _ mk_5) rfl 0 rfl (by first | exact Or.inl rfl | exact Or.inr rfl) hK hP hD hS hA (fun _ => rfl) (by decide) (by decide) (by decide) (Nat.le_of_ble_eq_true rfl) (Nat.le_of_ble_eq_true rfl) dk_N_22 (fun qo H hP hD hS => ?_)
  have hP : va_P D mm_clb [(h0, .inr (1, [.null, .null, .int 308, .int 0, .int 0, .int 0])), (qo, .inl (aC 0, (1332, .inl (fun _ => 0))))] H := hP
  have hD : va_D A [(h0, .inr (1, [.null, .null, .int 308, .int 0, .int 0, .int 0])), (qo, .inl (aC 0, (1332, .inl (fun _ => 0))))] := hD
  refine va_putF (D := D) (ci := 1) (v := .ref qo) (ty := .array .int) (C := RX1) (T := TX1) (N := 6) hx hb hG mi_1 tyX1 tyX1_ok nmX1 hown hK hP hD hS 0 rfl rfl 0 (by decide) (hG _ mk_6) (fun _ h9 => h9) rfl hin rfl (by decide +kernel) rfl rfl (Nat.le_of_ble_eq_true rfl) dk_N_24 (fun H locs hP hD hS => ?_)
  have hP : va_P D mm_clb [(h0, .inr (1, [.ref qo, .null, .int 308, .int 0, .int 0, .int 0])), (qo, .inl (aC 0, (1332, .inl (fun _ => 0))))] H := hP
  have hD : va_D A [(h0, .inr (1, [.ref qo, .null, .int 308, .int 0, .int 0, .int 0])), (qo, .inl (aC 0, (1332, .inl (fun _ => 0))))] := hD
  refine lv_aload_n hx hb dk_N_27 rfl (lv_at hl 0 rfl) ?_
  refine lv_aload_n hx hb dk_N_28 rfl (lv_at hl 0 rfl) ?_
  refine va_get (D := D) (ci := 1) (v := .int 308) (C := RX1) (T := TX1) (N := 6) hx hb hG mi_1 hown hK hP 0 rfl rfl 2 (by decide) (hG _ mk_4) (fun _ h9 => h9) rfl dk_N_29 ?_
  refine lv_sipush (v := 1024) hx hb dk_N_32 (by decide) ?_
  refine lv_iadd hx hb dk_N_35 ?_
  refine ca_newa (atype := .int) (n := 1332) (N' := 1332) (a0 := (1332, .inl (fun _ => 0))) hx hb (hG _ mk_5) rfl 0 rfl (by first | exact Or.inl rfl | exact Or.inr rfl) hK hP hD hS hA (fun _ => rfl) (by decide) (by decide) (by decide) (Nat.le_of_ble_eq_true rfl) (Nat.le_of_ble_eq_true rfl) dk_N_36 (fun qu H hP hD hS => ?_)
  have hP : va_P D mm_clb [(h0, .inr (1, [.ref qo, .null, .int 308, .int 0, .int 0, .int 0])), (qo, .inl (aC 0, (1332, .inl (fun _ => 0)))), (qu, .inl (aC 0, (1332, .inl (fun _ => 0))))] H := hP
  have hD : va_D A [(h0, .inr (1, [.ref qo, .null, .int 308, .int 0, .int 0, .int 0])), (qo, .inl (aC 0, (1332, .inl (fun _ => 0)))), (qu, .inl (aC 0, (1332, .inl (fun _ => 0))))] := hD
  refine va_putF (D := D) (ci := 1) (v := .ref qu) (ty := .array .int) (C := RX1) (T := TX1) (N := 6) hx hb hG mi_1 tyX1 tyX1_ok nmX1 hown hK hP hD hS 0 rfl rfl 1 (by decide) (hG _ mk_7) (fun _ h9 => h9) rfl hin rfl (by decide +kernel) rfl rfl (Nat.le_of_ble_eq_true rfl) dk_N_38 (fun H locs hP hD hS => ?_)
  have hP : va_P D mm_clb [(h0, .inr (1, [.ref qo, .ref qu, .int 308, .int 0, .int 0, .int 0])), (qo, .inl (aC 0, (1332, .inl (fun _ => 0)))), (qu, .inl (aC 0, (1332, .inl (fun _ => 0))))] H := hP
  have hD : va_D A [(h0, .inr (1, [.ref qo, .ref qu, .int 308, .int 0, .int 0, .int 0])), (qo, .inl (aC 0, (1332, .inl (fun _ => 0)))), (qu, .inl (aC 0, (1332, .inl (fun _ => 0))))] := hD
  have hP9 := hP.sub (ws' := [(h0, .inr (1, [.ref qo, .ref qu, .int 308, .int 0, .int 0, .int 0])), (qo, .inl (aC 0, (1332, .inl (fun _ => 0)))), (qu, .inl (aC 0, (1332, .inl (fun _ => 0))))]) [0, 1, 2] rfl
  have hD9 := hD.sub (ws' := [(h0, .inr (1, [.ref qo, .ref qu, .int 308, .int 0, .int 0, .int 0])), (qo, .inl (aC 0, (1332, .inl (fun _ => 0)))), (qu, .inl (aC 0, (1332, .inl (fun _ => 0))))]) [0, 1, 2] (by decide) rfl
  refine W.widen (k := 2) (n := 2664) (Nat.le_of_ble_eq_true rfl) (Nat.le_of_ble_eq_true rfl) ?_
  exact W.vret hx hb hr (fun t ht hW => ⟨⟨(qo, qu), rfl, trivial, by rw [ht]; exact hP9, va_K.moved hW.alike hK, hD9⟩, hS.F ht⟩) hS.2.2 dk_N_41 hlocks
set_option maxHeartbeats 400000 in
set_option maxRecDepth 100000 in
/-- RootCompass() -/
theorem k_C (l : Launch) (D : va_G) (aC : Nat → Nat) (h0 sz : Nat) : Met l ⟨"RootCompass", "<init>", "()V"⟩ (Cond.code ⟨"RootCompass", "<init>", "()V"⟩ prog_1_method_1_code 1 none :: mm_Gb) ({ frames := 3, cells := 9, slots := 2798, locals := 64 }) (va_Pc [.ref h0] (fun U => U.heap.size = sz ∧ va_P D mm_clb [(h0, .inr (2, [.null, .null, .null, .null, .null, .null, .null, .int 0]))] U.heap ∧ va_K D mm_clb (mm_ty aC) U ∧ va_D (fun _ => True) [(h0, .inr (2, [.null, .null, .null, .null, .null, .null, .null, .int 0]))] ∧ va_Nw (.methodLinkNest "RootCompass" 20 ⟨"RootCompass$Cut", "<init>", "()V"⟩ "RootCompass") U)) (va_Qv (fun _ : Nat × Nat × Nat × Nat × Nat × Nat × Nat × Nat × Nat => True) (fun u t => va_P D mm_clb [(h0, .inr (2, [.ref u.1, .ref u.2.1, .ref u.2.2.1, .ref u.2.2.2.1, .ref u.2.2.2.2.1, .ref u.2.2.2.2.2.1, .ref u.2.2.2.2.2.2.1, .int 0])), (u.1, .inr (1, [.ref u.2.2.2.2.2.2.2.1, .ref u.2.2.2.2.2.2.2.2, .int 308, .int 0, .int 0, .int 0])), (u.2.1, .inr (0, [.int 0, .int 0, .int 0, .int 0, .int 0, .int 0, .int 0])), (u.2.2.1, .inl (aC 0, (24, .inl (fun _ => 0)))), (u.2.2.2.1, .inl (aC 0, (24, .inl (fun _ => 0)))), (u.2.2.2.2.1, .inl (aC 0, (24, .inl (fun _ => 0)))), (u.2.2.2.2.2.1, .inl (aC 0, (24, .inl (fun _ => 0)))), (u.2.2.2.2.2.2.1, .inl (aC 0, (25, .inl (fun _ => 0)))), (u.2.2.2.2.2.2.2.1, .inl (aC 0, (1332, .inl (fun _ => 0)))), (u.2.2.2.2.2.2.2.2, .inl (aC 0, (1332, .inl (fun _ => 0))))] t.heap ∧ va_K D mm_clb (mm_ty aC) t ∧ va_D (va_A [(h0, .inr (2, [.null, .null, .null, .null, .null, .null, .null, .int 0]))] sz) [(h0, .inr (2, [.ref u.1, .ref u.2.1, .ref u.2.2.1, .ref u.2.2.2.1, .ref u.2.2.2.2.1, .ref u.2.2.2.2.2.1, .ref u.2.2.2.2.2.2.1, .int 0])), (u.1, .inr (1, [.ref u.2.2.2.2.2.2.2.1, .ref u.2.2.2.2.2.2.2.2, .int 308, .int 0, .int 0, .int 0])), (u.2.1, .inr (0, [.int 0, .int 0, .int 0, .int 0, .int 0, .int 0, .int 0])), (u.2.2.1, .inl (aC 0, (24, .inl (fun _ => 0)))), (u.2.2.2.1, .inl (aC 0, (24, .inl (fun _ => 0)))), (u.2.2.2.2.1, .inl (aC 0, (24, .inl (fun _ => 0)))), (u.2.2.2.2.2.1, .inl (aC 0, (24, .inl (fun _ => 0)))), (u.2.2.2.2.2.2.1, .inl (aC 0, (25, .inl (fun _ => 0)))), (u.2.2.2.2.2.2.2.1, .inl (aC 0, (1332, .inl (fun _ => 0)))), (u.2.2.2.2.2.2.2.2, .inl (aC 0, (1332, .inl (fun _ => 0))))]) (va_A [(h0, .inr (2, [.null, .null, .null, .null, .null, .null, .null, .int 0]))] sz)) 9 2798 (va_A [(h0, .inr (2, [.null, .null, .null, .null, .null, .null, .null, .int 0]))] sz) := by
  refine Met.ofW (cc := prog_1_method_1_code) (maxL := 1) (ret := none) (by decide) rfl ?_
  intro p e s m args below meth c s₁ B hml hv
  obtain ⟨rfl, hsz, hP, hK, hD0, hnest⟩ := hv
  have hx := B.exec
  have hb := B.bytes
  have hr := B.returns
  have hts := atoms_spec (ws := Cond.code ⟨"RootCompass", "<init>", "()V"⟩ prog_1_method_1_code 1 none :: mm_Gb) B.pre
  have hG : ∀ w ∈ mm_Gb, w.before [.ref h0].toArray s = true := fun w hw => hts w (List.mem_cons_of_mem _ hw)
  have hown : s.vm.findClass "RootCompass" = some m.cls := findClass_of_methodNamed B.named
  have hlocks := B.notSynchronized
  have hin : meth.name = "<init>" := (name_of_methodNamed B.named B.method).1
  subst hsz
  have hD := hD0.self (sz := s.heap.size)
  generalize hAe : va_A [(h0, .inr (2, [.null, .null, .null, .null, .null, .null, .null, .int 0]))] s.heap.size = A at hD ⊢
  have hA : ∀ q : Nat, s.heap.size ≤ q → A q := fun q h => by rw [← hAe]; exact Or.inr h
  have hS : va_S A s.heap s.heap [] := va_S.rf
  have hP : va_P D mm_clb [(h0, .inr (2, [.null, .null, .null, .null, .null, .null, .null, .int 0]))] s.heap := hP
  have hl := lv_entry ([.ref h0]) (n := 1) (Nat.le_of_ble_eq_true rfl)
  rw [lg_entry_eq]
  generalize (lg_sl ([.ref h0]) ++ List.replicate (1 - (lg_sl ([.ref h0])).length) Slot.unset).toArray = ls at hl ⊢
  have hl : lv_has ls 1 [(0, .ref h0)] := hl
  refine lv_aload_n hx hb dk_C_0 rfl (lv_at hl 0 rfl) ?_
  refine W.objInit hx hb hown (hG _ mk_8) (hG _ mk_1) (hG _ mk_2) rfl (by rw [hml]; exact hl.1) rfl dk_C_1 (Nat.le_of_ble_eq_true rfl) (Nat.le_of_ble_eq_true rfl) ?_
  refine W.eq (g2 := F0 m 4 ls []) rfl ?_
  refine lv_aload_n hx hb dk_C_4 rfl (lv_at hl 0 rfl) ?_
  refine va_new (ci := 1) (fs := [.null, .null, .int 0, .int 0, .int 0, .int 0]) (C := RX1) (T := TX1) (N := 6) hx hb hG mi_1 tyX1 tyX1_ok hown (hG _ mk_9) (hG _ mk_10) (hG _ mk_11) hK hP hD hS hA rfl (by decide) (Nat.le_of_ble_eq_true rfl) (Nat.le_of_ble_eq_true rfl) dk_C_5 (fun qn H hP hD hS => ?_)
  have hP : va_P D mm_clb [(h0, .inr (2, [.null, .null, .null, .null, .null, .null, .null, .int 0])), (qn, .inr (1, [.null, .null, .int 0, .int 0, .int 0, .int 0]))] H := hP
  have hD : va_D A [(h0, .inr (2, [.null, .null, .null, .null, .null, .null, .null, .int 0])), (qn, .inr (1, [.null, .null, .int 0, .int 0, .int 0, .int 0]))] := hD
  refine lv_dup hx hb dk_C_8 rfl ?_
  refine lv_bipush (v := 75) hx hb dk_C_9 (by decide) ?_
  have hPc := hP.sub (ws' := [(qn, .inr (1, [.null, .null, .int 0, .int 0, .int 0, .int 0]))]) [1] rfl
  have hDc := hD.sub (ws' := [(qn, .inr (1, [.null, .null, .int 0, .int 0, .int 0, .int 0]))]) [1] (by decide) rfl
  have hFc := va_free (wc := [(qn, .inr (1, [.null, .null, .int 0, .int 0, .int 0, .int 0]))]) hD hS hA [1] rfl
  refine va_callv (va_runI (As := [.int 75]) (rest := [.ref qn, .ref h0]) ⟨hx, hb, hml, hown, hG⟩ (k_N l D aC qn H.size) (cwI 1 hG (mm_goodS mm_Gb_good (fun w hw => (List.mem_cons.mp hw).elim (fun e9 => by rw [e9]; exact mk_12) id)) rfl rfl rfl (hG _ mk_11) (hG _ mk_14) (hG _ mk_13) rfl (by decide +kernel) ⟨Nat.le_of_ble_eq_true rfl, Nat.le_of_ble_eq_true rfl⟩) ⟨fun a U g mk q => by obtain ⟨q0, q1, qP, qK, qD⟩ := q; exact ⟨q0, q1, qP, va_K.moved (u := U) (U := U.calling g mk a) (Vm.Alike.refl U.vm) qK, qD⟩, fun U hU hW => ⟨rfl, by rw [hU], by rw [hU]; exact hPc, va_K.moved hW.alike hK, hDc.weaken (fun _ _ _ _ => trivial)⟩⟩ rfl rfl hl.1 rfl (lv_room (Nat.le_of_ble_eq_true rfl)) dk_C_11 ⟨Nat.le_of_ble_eq_true rfl, Nat.le_of_ble_eq_true rfl⟩) hS (fun q _ h => hFc q h) hFc (fun u t H1 locs ht hvm _ hB hz1 hk1 hS => ?_)
  obtain ⟨qo, qu⟩ := u
  obtain ⟨hP1, hK1, hD1⟩ := hB
  rw [ht] at hP1
  obtain ⟨hP, hD⟩ := va_join (wr := [(h0, .inr (2, [.null, .null, .null, .null, .null, .null, .null, .int 0]))]) (w1 := [(qn, .inr (1, [.ref qo, .ref qu, .int 308, .int 0, .int 0, .int 0])), (qo, .inl (aC 0, (1332, .inl (fun _ => 0)))), (qu, .inl (aC 0, (1332, .inl (fun _ => 0))))]) hP hD [1] [0] rfl rfl (by decide) (by decide) hk1 hFc hP1 hD1
  generalize H1 = H at hP hS ⊢
  have hP : va_P D mm_clb [(h0, .inr (2, [.null, .null, .null, .null, .null, .null, .null, .int 0])), (qn, .inr (1, [.ref qo, .ref qu, .int 308, .int 0, .int 0, .int 0])), (qo, .inl (aC 0, (1332, .inl (fun _ => 0)))), (qu, .inl (aC 0, (1332, .inl (fun _ => 0))))] H := hP
  have hD : va_D A [(h0, .inr (2, [.null, .null, .null, .null, .null, .null, .null, .int 0])), (qn, .inr (1, [.ref qo, .ref qu, .int 308, .int 0, .int 0, .int 0])), (qo, .inl (aC 0, (1332, .inl (fun _ => 0)))), (qu, .inl (aC 0, (1332, .inl (fun _ => 0))))] := hD
  refine va_putF (D := D) (ci := 2) (v := .ref qn) (ty := .object "RootCompass$Numbers") (C := RX2) (T := TX2) (N := 8) hx hb hG mi_2 tyX2 tyX2_ok nmX2 hown hK hP hD hS 0 rfl rfl 0 (by decide) (hG _ mk_15) (fun _ h9 => h9) rfl hin rfl (by decide +kernel) rfl rfl (Nat.le_of_ble_eq_true rfl) dk_C_14 (fun H locs hP hD hS => ?_)
  have hP : va_P D mm_clb [(h0, .inr (2, [.ref qn, .null, .null, .null, .null, .null, .null, .int 0])), (qn, .inr (1, [.ref qo, .ref qu, .int 308, .int 0, .int 0, .int 0])), (qo, .inl (aC 0, (1332, .inl (fun _ => 0)))), (qu, .inl (aC 0, (1332, .inl (fun _ => 0))))] H := hP
  have hD : va_D A [(h0, .inr (2, [.ref qn, .null, .null, .null, .null, .null, .null, .int 0])), (qn, .inr (1, [.ref qo, .ref qu, .int 308, .int 0, .int 0, .int 0])), (qo, .inl (aC 0, (1332, .inl (fun _ => 0)))), (qu, .inl (aC 0, (1332, .inl (fun _ => 0))))] := hD
  refine lv_aload_n hx hb dk_C_17 rfl (lv_at hl 0 rfl) ?_
  refine va_new (ci := 0) (fs := [.int 0, .int 0, .int 0, .int 0, .int 0, .int 0, .int 0]) (C := RX0) (T := TX0) (N := 7) hx hb hG mi_0 tyX0 tyX0_ok hown (hG _ mk_16) (hG _ mk_17) (hG _ mk_18) hK hP hD hS hA rfl (by decide) (Nat.le_of_ble_eq_true rfl) (Nat.le_of_ble_eq_true rfl) dk_C_18 (fun qc H hP hD hS => ?_)
  have hP : va_P D mm_clb [(h0, .inr (2, [.ref qn, .null, .null, .null, .null, .null, .null, .int 0])), (qn, .inr (1, [.ref qo, .ref qu, .int 308, .int 0, .int 0, .int 0])), (qo, .inl (aC 0, (1332, .inl (fun _ => 0)))), (qu, .inl (aC 0, (1332, .inl (fun _ => 0)))), (qc, .inr (0, [.int 0, .int 0, .int 0, .int 0, .int 0, .int 0, .int 0]))] H := hP
  have hD : va_D A [(h0, .inr (2, [.ref qn, .null, .null, .null, .null, .null, .null, .int 0])), (qn, .inr (1, [.ref qo, .ref qu, .int 308, .int 0, .int 0, .int 0])), (qo, .inl (aC 0, (1332, .inl (fun _ => 0)))), (qu, .inl (aC 0, (1332, .inl (fun _ => 0)))), (qc, .inr (0, [.int 0, .int 0, .int 0, .int 0, .int 0, .int 0, .int 0]))] := hD
  refine lv_dup hx hb dk_C_21 rfl ?_
  have hPc := hP.sub (ws' := [(qc, .inr (0, [.int 0, .int 0, .int 0, .int 0, .int 0, .int 0, .int 0]))]) [4] rfl
  have hDc := hD.sub (ws' := [(qc, .inr (0, [.int 0, .int 0, .int 0, .int 0, .int 0, .int 0, .int 0]))]) [4] (by decide) rfl
  have hFc := va_free (wc := [(qc, .inr (0, [.int 0, .int 0, .int 0, .int 0, .int 0, .int 0, .int 0]))]) hD hS hA [4] rfl
  refine va_callv (va_runIN (As := []) (rest := [.ref qc, .ref h0]) ⟨hx, hb, hml, hown, hG⟩ (k_K l D aC qc H.size) ⟨va_cnB 0 hG (mm_goodS mm_Gb_good (fun w hw => (List.mem_cons.mp hw).elim (fun e9 => by rw [e9]; exact mk_19) id)) rfl rfl rfl hnest (hG _ mk_18) (by decide +kernel) ⟨Nat.le_of_ble_eq_true rfl, Nat.le_of_ble_eq_true rfl⟩, rfl, (hG _ mk_20)⟩ ⟨fun a U g mk q => by obtain ⟨q0, q1, qP, qK, qD⟩ := q; exact ⟨q0, q1, qP, va_K.moved (u := U) (U := U.calling g mk a) (Vm.Alike.refl U.vm) qK, qD⟩, fun U hU hW => ⟨rfl, by rw [hU], by rw [hU]; exact hPc, va_K.moved hW.alike hK, hDc.weaken (fun _ _ _ _ => trivial)⟩⟩ rfl rfl hl.1 rfl (lv_room (Nat.le_of_ble_eq_true rfl)) dk_C_22 ⟨Nat.le_of_ble_eq_true rfl, Nat.le_of_ble_eq_true rfl⟩) hS (fun q _ h => hFc q h) hFc (fun u t H1 locs ht hvm _ hB hz1 hk1 hS => ?_)
  obtain ⟨hP1, hK1, hD1⟩ := hB
  rw [ht] at hP1
  obtain ⟨hP, hD⟩ := va_join (wr := [(h0, .inr (2, [.ref qn, .null, .null, .null, .null, .null, .null, .int 0])), (qn, .inr (1, [.ref qo, .ref qu, .int 308, .int 0, .int 0, .int 0])), (qo, .inl (aC 0, (1332, .inl (fun _ => 0)))), (qu, .inl (aC 0, (1332, .inl (fun _ => 0))))]) (w1 := [(qc, .inr (0, [.int 0, .int 0, .int 0, .int 0, .int 0, .int 0, .int 0]))]) hP hD [4] [0, 1, 2, 3] rfl rfl (by decide) (by decide) hk1 hFc hP1 hD1
  generalize H1 = H at hP hS ⊢
  have hP : va_P D mm_clb [(h0, .inr (2, [.ref qn, .null, .null, .null, .null, .null, .null, .int 0])), (qn, .inr (1, [.ref qo, .ref qu, .int 308, .int 0, .int 0, .int 0])), (qo, .inl (aC 0, (1332, .inl (fun _ => 0)))), (qu, .inl (aC 0, (1332, .inl (fun _ => 0)))), (qc, .inr (0, [.int 0, .int 0, .int 0, .int 0, .int 0, .int 0, .int 0]))] H := hP
  have hD : va_D A [(h0, .inr (2, [.ref qn, .null, .null, .null, .null, .null, .null, .int 0])), (qn, .inr (1, [.ref qo, .ref qu, .int 308, .int 0, .int 0, .int 0])), (qo, .inl (aC 0, (1332, .inl (fun _ => 0)))), (qu, .inl (aC 0, (1332, .inl (fun _ => 0)))), (qc, .inr (0, [.int 0, .int 0, .int 0, .int 0, .int 0, .int 0, .int 0]))] := hD
  refine va_putF (D := D) (ci := 2) (v := .ref qc) (ty := .object "RootCompass$Cut") (C := RX2) (T := TX2) (N := 8) hx hb hG mi_2 tyX2 tyX2_ok nmX2 hown hK hP hD hS 0 rfl rfl 1 (by decide) (hG _ mk_21) (fun _ h9 => h9) rfl hin rfl (by decide +kernel) rfl rfl (Nat.le_of_ble_eq_true rfl) dk_C_25 (fun H locs hP hD hS => ?_)
  have hP : va_P D mm_clb [(h0, .inr (2, [.ref qn, .ref qc, .null, .null, .null, .null, .null, .int 0])), (qn, .inr (1, [.ref qo, .ref qu, .int 308, .int 0, .int 0, .int 0])), (qo, .inl (aC 0, (1332, .inl (fun _ => 0)))), (qu, .inl (aC 0, (1332, .inl (fun _ => 0)))), (qc, .inr (0, [.int 0, .int 0, .int 0, .int 0, .int 0, .int 0, .int 0]))] H := hP
  have hD : va_D A [(h0, .inr (2, [.ref qn, .ref qc, .null, .null, .null, .null, .null, .int 0])), (qn, .inr (1, [.ref qo, .ref qu, .int 308, .int 0, .int 0, .int 0])), (qo, .inl (aC 0, (1332, .inl (fun _ => 0)))), (qu, .inl (aC 0, (1332, .inl (fun _ => 0)))), (qc, .inr (0, [.int 0, .int 0, .int 0, .int 0, .int 0, .int 0, .int 0]))] := hD
  refine lv_aload_n hx hb dk_C_28 rfl (lv_at hl 0 rfl) ?_
  refine lv_bipush (v := 24) hx hb dk_C_29 (by decide) ?_
  refine ca_newa (atype := .int) (n := 24) (N' := 24) (a0 := (24, .inl (fun _ => 0))) hx hb (hG _ mk_5) rfl 0 rfl (by first | exact Or.inl rfl | exact Or.inr rfl) hK hP hD hS hA (fun _ => rfl) (by decide) (by decide) (by decide) (Nat.le_of_ble_eq_true rfl) (Nat.le_of_ble_eq_true rfl) dk_C_31 (fun qs H hP hD hS => ?_)
  have hP : va_P D mm_clb [(h0, .inr (2, [.ref qn, .ref qc, .null, .null, .null, .null, .null, .int 0])), (qn, .inr (1, [.ref qo, .ref qu, .int 308, .int 0, .int 0, .int 0])), (qo, .inl (aC 0, (1332, .inl (fun _ => 0)))), (qu, .inl (aC 0, (1332, .inl (fun _ => 0)))), (qc, .inr (0, [.int 0, .int 0, .int 0, .int 0, .int 0, .int 0, .int 0])), (qs, .inl (aC 0, (24, .inl (fun _ => 0))))] H := hP
  have hD : va_D A [(h0, .inr (2, [.ref qn, .ref qc, .null, .null, .null, .null, .null, .int 0])), (qn, .inr (1, [.ref qo, .ref qu, .int 308, .int 0, .int 0, .int 0])), (qo, .inl (aC 0, (1332, .inl (fun _ => 0)))), (qu, .inl (aC 0, (1332, .inl (fun _ => 0)))), (qc, .inr (0, [.int 0, .int 0, .int 0, .int 0, .int 0, .int 0, .int 0])), (qs, .inl (aC 0, (24, .inl (fun _ => 0))))] := hD
  refine va_putF (D := D) (ci := 2) (v := .ref qs) (ty := .array .int) (C := RX2) (T := TX2) (N := 8) hx hb hG mi_2 tyX2 tyX2_ok nmX2 hown hK hP hD hS 0 rfl rfl 2 (by decide) (hG _ mk_22) (fun _ h9 => h9) rfl hin rfl (by decide +kernel) rfl rfl (Nat.le_of_ble_eq_true rfl) dk_C_33 (fun H locs hP hD hS => ?_)
  have hP : va_P D mm_clb [(h0, .inr (2, [.ref qn, .ref qc, .ref qs, .null, .null, .null, .null, .int 0])), (qn, .inr (1, [.ref qo, .ref qu, .int 308, .int 0, .int 0, .int 0])), (qo, .inl (aC 0, (1332, .inl (fun _ => 0)))), (qu, .inl (aC 0, (1332, .inl (fun _ => 0)))), (qc, .inr (0, [.int 0, .int 0, .int 0, .int 0, .int 0, .int 0, .int 0])), (qs, .inl (aC 0, (24, .inl (fun _ => 0))))] H := hP
  have hD : va_D A [(h0, .inr (2, [.ref qn, .ref qc, .ref qs, .null, .null, .null, .null, .int 0])), (qn, .inr (1, [.ref qo, .ref qu, .int 308, .int 0, .int 0, .int 0])), (qo, .inl (aC 0, (1332, .inl (fun _ => 0)))), (qu, .inl (aC 0, (1332, .inl (fun _ => 0)))), (qc, .inr (0, [.int 0, .int 0, .int 0, .int 0, .int 0, .int 0, .int 0])), (qs, .inl (aC 0, (24, .inl (fun _ => 0))))] := hD
  refine lv_aload_n hx hb dk_C_36 rfl (lv_at hl 0 rfl) ?_
  refine lv_bipush (v := 24) hx hb dk_C_37 (by decide) ?_
  refine ca_newa (atype := .int) (n := 24) (N' := 24) (a0 := (24, .inl (fun _ => 0))) hx hb (hG _ mk_5) rfl 0 rfl (by first | exact Or.inl rfl | exact Or.inr rfl) hK hP hD hS hA (fun _ => rfl) (by decide) (by decide) (by decide) (Nat.le_of_ble_eq_true rfl) (Nat.le_of_ble_eq_true rfl) dk_C_39 (fun qf H hP hD hS => ?_)
  have hP : va_P D mm_clb [(h0, .inr (2, [.ref qn, .ref qc, .ref qs, .null, .null, .null, .null, .int 0])), (qn, .inr (1, [.ref qo, .ref qu, .int 308, .int 0, .int 0, .int 0])), (qo, .inl (aC 0, (1332, .inl (fun _ => 0)))), (qu, .inl (aC 0, (1332, .inl (fun _ => 0)))), (qc, .inr (0, [.int 0, .int 0, .int 0, .int 0, .int 0, .int 0, .int 0])), (qs, .inl (aC 0, (24, .inl (fun _ => 0)))), (qf, .inl (aC 0, (24, .inl (fun _ => 0))))] H := hP
  have hD : va_D A [(h0, .inr (2, [.ref qn, .ref qc, .ref qs, .null, .null, .null, .null, .int 0])), (qn, .inr (1, [.ref qo, .ref qu, .int 308, .int 0, .int 0, .int 0])), (qo, .inl (aC 0, (1332, .inl (fun _ => 0)))), (qu, .inl (aC 0, (1332, .inl (fun _ => 0)))), (qc, .inr (0, [.int 0, .int 0, .int 0, .int 0, .int 0, .int 0, .int 0])), (qs, .inl (aC 0, (24, .inl (fun _ => 0)))), (qf, .inl (aC 0, (24, .inl (fun _ => 0))))] := hD
  refine va_putF (D := D) (ci := 2) (v := .ref qf) (ty := .array .int) (C := RX2) (T := TX2) (N := 8) hx hb hG mi_2 tyX2 tyX2_ok nmX2 hown hK hP hD hS 0 rfl rfl 3 (by decide) (hG _ mk_23) (fun _ h9 => h9) rfl hin rfl (by decide +kernel) rfl rfl (Nat.le_of_ble_eq_true rfl) dk_C_41 (fun H locs hP hD hS => ?_)
  have hP : va_P D mm_clb [(h0, .inr (2, [.ref qn, .ref qc, .ref qs, .ref qf, .null, .null, .null, .int 0])), (qn, .inr (1, [.ref qo, .ref qu, .int 308, .int 0, .int 0, .int 0])), (qo, .inl (aC 0, (1332, .inl (fun _ => 0)))), (qu, .inl (aC 0, (1332, .inl (fun _ => 0)))), (qc, .inr (0, [.int 0, .int 0, .int 0, .int 0, .int 0, .int 0, .int 0])), (qs, .inl (aC 0, (24, .inl (fun _ => 0)))), (qf, .inl (aC 0, (24, .inl (fun _ => 0))))] H := hP
  have hD : va_D A [(h0, .inr (2, [.ref qn, .ref qc, .ref qs, .ref qf, .null, .null, .null, .int 0])), (qn, .inr (1, [.ref qo, .ref qu, .int 308, .int 0, .int 0, .int 0])), (qo, .inl (aC 0, (1332, .inl (fun _ => 0)))), (qu, .inl (aC 0, (1332, .inl (fun _ => 0)))), (qc, .inr (0, [.int 0, .int 0, .int 0, .int 0, .int 0, .int 0, .int 0])), (qs, .inl (aC 0, (24, .inl (fun _ => 0)))), (qf, .inl (aC 0, (24, .inl (fun _ => 0))))] := hD
  refine lv_aload_n hx hb dk_C_44 rfl (lv_at hl 0 rfl) ?_
  refine lv_bipush (v := 24) hx hb dk_C_45 (by decide) ?_
  refine ca_newa (atype := .int) (n := 24) (N' := 24) (a0 := (24, .inl (fun _ => 0))) hx hb (hG _ mk_5) rfl 0 rfl (by first | exact Or.inl rfl | exact Or.inr rfl) hK hP hD hS hA (fun _ => rfl) (by decide) (by decide) (by decide) (Nat.le_of_ble_eq_true rfl) (Nat.le_of_ble_eq_true rfl) dk_C_47 (fun qe H hP hD hS => ?_)
  have hP : va_P D mm_clb [(h0, .inr (2, [.ref qn, .ref qc, .ref qs, .ref qf, .null, .null, .null, .int 0])), (qn, .inr (1, [.ref qo, .ref qu, .int 308, .int 0, .int 0, .int 0])), (qo, .inl (aC 0, (1332, .inl (fun _ => 0)))), (qu, .inl (aC 0, (1332, .inl (fun _ => 0)))), (qc, .inr (0, [.int 0, .int 0, .int 0, .int 0, .int 0, .int 0, .int 0])), (qs, .inl (aC 0, (24, .inl (fun _ => 0)))), (qf, .inl (aC 0, (24, .inl (fun _ => 0)))), (qe, .inl (aC 0, (24, .inl (fun _ => 0))))] H := hP
  have hD : va_D A [(h0, .inr (2, [.ref qn, .ref qc, .ref qs, .ref qf, .null, .null, .null, .int 0])), (qn, .inr (1, [.ref qo, .ref qu, .int 308, .int 0, .int 0, .int 0])), (qo, .inl (aC 0, (1332, .inl (fun _ => 0)))), (qu, .inl (aC 0, (1332, .inl (fun _ => 0)))), (qc, .inr (0, [.int 0, .int 0, .int 0, .int 0, .int 0, .int 0, .int 0])), (qs, .inl (aC 0, (24, .inl (fun _ => 0)))), (qf, .inl (aC 0, (24, .inl (fun _ => 0)))), (qe, .inl (aC 0, (24, .inl (fun _ => 0))))] := hD
  refine va_putF (D := D) (ci := 2) (v := .ref qe) (ty := .array .int) (C := RX2) (T := TX2) (N := 8) hx hb hG mi_2 tyX2 tyX2_ok nmX2 hown hK hP hD hS 0 rfl rfl 4 (by decide) (hG _ mk_24) (fun _ h9 => h9) rfl hin rfl (by decide +kernel) rfl rfl (Nat.le_of_ble_eq_true rfl) dk_C_49 (fun H locs hP hD hS => ?_)
  have hP : va_P D mm_clb [(h0, .inr (2, [.ref qn, .ref qc, .ref qs, .ref qf, .ref qe, .null, .null, .int 0])), (qn, .inr (1, [.ref qo, .ref qu, .int 308, .int 0, .int 0, .int 0])), (qo, .inl (aC 0, (1332, .inl (fun _ => 0)))), (qu, .inl (aC 0, (1332, .inl (fun _ => 0)))), (qc, .inr (0, [.int 0, .int 0, .int 0, .int 0, .int 0, .int 0, .int 0])), (qs, .inl (aC 0, (24, .inl (fun _ => 0)))), (qf, .inl (aC 0, (24, .inl (fun _ => 0)))), (qe, .inl (aC 0, (24, .inl (fun _ => 0))))] H := hP
  have hD : va_D A [(h0, .inr (2, [.ref qn, .ref qc, .ref qs, .ref qf, .ref qe, .null, .null, .int 0])), (qn, .inr (1, [.ref qo, .ref qu, .int 308, .int 0, .int 0, .int 0])), (qo, .inl (aC 0, (1332, .inl (fun _ => 0)))), (qu, .inl (aC 0, (1332, .inl (fun _ => 0)))), (qc, .inr (0, [.int 0, .int 0, .int 0, .int 0, .int 0, .int 0, .int 0])), (qs, .inl (aC 0, (24, .inl (fun _ => 0)))), (qf, .inl (aC 0, (24, .inl (fun _ => 0)))), (qe, .inl (aC 0, (24, .inl (fun _ => 0))))] := hD
  refine lv_aload_n hx hb dk_C_52 rfl (lv_at hl 0 rfl) ?_
  refine lv_bipush (v := 24) hx hb dk_C_53 (by decide) ?_
  refine ca_newa (atype := .int) (n := 24) (N' := 24) (a0 := (24, .inl (fun _ => 0))) hx hb (hG _ mk_5) rfl 0 rfl (by first | exact Or.inl rfl | exact Or.inr rfl) hK hP hD hS hA (fun _ => rfl) (by decide) (by decide) (by decide) (Nat.le_of_ble_eq_true rfl) (Nat.le_of_ble_eq_true rfl) dk_C_55 (fun qt H hP hD hS => ?_)
  have hP : va_P D mm_clb [(h0, .inr (2, [.ref qn, .ref qc, .ref qs, .ref qf, .ref qe, .null, .null, .int 0])), (qn, .inr (1, [.ref qo, .ref qu, .int 308, .int 0, .int 0, .int 0])), (qo, .inl (aC 0, (1332, .inl (fun _ => 0)))), (qu, .inl (aC 0, (1332, .inl (fun _ => 0)))), (qc, .inr (0, [.int 0, .int 0, .int 0, .int 0, .int 0, .int 0, .int 0])), (qs, .inl (aC 0, (24, .inl (fun _ => 0)))), (qf, .inl (aC 0, (24, .inl (fun _ => 0)))), (qe, .inl (aC 0, (24, .inl (fun _ => 0)))), (qt, .inl (aC 0, (24, .inl (fun _ => 0))))] H := hP
  have hD : va_D A [(h0, .inr (2, [.ref qn, .ref qc, .ref qs, .ref qf, .ref qe, .null, .null, .int 0])), (qn, .inr (1, [.ref qo, .ref qu, .int 308, .int 0, .int 0, .int 0])), (qo, .inl (aC 0, (1332, .inl (fun _ => 0)))), (qu, .inl (aC 0, (1332, .inl (fun _ => 0)))), (qc, .inr (0, [.int 0, .int 0, .int 0, .int 0, .int 0, .int 0, .int 0])), (qs, .inl (aC 0, (24, .inl (fun _ => 0)))), (qf, .inl (aC 0, (24, .inl (fun _ => 0)))), (qe, .inl (aC 0, (24, .inl (fun _ => 0)))), (qt, .inl (aC 0, (24, .inl (fun _ => 0))))] := hD
  refine va_putF (D := D) (ci := 2) (v := .ref qt) (ty := .array .int) (C := RX2) (T := TX2) (N := 8) hx hb hG mi_2 tyX2 tyX2_ok nmX2 hown hK hP hD hS 0 rfl rfl 5 (by decide) (hG _ mk_25) (fun _ h9 => h9) rfl hin rfl (by decide +kernel) rfl rfl (Nat.le_of_ble_eq_true rfl) dk_C_57 (fun H locs hP hD hS => ?_)
  have hP : va_P D mm_clb [(h0, .inr (2, [.ref qn, .ref qc, .ref qs, .ref qf, .ref qe, .ref qt, .null, .int 0])), (qn, .inr (1, [.ref qo, .ref qu, .int 308, .int 0, .int 0, .int 0])), (qo, .inl (aC 0, (1332, .inl (fun _ => 0)))), (qu, .inl (aC 0, (1332, .inl (fun _ => 0)))), (qc, .inr (0, [.int 0, .int 0, .int 0, .int 0, .int 0, .int 0, .int 0])), (qs, .inl (aC 0, (24, .inl (fun _ => 0)))), (qf, .inl (aC 0, (24, .inl (fun _ => 0)))), (qe, .inl (aC 0, (24, .inl (fun _ => 0)))), (qt, .inl (aC 0, (24, .inl (fun _ => 0))))] H := hP
  have hD : va_D A [(h0, .inr (2, [.ref qn, .ref qc, .ref qs, .ref qf, .ref qe, .ref qt, .null, .int 0])), (qn, .inr (1, [.ref qo, .ref qu, .int 308, .int 0, .int 0, .int 0])), (qo, .inl (aC 0, (1332, .inl (fun _ => 0)))), (qu, .inl (aC 0, (1332, .inl (fun _ => 0)))), (qc, .inr (0, [.int 0, .int 0, .int 0, .int 0, .int 0, .int 0, .int 0])), (qs, .inl (aC 0, (24, .inl (fun _ => 0)))), (qf, .inl (aC 0, (24, .inl (fun _ => 0)))), (qe, .inl (aC 0, (24, .inl (fun _ => 0)))), (qt, .inl (aC 0, (24, .inl (fun _ => 0))))] := hD
  refine lv_aload_n hx hb dk_C_60 rfl (lv_at hl 0 rfl) ?_
  refine lv_bipush (v := 25) hx hb dk_C_61 (by decide) ?_
  refine ca_newa (atype := .int) (n := 25) (N' := 25) (a0 := (25, .inl (fun _ => 0))) hx hb (hG _ mk_5) rfl 0 rfl (by first | exact Or.inl rfl | exact Or.inr rfl) hK hP hD hS hA (fun _ => rfl) (by decide) (by decide) (by decide) (Nat.le_of_ble_eq_true rfl) (Nat.le_of_ble_eq_true rfl) dk_C_63 (fun qd H hP hD hS => ?_)
  have hP : va_P D mm_clb [(h0, .inr (2, [.ref qn, .ref qc, .ref qs, .ref qf, .ref qe, .ref qt, .null, .int 0])), (qn, .inr (1, [.ref qo, .ref qu, .int 308, .int 0, .int 0, .int 0])), (qo, .inl (aC 0, (1332, .inl (fun _ => 0)))), (qu, .inl (aC 0, (1332, .inl (fun _ => 0)))), (qc, .inr (0, [.int 0, .int 0, .int 0, .int 0, .int 0, .int 0, .int 0])), (qs, .inl (aC 0, (24, .inl (fun _ => 0)))), (qf, .inl (aC 0, (24, .inl (fun _ => 0)))), (qe, .inl (aC 0, (24, .inl (fun _ => 0)))), (qt, .inl (aC 0, (24, .inl (fun _ => 0)))), (qd, .inl (aC 0, (25, .inl (fun _ => 0))))] H := hP
  have hD : va_D A [(h0, .inr (2, [.ref qn, .ref qc, .ref qs, .ref qf, .ref qe, .ref qt, .null, .int 0])), (qn, .inr (1, [.ref qo, .ref qu, .int 308, .int 0, .int 0, .int 0])), (qo, .inl (aC 0, (1332, .inl (fun _ => 0)))), (qu, .inl (aC 0, (1332, .inl (fun _ => 0)))), (qc, .inr (0, [.int 0, .int 0, .int 0, .int 0, .int 0, .int 0, .int 0])), (qs, .inl (aC 0, (24, .inl (fun _ => 0)))), (qf, .inl (aC 0, (24, .inl (fun _ => 0)))), (qe, .inl (aC 0, (24, .inl (fun _ => 0)))), (qt, .inl (aC 0, (24, .inl (fun _ => 0)))), (qd, .inl (aC 0, (25, .inl (fun _ => 0))))] := hD
  refine va_putF (D := D) (ci := 2) (v := .ref qd) (ty := .array .int) (C := RX2) (T := TX2) (N := 8) hx hb hG mi_2 tyX2 tyX2_ok nmX2 hown hK hP hD hS 0 rfl rfl 6 (by decide) (hG _ mk_26) (fun _ h9 => h9) rfl hin rfl (by decide +kernel) rfl rfl (Nat.le_of_ble_eq_true rfl) dk_C_65 (fun H locs hP hD hS => ?_)
  have hP : va_P D mm_clb [(h0, .inr (2, [.ref qn, .ref qc, .ref qs, .ref qf, .ref qe, .ref qt, .ref qd, .int 0])), (qn, .inr (1, [.ref qo, .ref qu, .int 308, .int 0, .int 0, .int 0])), (qo, .inl (aC 0, (1332, .inl (fun _ => 0)))), (qu, .inl (aC 0, (1332, .inl (fun _ => 0)))), (qc, .inr (0, [.int 0, .int 0, .int 0, .int 0, .int 0, .int 0, .int 0])), (qs, .inl (aC 0, (24, .inl (fun _ => 0)))), (qf, .inl (aC 0, (24, .inl (fun _ => 0)))), (qe, .inl (aC 0, (24, .inl (fun _ => 0)))), (qt, .inl (aC 0, (24, .inl (fun _ => 0)))), (qd, .inl (aC 0, (25, .inl (fun _ => 0))))] H := hP
  have hD : va_D A [(h0, .inr (2, [.ref qn, .ref qc, .ref qs, .ref qf, .ref qe, .ref qt, .ref qd, .int 0])), (qn, .inr (1, [.ref qo, .ref qu, .int 308, .int 0, .int 0, .int 0])), (qo, .inl (aC 0, (1332, .inl (fun _ => 0)))), (qu, .inl (aC 0, (1332, .inl (fun _ => 0)))), (qc, .inr (0, [.int 0, .int 0, .int 0, .int 0, .int 0, .int 0, .int 0])), (qs, .inl (aC 0, (24, .inl (fun _ => 0)))), (qf, .inl (aC 0, (24, .inl (fun _ => 0)))), (qe, .inl (aC 0, (24, .inl (fun _ => 0)))), (qt, .inl (aC 0, (24, .inl (fun _ => 0)))), (qd, .inl (aC 0, (25, .inl (fun _ => 0))))] := hD
  refine lv_aload_n hx hb dk_C_68 rfl (lv_at hl 0 rfl) ?_
  refine lv_iconst (v := 0) hx hb dk_C_69 (by decide) ?_
  refine va_put (D := D) (ci := 2) (v := .int 0) (ty := .int) (C := RX2) (T := TX2) (N := 8) hx hb hG mi_2 tyX2 tyX2_ok nmX2 hown hK hP hD hS 0 rfl rfl 7 (by decide) (hG _ mk_27) (fun _ h9 => h9) rfl (by decide +kernel) rfl rfl (Nat.le_of_ble_eq_true rfl) dk_C_70 (fun H locs hP hD hS => ?_)
  have hP : va_P D mm_clb [(h0, .inr (2, [.ref qn, .ref qc, .ref qs, .ref qf, .ref qe, .ref qt, .ref qd, .int 0])), (qn, .inr (1, [.ref qo, .ref qu, .int 308, .int 0, .int 0, .int 0])), (qo, .inl (aC 0, (1332, .inl (fun _ => 0)))), (qu, .inl (aC 0, (1332, .inl (fun _ => 0)))), (qc, .inr (0, [.int 0, .int 0, .int 0, .int 0, .int 0, .int 0, .int 0])), (qs, .inl (aC 0, (24, .inl (fun _ => 0)))), (qf, .inl (aC 0, (24, .inl (fun _ => 0)))), (qe, .inl (aC 0, (24, .inl (fun _ => 0)))), (qt, .inl (aC 0, (24, .inl (fun _ => 0)))), (qd, .inl (aC 0, (25, .inl (fun _ => 0))))] H := hP
  have hD : va_D A [(h0, .inr (2, [.ref qn, .ref qc, .ref qs, .ref qf, .ref qe, .ref qt, .ref qd, .int 0])), (qn, .inr (1, [.ref qo, .ref qu, .int 308, .int 0, .int 0, .int 0])), (qo, .inl (aC 0, (1332, .inl (fun _ => 0)))), (qu, .inl (aC 0, (1332, .inl (fun _ => 0)))), (qc, .inr (0, [.int 0, .int 0, .int 0, .int 0, .int 0, .int 0, .int 0])), (qs, .inl (aC 0, (24, .inl (fun _ => 0)))), (qf, .inl (aC 0, (24, .inl (fun _ => 0)))), (qe, .inl (aC 0, (24, .inl (fun _ => 0)))), (qt, .inl (aC 0, (24, .inl (fun _ => 0)))), (qd, .inl (aC 0, (25, .inl (fun _ => 0))))] := hD
  have hP9 := hP.sub (ws' := [(h0, .inr (2, [.ref qn, .ref qc, .ref qs, .ref qf, .ref qe, .ref qt, .ref qd, .int 0])), (qn, .inr (1, [.ref qo, .ref qu, .int 308, .int 0, .int 0, .int 0])), (qc, .inr (0, [.int 0, .int 0, .int 0, .int 0, .int 0, .int 0, .int 0])), (qs, .inl (aC 0, (24, .inl (fun _ => 0)))), (qf, .inl (aC 0, (24, .inl (fun _ => 0)))), (qe, .inl (aC 0, (24, .inl (fun _ => 0)))), (qt, .inl (aC 0, (24, .inl (fun _ => 0)))), (qd, .inl (aC 0, (25, .inl (fun _ => 0)))), (qo, .inl (aC 0, (1332, .inl (fun _ => 0)))), (qu, .inl (aC 0, (1332, .inl (fun _ => 0))))]) [0, 1, 4, 5, 6, 7, 8, 9, 2, 3] rfl
  have hD9 := hD.sub (ws' := [(h0, .inr (2, [.ref qn, .ref qc, .ref qs, .ref qf, .ref qe, .ref qt, .ref qd, .int 0])), (qn, .inr (1, [.ref qo, .ref qu, .int 308, .int 0, .int 0, .int 0])), (qc, .inr (0, [.int 0, .int 0, .int 0, .int 0, .int 0, .int 0, .int 0])), (qs, .inl (aC 0, (24, .inl (fun _ => 0)))), (qf, .inl (aC 0, (24, .inl (fun _ => 0)))), (qe, .inl (aC 0, (24, .inl (fun _ => 0)))), (qt, .inl (aC 0, (24, .inl (fun _ => 0)))), (qd, .inl (aC 0, (25, .inl (fun _ => 0)))), (qo, .inl (aC 0, (1332, .inl (fun _ => 0)))), (qu, .inl (aC 0, (1332, .inl (fun _ => 0))))]) [0, 1, 4, 5, 6, 7, 8, 9, 2, 3] (by decide) rfl
  refine W.widen (k := 9) (n := 2798) (Nat.le_of_ble_eq_true rfl) (Nat.le_of_ble_eq_true rfl) ?_
  exact W.vret hx hb hr (fun t ht hW => ⟨⟨(qn, qc, qs, qf, qe, qt, qd, qo, qu), rfl, trivial, by rw [ht]; exact hP9, va_K.moved hW.alike hK, hD9⟩, hS.F ht⟩) hS.2.2 dk_C_73 hlocks
/-- the reference's rows at its start -/
def md_q (i : Nat) : Nat → Int64 := fun k => if k < i ∨ 480 ≤ k then 1 else 0
def md_p : Nat → Int64 := vp_updL (fun _ => 0) 299 1
def md_q9 : Nat → Int64 := vp_updL (md_q 480) 299 2
theorem arrV_c {c : ClassId} {N : Nat} {f g : Nat → Value} (h : ∀ j, j < N → f j = g j) : arrV c N f = arrV c N g := by
  unfold arrV
  rw [show (fun j : Fin N => f j.val) = fun j => g j.val from funext fun j => h j.val j.isLt]
theorem md_q0 {c : ClassId} : vp_cell c (480, .inr (.inl (fun _ => 0))) = vp_cell c (480, .inr (.inl (md_q 0))) := by
  rw [vp_cell_l, vp_cell_l]
  refine arrV_c (fun j hj => ?_)
  have e : md_q 0 j = 0 := if_neg (by omega)
  rw [e]
theorem md_qs {i : Nat} (h : i < 480) : vp_updL (md_q i) (nI i).toNatClampNeg 1 = md_q (i + 1) := by
  rw [nI_clamp (by omega)]
  funext k
  unfold vp_updL md_q
  by_cases h1 : k = i
  · rw [if_pos h1, if_pos (by omega)]
  · rw [if_neg h1]
    by_cases h2 : k < i ∨ 480 ≤ k
    · rw [if_pos h2, if_pos (by omega)]
    · rw [if_neg h2, if_neg (by omega)]
set_option maxHeartbeats 400000 in
set_option maxRecDepth 100000 in
theorem k_M_loop {p : Program} {l : Launch} {e : Env} {R : Room} {s : State} {m : MethodId} {args : Array Value} {below : List Frame} {meth : Method} {c : Code} {cells slots : Nat} {Q : State → Prop} {D : va_G} {aC : Nat → Nat} {A : Nat → Prop} {H0 : Heap} {h0 qp qq qP qQ qs qf : Nat} (hx : p.tables.exec = Jvm.exec) (hb : c.code = prog_5_method_1_code) (hG : ∀ w ∈ mm_Gb, w.before args s = true) (hown : s.vm.findClass "RootCompassModel" = some m.cls) (hK : va_K D mm_clb (mm_ty aC) s)
    (kk : ∀ (H : Heap) (locs : List Loc) (ls : Array Slot), lv_has ls 2 [(1, .int (nI 480)), (0, .ref h0)] → va_P D mm_clb [(h0, .inr (3, [.int 0, .int 0, .int 0, .int 0, .ref qp, .ref qq, .ref qP, .ref qQ, .int 0, .ref qs, .ref qf])), (qp, .inl (aC 1, (480, .inr (.inl (fun _ => 0))))), (qq, .inl (aC 1, (480, .inr (.inl (md_q 480))))), (qP, .inl (aC 1, (292, .inr (.inl (fun _ => 0))))), (qQ, .inl (aC 1, (292, .inr (.inl (fun _ => 0))))), (qs, .inl (aC 0, (24, .inl (fun _ => 0)))), (qf, .inl (aC 0, (96, .inl (fun _ => 0))))] H → va_D A [(h0, .inr (3, [.int 0, .int 0, .int 0, .int 0, .ref qp, .ref qq, .ref qP, .ref qQ, .int 0, .ref qs, .ref qf])), (qp, .inl (aC 1, (480, .inr (.inl (fun _ => 0))))), (qq, .inl (aC 1, (480, .inr (.inl (md_q 480))))), (qP, .inl (aC 1, (292, .inr (.inl (fun _ => 0))))), (qQ, .inl (aC 1, (292, .inr (.inl (fun _ => 0))))), (qs, .inl (aC 0, (24, .inl (fun _ => 0)))), (qf, .inl (aC 0, (96, .inl (fun _ => 0))))] → va_S A H0 H locs → W p l e R s m args below meth c H locs cells slots Q (F0 m 78 ls [])) :
    ∀ (n i : Nat) (H : Heap) (locs : List Loc) (ls : Array Slot), i + n = 480 → lv_has ls 2 [(1, .int (nI i)), (0, .ref h0)] → va_P D mm_clb [(h0, .inr (3, [.int 0, .int 0, .int 0, .int 0, .ref qp, .ref qq, .ref qP, .ref qQ, .int 0, .ref qs, .ref qf])), (qp, .inl (aC 1, (480, .inr (.inl (fun _ => 0))))), (qq, .inl (aC 1, (480, .inr (.inl (md_q i))))), (qP, .inl (aC 1, (292, .inr (.inl (fun _ => 0))))), (qQ, .inl (aC 1, (292, .inr (.inl (fun _ => 0))))), (qs, .inl (aC 0, (24, .inl (fun _ => 0)))), (qf, .inl (aC 0, (96, .inl (fun _ => 0))))] H → va_D A [(h0, .inr (3, [.int 0, .int 0, .int 0, .int 0, .ref qp, .ref qq, .ref qP, .ref qQ, .int 0, .ref qs, .ref qf])), (qp, .inl (aC 1, (480, .inr (.inl (fun _ => 0))))), (qq, .inl (aC 1, (480, .inr (.inl (md_q i))))), (qP, .inl (aC 1, (292, .inr (.inl (fun _ => 0))))), (qQ, .inl (aC 1, (292, .inr (.inl (fun _ => 0))))), (qs, .inl (aC 0, (24, .inl (fun _ => 0)))), (qf, .inl (aC 0, (96, .inl (fun _ => 0))))] → va_S A H0 H locs → W p l e R s m args below meth c H locs cells slots Q (F0 m 58 ls [])
  | 0, i, H, locs, ls, hi, hl, hP, hD, hS => by
    have e9 : i = 480 := by omega
    subst e9
    refine lv_iload_n hx hb dk_M_58 rfl (lv_at hl 0 rfl) ?_
    refine lv_sipush (v := 480) hx hb dk_M_59 (by decide) ?_
    exact lv_icmp_ge (tgt := 78) hx hb dk_M_62 rfl (fun _ => kk H locs ls hl hP hD hS) (fun h => absurd (by decide) h)
  | n + 1, i, H, locs, ls, hi, hl, hP, hD, hS => by
    refine lv_iload_n hx hb dk_M_58 rfl (lv_at hl 0 rfl) ?_
    refine lv_sipush (v := 480) hx hb dk_M_59 (by decide) ?_
    refine lv_icmp_ge (tgt := 78) hx hb dk_M_62 rfl (fun h => absurd h (nI_ge (show i < 480 by omega) (by decide))) (fun _ => ?_)
    refine lv_aload_n hx hb dk_M_65 rfl (lv_at hl 1 rfl) ?_
    refine va_get (D := D) (ci := 3) (v := .ref qq) (C := mm_RM) (T := mm_TM) (N := 11) hx hb hG mi_3 hown hK hP 0 rfl rfl 5 (by decide) (hG _ mk_28) (fun _ h9 => h9) rfl dk_M_66 ?_
    refine lv_iload_n hx hb dk_M_69 rfl (lv_at hl 0 rfl) ?_
    refine lv_lconst (v := 1) hx hb dk_M_70 (by decide) ?_
    refine va_last hx hb hK hP hD hS 2 1 rfl rfl (vp_in_nI (show i < 480 by omega) (by decide)) dk_M_71 (fun H locs hP hD hS => ?_)
    rw [md_qs (by omega)] at hP hD
    refine lv_iinc (k := 0) (x := nI i) (v := nI (i + 1)) hx hb dk_M_72 hl rfl (nI_1 i) (by decide) rfl (fun ls hl => ?_)
    refine lv_goto (tgt := 58) hx hb dk_M_75 rfl ?_
    exact k_M_loop hx hb hG hown hK kk n (i + 1) H locs ls (by omega) hl hP hD hS
set_option maxHeartbeats 400000 in
set_option maxRecDepth 100000 in
/-- RootCompassModel() -/
theorem k_M (l : Launch) (D : va_G) (aC : Nat → Nat) (h0 sz : Nat) : Met l ⟨"RootCompassModel", "<init>", "()V"⟩ (Cond.code ⟨"RootCompassModel", "<init>", "()V"⟩ prog_5_method_1_code 2 none :: mm_Gb) ({ frames := 1, cells := 6, slots := 1664, locals := 16 }) (va_Pc [.ref h0] (fun U => U.heap.size = sz ∧ va_P D mm_clb [(h0, .inr (3, [.int 0, .int 0, .int 0, .int 0, .null, .null, .null, .null, .int 0, .null, .null]))] U.heap ∧ va_K D mm_clb (mm_ty aC) U ∧ va_D (fun _ => True) [(h0, .inr (3, [.int 0, .int 0, .int 0, .int 0, .null, .null, .null, .null, .int 0, .null, .null]))])) (va_Qv (fun _ : Nat × Nat × Nat × Nat × Nat × Nat => True) (fun u t => va_P D mm_clb [(h0, .inr (3, [.int 0, .int 0, .int 0, .int 0, .ref u.1, .ref u.2.1, .ref u.2.2.1, .ref u.2.2.2.1, .int 0, .ref u.2.2.2.2.1, .ref u.2.2.2.2.2])), (u.1, .inl (aC 1, (480, .inr (.inl md_p)))), (u.2.1, .inl (aC 1, (480, .inr (.inl md_q9)))), (u.2.2.1, .inl (aC 1, (292, .inr (.inl (fun _ => 0))))), (u.2.2.2.1, .inl (aC 1, (292, .inr (.inl (fun _ => 0))))), (u.2.2.2.2.1, .inl (aC 0, (24, .inl (fun _ => 0)))), (u.2.2.2.2.2, .inl (aC 0, (96, .inl (fun _ => 0))))] t.heap ∧ va_K D mm_clb (mm_ty aC) t ∧ va_D (va_A [(h0, .inr (3, [.int 0, .int 0, .int 0, .int 0, .null, .null, .null, .null, .int 0, .null, .null]))] sz) [(h0, .inr (3, [.int 0, .int 0, .int 0, .int 0, .ref u.1, .ref u.2.1, .ref u.2.2.1, .ref u.2.2.2.1, .int 0, .ref u.2.2.2.2.1, .ref u.2.2.2.2.2])), (u.1, .inl (aC 1, (480, .inr (.inl md_p)))), (u.2.1, .inl (aC 1, (480, .inr (.inl md_q9)))), (u.2.2.1, .inl (aC 1, (292, .inr (.inl (fun _ => 0))))), (u.2.2.2.1, .inl (aC 1, (292, .inr (.inl (fun _ => 0))))), (u.2.2.2.2.1, .inl (aC 0, (24, .inl (fun _ => 0)))), (u.2.2.2.2.2, .inl (aC 0, (96, .inl (fun _ => 0))))]) (va_A [(h0, .inr (3, [.int 0, .int 0, .int 0, .int 0, .null, .null, .null, .null, .int 0, .null, .null]))] sz)) 6 1664 (va_A [(h0, .inr (3, [.int 0, .int 0, .int 0, .int 0, .null, .null, .null, .null, .int 0, .null, .null]))] sz) := by
  refine Met.ofW (cc := prog_5_method_1_code) (maxL := 2) (ret := none) (by decide) rfl ?_
  intro p e s m args below meth c s₁ B hml hv
  obtain ⟨rfl, hsz, hP, hK, hD0⟩ := hv
  have hx := B.exec
  have hb := B.bytes
  have hr := B.returns
  have hts := atoms_spec (ws := Cond.code ⟨"RootCompassModel", "<init>", "()V"⟩ prog_5_method_1_code 2 none :: mm_Gb) B.pre
  have hG : ∀ w ∈ mm_Gb, w.before [.ref h0].toArray s = true := fun w hw => hts w (List.mem_cons_of_mem _ hw)
  have hown : s.vm.findClass "RootCompassModel" = some m.cls := findClass_of_methodNamed B.named
  have hlocks := B.notSynchronized
  have hin : meth.name = "<init>" := (name_of_methodNamed B.named B.method).1
  subst hsz
  have hD := hD0.self (sz := s.heap.size)
  generalize hAe : va_A [(h0, .inr (3, [.int 0, .int 0, .int 0, .int 0, .null, .null, .null, .null, .int 0, .null, .null]))] s.heap.size = A at hD ⊢
  have hA : ∀ q : Nat, s.heap.size ≤ q → A q := fun q h => by rw [← hAe]; exact Or.inr h
  have hS : va_S A s.heap s.heap [] := va_S.rf
  have hP : va_P D mm_clb [(h0, .inr (3, [.int 0, .int 0, .int 0, .int 0, .null, .null, .null, .null, .int 0, .null, .null]))] s.heap := hP
  have hl := lv_entry ([.ref h0]) (n := 2) (Nat.le_of_ble_eq_true rfl)
  rw [lg_entry_eq]
  generalize (lg_sl ([.ref h0]) ++ List.replicate (2 - (lg_sl ([.ref h0])).length) Slot.unset).toArray = ls at hl ⊢
  have hl : lv_has ls 2 [(0, .ref h0)] := hl
  refine lv_aload_n hx hb dk_M_0 rfl (lv_at hl 0 rfl) ?_
  refine W.objInit hx hb hown (hG _ mk_29) (hG _ mk_1) (hG _ mk_2) rfl (by rw [hml]; exact hl.1) rfl dk_M_1 (Nat.le_of_ble_eq_true rfl) (Nat.le_of_ble_eq_true rfl) ?_
  refine W.eq (g2 := F0 m 4 ls []) rfl ?_
  refine lv_aload_n hx hb dk_M_4 rfl (lv_at hl 0 rfl) ?_
  refine lv_sipush (v := 480) hx hb dk_M_5 (by decide) ?_
  refine ca_newa (atype := .long) (n := 480) (N' := 480) (a0 := (480, .inr (.inl (fun _ => 0)))) hx hb (hG _ mk_30) rfl 1 rfl (by first | exact Or.inl rfl | exact Or.inr rfl) hK hP hD hS hA (fun _ => rfl) (by decide) (by decide) (by decide) (Nat.le_of_ble_eq_true rfl) (Nat.le_of_ble_eq_true rfl) dk_M_8 (fun qp H hP hD hS => ?_)
  have hP : va_P D mm_clb [(h0, .inr (3, [.int 0, .int 0, .int 0, .int 0, .null, .null, .null, .null, .int 0, .null, .null])), (qp, .inl (aC 1, (480, .inr (.inl (fun _ => 0)))))] H := hP
  have hD : va_D A [(h0, .inr (3, [.int 0, .int 0, .int 0, .int 0, .null, .null, .null, .null, .int 0, .null, .null])), (qp, .inl (aC 1, (480, .inr (.inl (fun _ => 0)))))] := hD
  refine va_putF (D := D) (ci := 3) (v := .ref qp) (ty := .array .long) (C := mm_RM) (T := mm_TM) (N := 11) hx hb hG mi_3 mm_tyM mm_tyM_ok mm_nmM hown hK hP hD hS 0 rfl rfl 4 (by decide) (hG _ mk_31) (fun _ h9 => h9) rfl hin rfl (by decide +kernel) rfl rfl (Nat.le_of_ble_eq_true rfl) dk_M_10 (fun H locs hP hD hS => ?_)
  have hP : va_P D mm_clb [(h0, .inr (3, [.int 0, .int 0, .int 0, .int 0, .ref qp, .null, .null, .null, .int 0, .null, .null])), (qp, .inl (aC 1, (480, .inr (.inl (fun _ => 0)))))] H := hP
  have hD : va_D A [(h0, .inr (3, [.int 0, .int 0, .int 0, .int 0, .ref qp, .null, .null, .null, .int 0, .null, .null])), (qp, .inl (aC 1, (480, .inr (.inl (fun _ => 0)))))] := hD
  refine lv_aload_n hx hb dk_M_13 rfl (lv_at hl 0 rfl) ?_
  refine lv_sipush (v := 480) hx hb dk_M_14 (by decide) ?_
  refine ca_newa (atype := .long) (n := 480) (N' := 480) (a0 := (480, .inr (.inl (fun _ => 0)))) hx hb (hG _ mk_30) rfl 1 rfl (by first | exact Or.inl rfl | exact Or.inr rfl) hK hP hD hS hA (fun _ => rfl) (by decide) (by decide) (by decide) (Nat.le_of_ble_eq_true rfl) (Nat.le_of_ble_eq_true rfl) dk_M_17 (fun qq H hP hD hS => ?_)
  have hP : va_P D mm_clb [(h0, .inr (3, [.int 0, .int 0, .int 0, .int 0, .ref qp, .null, .null, .null, .int 0, .null, .null])), (qp, .inl (aC 1, (480, .inr (.inl (fun _ => 0))))), (qq, .inl (aC 1, (480, .inr (.inl (fun _ => 0)))))] H := hP
  have hD : va_D A [(h0, .inr (3, [.int 0, .int 0, .int 0, .int 0, .ref qp, .null, .null, .null, .int 0, .null, .null])), (qp, .inl (aC 1, (480, .inr (.inl (fun _ => 0))))), (qq, .inl (aC 1, (480, .inr (.inl (fun _ => 0)))))] := hD
  refine va_putF (D := D) (ci := 3) (v := .ref qq) (ty := .array .long) (C := mm_RM) (T := mm_TM) (N := 11) hx hb hG mi_3 mm_tyM mm_tyM_ok mm_nmM hown hK hP hD hS 0 rfl rfl 5 (by decide) (hG _ mk_28) (fun _ h9 => h9) rfl hin rfl (by decide +kernel) rfl rfl (Nat.le_of_ble_eq_true rfl) dk_M_19 (fun H locs hP hD hS => ?_)
  have hP : va_P D mm_clb [(h0, .inr (3, [.int 0, .int 0, .int 0, .int 0, .ref qp, .ref qq, .null, .null, .int 0, .null, .null])), (qp, .inl (aC 1, (480, .inr (.inl (fun _ => 0))))), (qq, .inl (aC 1, (480, .inr (.inl (fun _ => 0)))))] H := hP
  have hD : va_D A [(h0, .inr (3, [.int 0, .int 0, .int 0, .int 0, .ref qp, .ref qq, .null, .null, .int 0, .null, .null])), (qp, .inl (aC 1, (480, .inr (.inl (fun _ => 0))))), (qq, .inl (aC 1, (480, .inr (.inl (fun _ => 0)))))] := hD
  refine lv_aload_n hx hb dk_M_22 rfl (lv_at hl 0 rfl) ?_
  refine lv_sipush (v := 292) hx hb dk_M_23 (by decide) ?_
  refine ca_newa (atype := .long) (n := 292) (N' := 292) (a0 := (292, .inr (.inl (fun _ => 0)))) hx hb (hG _ mk_30) rfl 1 rfl (by first | exact Or.inl rfl | exact Or.inr rfl) hK hP hD hS hA (fun _ => rfl) (by decide) (by decide) (by decide) (Nat.le_of_ble_eq_true rfl) (Nat.le_of_ble_eq_true rfl) dk_M_26 (fun qP H hP hD hS => ?_)
  have hP : va_P D mm_clb [(h0, .inr (3, [.int 0, .int 0, .int 0, .int 0, .ref qp, .ref qq, .null, .null, .int 0, .null, .null])), (qp, .inl (aC 1, (480, .inr (.inl (fun _ => 0))))), (qq, .inl (aC 1, (480, .inr (.inl (fun _ => 0))))), (qP, .inl (aC 1, (292, .inr (.inl (fun _ => 0)))))] H := hP
  have hD : va_D A [(h0, .inr (3, [.int 0, .int 0, .int 0, .int 0, .ref qp, .ref qq, .null, .null, .int 0, .null, .null])), (qp, .inl (aC 1, (480, .inr (.inl (fun _ => 0))))), (qq, .inl (aC 1, (480, .inr (.inl (fun _ => 0))))), (qP, .inl (aC 1, (292, .inr (.inl (fun _ => 0)))))] := hD
  refine va_putF (D := D) (ci := 3) (v := .ref qP) (ty := .array .long) (C := mm_RM) (T := mm_TM) (N := 11) hx hb hG mi_3 mm_tyM mm_tyM_ok mm_nmM hown hK hP hD hS 0 rfl rfl 6 (by decide) (hG _ mk_32) (fun _ h9 => h9) rfl hin rfl (by decide +kernel) rfl rfl (Nat.le_of_ble_eq_true rfl) dk_M_28 (fun H locs hP hD hS => ?_)
  have hP : va_P D mm_clb [(h0, .inr (3, [.int 0, .int 0, .int 0, .int 0, .ref qp, .ref qq, .ref qP, .null, .int 0, .null, .null])), (qp, .inl (aC 1, (480, .inr (.inl (fun _ => 0))))), (qq, .inl (aC 1, (480, .inr (.inl (fun _ => 0))))), (qP, .inl (aC 1, (292, .inr (.inl (fun _ => 0)))))] H := hP
  have hD : va_D A [(h0, .inr (3, [.int 0, .int 0, .int 0, .int 0, .ref qp, .ref qq, .ref qP, .null, .int 0, .null, .null])), (qp, .inl (aC 1, (480, .inr (.inl (fun _ => 0))))), (qq, .inl (aC 1, (480, .inr (.inl (fun _ => 0))))), (qP, .inl (aC 1, (292, .inr (.inl (fun _ => 0)))))] := hD
  refine lv_aload_n hx hb dk_M_31 rfl (lv_at hl 0 rfl) ?_
  refine lv_sipush (v := 292) hx hb dk_M_32 (by decide) ?_
  refine ca_newa (atype := .long) (n := 292) (N' := 292) (a0 := (292, .inr (.inl (fun _ => 0)))) hx hb (hG _ mk_30) rfl 1 rfl (by first | exact Or.inl rfl | exact Or.inr rfl) hK hP hD hS hA (fun _ => rfl) (by decide) (by decide) (by decide) (Nat.le_of_ble_eq_true rfl) (Nat.le_of_ble_eq_true rfl) dk_M_35 (fun qQ H hP hD hS => ?_)
  have hP : va_P D mm_clb [(h0, .inr (3, [.int 0, .int 0, .int 0, .int 0, .ref qp, .ref qq, .ref qP, .null, .int 0, .null, .null])), (qp, .inl (aC 1, (480, .inr (.inl (fun _ => 0))))), (qq, .inl (aC 1, (480, .inr (.inl (fun _ => 0))))), (qP, .inl (aC 1, (292, .inr (.inl (fun _ => 0))))), (qQ, .inl (aC 1, (292, .inr (.inl (fun _ => 0)))))] H := hP
  have hD : va_D A [(h0, .inr (3, [.int 0, .int 0, .int 0, .int 0, .ref qp, .ref qq, .ref qP, .null, .int 0, .null, .null])), (qp, .inl (aC 1, (480, .inr (.inl (fun _ => 0))))), (qq, .inl (aC 1, (480, .inr (.inl (fun _ => 0))))), (qP, .inl (aC 1, (292, .inr (.inl (fun _ => 0))))), (qQ, .inl (aC 1, (292, .inr (.inl (fun _ => 0)))))] := hD
  refine va_putF (D := D) (ci := 3) (v := .ref qQ) (ty := .array .long) (C := mm_RM) (T := mm_TM) (N := 11) hx hb hG mi_3 mm_tyM mm_tyM_ok mm_nmM hown hK hP hD hS 0 rfl rfl 7 (by decide) (hG _ mk_33) (fun _ h9 => h9) rfl hin rfl (by decide +kernel) rfl rfl (Nat.le_of_ble_eq_true rfl) dk_M_37 (fun H locs hP hD hS => ?_)
  have hP : va_P D mm_clb [(h0, .inr (3, [.int 0, .int 0, .int 0, .int 0, .ref qp, .ref qq, .ref qP, .ref qQ, .int 0, .null, .null])), (qp, .inl (aC 1, (480, .inr (.inl (fun _ => 0))))), (qq, .inl (aC 1, (480, .inr (.inl (fun _ => 0))))), (qP, .inl (aC 1, (292, .inr (.inl (fun _ => 0))))), (qQ, .inl (aC 1, (292, .inr (.inl (fun _ => 0)))))] H := hP
  have hD : va_D A [(h0, .inr (3, [.int 0, .int 0, .int 0, .int 0, .ref qp, .ref qq, .ref qP, .ref qQ, .int 0, .null, .null])), (qp, .inl (aC 1, (480, .inr (.inl (fun _ => 0))))), (qq, .inl (aC 1, (480, .inr (.inl (fun _ => 0))))), (qP, .inl (aC 1, (292, .inr (.inl (fun _ => 0))))), (qQ, .inl (aC 1, (292, .inr (.inl (fun _ => 0)))))] := hD
  refine lv_aload_n hx hb dk_M_40 rfl (lv_at hl 0 rfl) ?_
  refine lv_bipush (v := 24) hx hb dk_M_41 (by decide) ?_
  refine ca_newa (atype := .int) (n := 24) (N' := 24) (a0 := (24, .inl (fun _ => 0))) hx hb (hG _ mk_5) rfl 0 rfl (by first | exact Or.inl rfl | exact Or.inr rfl) hK hP hD hS hA (fun _ => rfl) (by decide) (by decide) (by decide) (Nat.le_of_ble_eq_true rfl) (Nat.le_of_ble_eq_true rfl) dk_M_43 (fun qs H hP hD hS => ?_)
  have hP : va_P D mm_clb [(h0, .inr (3, [.int 0, .int 0, .int 0, .int 0, .ref qp, .ref qq, .ref qP, .ref qQ, .int 0, .null, .null])), (qp, .inl (aC 1, (480, .inr (.inl (fun _ => 0))))), (qq, .inl (aC 1, (480, .inr (.inl (fun _ => 0))))), (qP, .inl (aC 1, (292, .inr (.inl (fun _ => 0))))), (qQ, .inl (aC 1, (292, .inr (.inl (fun _ => 0))))), (qs, .inl (aC 0, (24, .inl (fun _ => 0))))] H := hP
  have hD : va_D A [(h0, .inr (3, [.int 0, .int 0, .int 0, .int 0, .ref qp, .ref qq, .ref qP, .ref qQ, .int 0, .null, .null])), (qp, .inl (aC 1, (480, .inr (.inl (fun _ => 0))))), (qq, .inl (aC 1, (480, .inr (.inl (fun _ => 0))))), (qP, .inl (aC 1, (292, .inr (.inl (fun _ => 0))))), (qQ, .inl (aC 1, (292, .inr (.inl (fun _ => 0))))), (qs, .inl (aC 0, (24, .inl (fun _ => 0))))] := hD
  refine va_putF (D := D) (ci := 3) (v := .ref qs) (ty := .array .int) (C := mm_RM) (T := mm_TM) (N := 11) hx hb hG mi_3 mm_tyM mm_tyM_ok mm_nmM hown hK hP hD hS 0 rfl rfl 9 (by decide) (hG _ mk_34) (fun _ h9 => h9) rfl hin rfl (by decide +kernel) rfl rfl (Nat.le_of_ble_eq_true rfl) dk_M_45 (fun H locs hP hD hS => ?_)
  have hP : va_P D mm_clb [(h0, .inr (3, [.int 0, .int 0, .int 0, .int 0, .ref qp, .ref qq, .ref qP, .ref qQ, .int 0, .ref qs, .null])), (qp, .inl (aC 1, (480, .inr (.inl (fun _ => 0))))), (qq, .inl (aC 1, (480, .inr (.inl (fun _ => 0))))), (qP, .inl (aC 1, (292, .inr (.inl (fun _ => 0))))), (qQ, .inl (aC 1, (292, .inr (.inl (fun _ => 0))))), (qs, .inl (aC 0, (24, .inl (fun _ => 0))))] H := hP
  have hD : va_D A [(h0, .inr (3, [.int 0, .int 0, .int 0, .int 0, .ref qp, .ref qq, .ref qP, .ref qQ, .int 0, .ref qs, .null])), (qp, .inl (aC 1, (480, .inr (.inl (fun _ => 0))))), (qq, .inl (aC 1, (480, .inr (.inl (fun _ => 0))))), (qP, .inl (aC 1, (292, .inr (.inl (fun _ => 0))))), (qQ, .inl (aC 1, (292, .inr (.inl (fun _ => 0))))), (qs, .inl (aC 0, (24, .inl (fun _ => 0))))] := hD
  refine lv_aload_n hx hb dk_M_48 rfl (lv_at hl 0 rfl) ?_
  refine lv_bipush (v := 96) hx hb dk_M_49 (by decide) ?_
  refine ca_newa (atype := .int) (n := 96) (N' := 96) (a0 := (96, .inl (fun _ => 0))) hx hb (hG _ mk_5) rfl 0 rfl (by first | exact Or.inl rfl | exact Or.inr rfl) hK hP hD hS hA (fun _ => rfl) (by decide) (by decide) (by decide) (Nat.le_of_ble_eq_true rfl) (Nat.le_of_ble_eq_true rfl) dk_M_51 (fun qf H hP hD hS => ?_)
  have hP : va_P D mm_clb [(h0, .inr (3, [.int 0, .int 0, .int 0, .int 0, .ref qp, .ref qq, .ref qP, .ref qQ, .int 0, .ref qs, .null])), (qp, .inl (aC 1, (480, .inr (.inl (fun _ => 0))))), (qq, .inl (aC 1, (480, .inr (.inl (fun _ => 0))))), (qP, .inl (aC 1, (292, .inr (.inl (fun _ => 0))))), (qQ, .inl (aC 1, (292, .inr (.inl (fun _ => 0))))), (qs, .inl (aC 0, (24, .inl (fun _ => 0)))), (qf, .inl (aC 0, (96, .inl (fun _ => 0))))] H := hP
  have hD : va_D A [(h0, .inr (3, [.int 0, .int 0, .int 0, .int 0, .ref qp, .ref qq, .ref qP, .ref qQ, .int 0, .ref qs, .null])), (qp, .inl (aC 1, (480, .inr (.inl (fun _ => 0))))), (qq, .inl (aC 1, (480, .inr (.inl (fun _ => 0))))), (qP, .inl (aC 1, (292, .inr (.inl (fun _ => 0))))), (qQ, .inl (aC 1, (292, .inr (.inl (fun _ => 0))))), (qs, .inl (aC 0, (24, .inl (fun _ => 0)))), (qf, .inl (aC 0, (96, .inl (fun _ => 0))))] := hD
  refine va_putF (D := D) (ci := 3) (v := .ref qf) (ty := .array .int) (C := mm_RM) (T := mm_TM) (N := 11) hx hb hG mi_3 mm_tyM mm_tyM_ok mm_nmM hown hK hP hD hS 0 rfl rfl 10 (by decide) (hG _ mk_35) (fun _ h9 => h9) rfl hin rfl (by decide +kernel) rfl rfl (Nat.le_of_ble_eq_true rfl) dk_M_53 (fun H locs hP hD hS => ?_)
  have hP : va_P D mm_clb [(h0, .inr (3, [.int 0, .int 0, .int 0, .int 0, .ref qp, .ref qq, .ref qP, .ref qQ, .int 0, .ref qs, .ref qf])), (qp, .inl (aC 1, (480, .inr (.inl (fun _ => 0))))), (qq, .inl (aC 1, (480, .inr (.inl (fun _ => 0))))), (qP, .inl (aC 1, (292, .inr (.inl (fun _ => 0))))), (qQ, .inl (aC 1, (292, .inr (.inl (fun _ => 0))))), (qs, .inl (aC 0, (24, .inl (fun _ => 0)))), (qf, .inl (aC 0, (96, .inl (fun _ => 0))))] H := hP
  have hD : va_D A [(h0, .inr (3, [.int 0, .int 0, .int 0, .int 0, .ref qp, .ref qq, .ref qP, .ref qQ, .int 0, .ref qs, .ref qf])), (qp, .inl (aC 1, (480, .inr (.inl (fun _ => 0))))), (qq, .inl (aC 1, (480, .inr (.inl (fun _ => 0))))), (qP, .inl (aC 1, (292, .inr (.inl (fun _ => 0))))), (qQ, .inl (aC 1, (292, .inr (.inl (fun _ => 0))))), (qs, .inl (aC 0, (24, .inl (fun _ => 0)))), (qf, .inl (aC 0, (96, .inl (fun _ => 0))))] := hD
  refine lv_iconst (v := 0) hx hb dk_M_56 (by decide) ?_
  refine lv_istore_n hx hb dk_M_57 rfl hl (by decide) rfl (fun ls hl => ?_)
  have cv : ∀ (k : Nat) (q : Nat × va_E), ([(h0, .inr (3, [.int 0, .int 0, .int 0, .int 0, .ref qp, .ref qq, .ref qP, .ref qQ, .int 0, .ref qs, .ref qf])), (qp, .inl (aC 1, (480, .inr (.inl (fun _ => 0))))), (qq, .inl (aC 1, (480, .inr (.inl (md_q 0))))), (qP, .inl (aC 1, (292, .inr (.inl (fun _ => 0))))), (qQ, .inl (aC 1, (292, .inr (.inl (fun _ => 0))))), (qs, .inl (aC 0, (24, .inl (fun _ => 0)))), (qf, .inl (aC 0, (96, .inl (fun _ => 0))))] : va_W)[k]? = some q → ∃ q0 : Nat × va_E, ([(h0, .inr (3, [.int 0, .int 0, .int 0, .int 0, .ref qp, .ref qq, .ref qP, .ref qQ, .int 0, .ref qs, .ref qf])), (qp, .inl (aC 1, (480, .inr (.inl (fun _ => 0))))), (qq, .inl (aC 1, (480, .inr (.inl (fun _ => 0))))), (qP, .inl (aC 1, (292, .inr (.inl (fun _ => 0))))), (qQ, .inl (aC 1, (292, .inr (.inl (fun _ => 0))))), (qs, .inl (aC 0, (24, .inl (fun _ => 0)))), (qf, .inl (aC 0, (96, .inl (fun _ => 0))))] : va_W)[k]? = some q0 ∧ q0.1 = q.1 ∧ (va_at D mm_clb q0 H → va_at D mm_clb q H) := fun k q hk => by
    match k, hk with
    | 0, hk => exact ⟨q, hk, rfl, id⟩
    | 1, hk => exact ⟨q, hk, rfl, id⟩
    | 2, hk => cases hk; exact ⟨_, rfl, rfl, fun h => by show H[qq]? = some (vp_cell (aC 1) (480, .inr (.inl (md_q 0)))); rw [← md_q0]; exact h⟩
    | n + 3, hk => exact ⟨q, hk, rfl, id⟩
  have hP : va_P D mm_clb [(h0, .inr (3, [.int 0, .int 0, .int 0, .int 0, .ref qp, .ref qq, .ref qP, .ref qQ, .int 0, .ref qs, .ref qf])), (qp, .inl (aC 1, (480, .inr (.inl (fun _ => 0))))), (qq, .inl (aC 1, (480, .inr (.inl (md_q 0))))), (qP, .inl (aC 1, (292, .inr (.inl (fun _ => 0))))), (qQ, .inl (aC 1, (292, .inr (.inl (fun _ => 0))))), (qs, .inl (aC 0, (24, .inl (fun _ => 0)))), (qf, .inl (aC 0, (96, .inl (fun _ => 0))))] H := fun k q hk => by obtain ⟨q0, e1, e2, e3⟩ := cv k q hk; exact e3 (hP k q0 e1)
  have hD : va_D A [(h0, .inr (3, [.int 0, .int 0, .int 0, .int 0, .ref qp, .ref qq, .ref qP, .ref qQ, .int 0, .ref qs, .ref qf])), (qp, .inl (aC 1, (480, .inr (.inl (fun _ => 0))))), (qq, .inl (aC 1, (480, .inr (.inl (md_q 0))))), (qP, .inl (aC 1, (292, .inr (.inl (fun _ => 0))))), (qQ, .inl (aC 1, (292, .inr (.inl (fun _ => 0))))), (qs, .inl (aC 0, (24, .inl (fun _ => 0)))), (qf, .inl (aC 0, (96, .inl (fun _ => 0))))] := ⟨fun i j p q hi hj e => by obtain ⟨p0, e1, e2, -⟩ := cv i p hi; obtain ⟨q0, f1, f2, -⟩ := cv j q hj; exact hD.1 i j p0 q0 e1 f1 (e2.trans (e.trans f2.symm)), fun k q hk => by obtain ⟨q0, e1, e2, -⟩ := cv k q hk; rw [← e2]; exact hD.2 k q0 e1⟩
  refine k_M_loop hx hb hG hown hK (fun H locs ls hl hP hD hS => ?_) 480 0 H locs ls (by omega) hl hP hD hS
  refine lv_aload_n hx hb dk_M_78 rfl (lv_at hl 1 rfl) ?_
  refine va_get (D := D) (ci := 3) (v := .ref qp) (C := mm_RM) (T := mm_TM) (N := 11) hx hb hG mi_3 hown hK hP 0 rfl rfl 4 (by decide) (hG _ mk_31) (fun _ h9 => h9) rfl dk_M_79 ?_
  refine lv_sipush (v := 299) hx hb dk_M_82 (by decide) ?_
  refine lv_lconst (v := 1) hx hb dk_M_85 (by decide) ?_
  refine va_last hx hb hK hP hD hS 1 1 rfl rfl (by unfold vp_in; decide) dk_M_86 (fun H locs hP hD hS => ?_)
  have hP : va_P D mm_clb [(h0, .inr (3, [.int 0, .int 0, .int 0, .int 0, .ref qp, .ref qq, .ref qP, .ref qQ, .int 0, .ref qs, .ref qf])), (qp, .inl (aC 1, (480, .inr (.inl md_p)))), (qq, .inl (aC 1, (480, .inr (.inl (md_q 480))))), (qP, .inl (aC 1, (292, .inr (.inl (fun _ => 0))))), (qQ, .inl (aC 1, (292, .inr (.inl (fun _ => 0))))), (qs, .inl (aC 0, (24, .inl (fun _ => 0)))), (qf, .inl (aC 0, (96, .inl (fun _ => 0))))] H := hP
  have hD : va_D A [(h0, .inr (3, [.int 0, .int 0, .int 0, .int 0, .ref qp, .ref qq, .ref qP, .ref qQ, .int 0, .ref qs, .ref qf])), (qp, .inl (aC 1, (480, .inr (.inl md_p)))), (qq, .inl (aC 1, (480, .inr (.inl (md_q 480))))), (qP, .inl (aC 1, (292, .inr (.inl (fun _ => 0))))), (qQ, .inl (aC 1, (292, .inr (.inl (fun _ => 0))))), (qs, .inl (aC 0, (24, .inl (fun _ => 0)))), (qf, .inl (aC 0, (96, .inl (fun _ => 0))))] := hD
  refine lv_aload_n hx hb dk_M_87 rfl (lv_at hl 1 rfl) ?_
  refine va_get (D := D) (ci := 3) (v := .ref qq) (C := mm_RM) (T := mm_TM) (N := 11) hx hb hG mi_3 hown hK hP 0 rfl rfl 5 (by decide) (hG _ mk_28) (fun _ h9 => h9) rfl dk_M_88 ?_
  refine lv_sipush (v := 299) hx hb dk_M_91 (by decide) ?_
  refine lv_ldc2 hx hb hown (hG _ mk_36) dk_M_94 ?_
  refine va_last hx hb hK hP hD hS 2 1 rfl rfl (by unfold vp_in; decide) dk_M_97 (fun H locs hP hD hS => ?_)
  have hP : va_P D mm_clb [(h0, .inr (3, [.int 0, .int 0, .int 0, .int 0, .ref qp, .ref qq, .ref qP, .ref qQ, .int 0, .ref qs, .ref qf])), (qp, .inl (aC 1, (480, .inr (.inl md_p)))), (qq, .inl (aC 1, (480, .inr (.inl md_q9)))), (qP, .inl (aC 1, (292, .inr (.inl (fun _ => 0))))), (qQ, .inl (aC 1, (292, .inr (.inl (fun _ => 0))))), (qs, .inl (aC 0, (24, .inl (fun _ => 0)))), (qf, .inl (aC 0, (96, .inl (fun _ => 0))))] H := hP
  have hD : va_D A [(h0, .inr (3, [.int 0, .int 0, .int 0, .int 0, .ref qp, .ref qq, .ref qP, .ref qQ, .int 0, .ref qs, .ref qf])), (qp, .inl (aC 1, (480, .inr (.inl md_p)))), (qq, .inl (aC 1, (480, .inr (.inl md_q9)))), (qP, .inl (aC 1, (292, .inr (.inl (fun _ => 0))))), (qQ, .inl (aC 1, (292, .inr (.inl (fun _ => 0))))), (qs, .inl (aC 0, (24, .inl (fun _ => 0)))), (qf, .inl (aC 0, (96, .inl (fun _ => 0))))] := hD
  have hP9 := hP.sub (ws' := [(h0, .inr (3, [.int 0, .int 0, .int 0, .int 0, .ref qp, .ref qq, .ref qP, .ref qQ, .int 0, .ref qs, .ref qf])), (qp, .inl (aC 1, (480, .inr (.inl md_p)))), (qq, .inl (aC 1, (480, .inr (.inl md_q9)))), (qP, .inl (aC 1, (292, .inr (.inl (fun _ => 0))))), (qQ, .inl (aC 1, (292, .inr (.inl (fun _ => 0))))), (qs, .inl (aC 0, (24, .inl (fun _ => 0)))), (qf, .inl (aC 0, (96, .inl (fun _ => 0))))]) [0, 1, 2, 3, 4, 5, 6] rfl
  have hD9 := hD.sub (ws' := [(h0, .inr (3, [.int 0, .int 0, .int 0, .int 0, .ref qp, .ref qq, .ref qP, .ref qQ, .int 0, .ref qs, .ref qf])), (qp, .inl (aC 1, (480, .inr (.inl md_p)))), (qq, .inl (aC 1, (480, .inr (.inl md_q9)))), (qP, .inl (aC 1, (292, .inr (.inl (fun _ => 0))))), (qQ, .inl (aC 1, (292, .inr (.inl (fun _ => 0))))), (qs, .inl (aC 0, (24, .inl (fun _ => 0)))), (qf, .inl (aC 0, (96, .inl (fun _ => 0))))]) [0, 1, 2, 3, 4, 5, 6] (by decide) rfl
  refine W.widen (k := 6) (n := 1664) (Nat.le_of_ble_eq_true rfl) (Nat.le_of_ble_eq_true rfl) ?_
  exact W.vret hx hb hr (fun t ht hW => ⟨⟨(qp, qq, qP, qQ, qs, qf), rfl, trivial, by rw [ht]; exact hP9, va_K.moved hW.alike hK, hD9⟩, hS.F ht⟩) hS.2.2 dk_M_98 hlocks
