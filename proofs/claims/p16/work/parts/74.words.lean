def mm_Gb : List Cond := lw_tbl.filter goodWord
theorem mm_Gb_good : ∀ w ∈ mm_Gb, goodWord w = true := fun w h => (List.mem_filter.mp h).2
theorem mg_t1 {w : Cond} (h : w ∈ tables_1_1) (hg : goodWord w = true) : w ∈ mm_Gb := List.mem_filter.mpr ⟨List.mem_append_right _ (show w ∈ tables_1_1 ++ (tables_1_2 ++ (tables_1_3 ++ (tables_1_4))) from List.mem_append_left _ h), hg⟩
theorem mg_t2 {w : Cond} (h : w ∈ tables_1_2) (hg : goodWord w = true) : w ∈ mm_Gb := List.mem_filter.mpr ⟨List.mem_append_right _ (show w ∈ tables_1_1 ++ (tables_1_2 ++ (tables_1_3 ++ (tables_1_4))) from List.mem_append_right _ (List.mem_append_left _ h)), hg⟩
theorem mg_t3 {w : Cond} (h : w ∈ tables_1_3) (hg : goodWord w = true) : w ∈ mm_Gb := List.mem_filter.mpr ⟨List.mem_append_right _ (show w ∈ tables_1_1 ++ (tables_1_2 ++ (tables_1_3 ++ (tables_1_4))) from List.mem_append_right _ (List.mem_append_right _ (List.mem_append_left _ h))), hg⟩
theorem mg_t4 {w : Cond} (h : w ∈ tables_1_4) (hg : goodWord w = true) : w ∈ mm_Gb := List.mem_filter.mpr ⟨List.mem_append_right _ (show w ∈ tables_1_1 ++ (tables_1_2 ++ (tables_1_3 ++ (tables_1_4))) from List.mem_append_right _ (List.mem_append_right _ (List.mem_append_right _ (h)))), hg⟩
theorem mg_s (i : Nat) {q : MethodName × Nat} (h : lw_privs[i]? = some q) : Cond.selects q.1.cls q.1 q.1 ∈ mm_Gb := List.mem_filter.mpr ⟨List.mem_append_left _ (List.mem_map.mpr ⟨q, List.mem_of_getElem? h, rfl⟩), rfl⟩
def mm_RM : String := "RootCompassModel"
def mm_TM : u_T := fun k => match k with
  | 0 => ("RootCompassModel", "thrown", "I", false)
  | 1 => ("RootCompassModel", "depth", "I", false)
  | 2 => ("RootCompassModel", "wide", "Z", false)
  | 3 => ("RootCompassModel", "failed", "Z", false)
  | 4 => ("RootCompassModel", "p", "[J", true)
  | 5 => ("RootCompassModel", "q", "[J", true)
  | 6 => ("RootCompassModel", "oldP", "[J", true)
  | 7 => ("RootCompassModel", "oldQ", "[J", true)
  | 8 => ("RootCompassModel", "objects", "I", false)
  | 9 => ("RootCompassModel", "step", "[I", true)
  | _ => ("RootCompassModel", "of", "[I", true)
def mm_tyM : Nat → FieldType := fun k => match k with
  | 0 => .int
  | 1 => .int
  | 2 => .boolean
  | 3 => .boolean
  | 4 => .array .long
  | 5 => .array .long
  | 6 => .array .long
  | 7 => .array .long
  | 8 => .int
  | 9 => .array .int
  | _ => .array .int
theorem mm_nmM : ∀ a, a < 11 → ∀ b, b < 11 → a ≠ b → (mm_TM a).2.1 ≠ (mm_TM b).2.1 := by decide +kernel
theorem mm_tyM_ok : ∀ k, k < 11 → parseFieldDescriptor (mm_TM k).2.2.1 = some (mm_tyM k) := by decide +kernel
def mm_clb : List vw_C := [(RX0, TX0, 7), (RX1, TX1, 6), (RX2, TX2, 8), (mm_RM, mm_TM, 11)]
theorem mi_0 : ∀ w ∈ u_ws RX0 TX0 7, w ∈ mm_Gb := by decide +kernel
theorem mi_1 : ∀ w ∈ u_ws RX1 TX1 6, w ∈ mm_Gb := by decide +kernel
theorem mi_2 : ∀ w ∈ u_ws RX2 TX2 8, w ∈ mm_Gb := by decide +kernel
theorem mi_3 : ∀ w ∈ u_ws mm_RM mm_TM 11, w ∈ mm_Gb := by decide +kernel
def mm_Zb : mm_Sx := ([("RootCompass", 51, "a number is out of its range"), ("RootCompass", 75, "no such points"), ("RootCompass", 80, "no two such lines or circles"), ("RootCompass", 85, "no such meeting"), ("RootCompass", 90, "no such free point"), ("RootCompass", 99, "no such point, or no such line or circle"), ("RootCompass", 124, "no such lines"), ("RootCompass", 155, "no such point, or n is out of its range"), ("RootCompass", 160, "no such point or part"), ("RootCompass", 168, "no such level or part"), ("RootCompass", 186, "there are 24 objects"), ("RootCompass", 195, "this can\'t be made"), ("RootCompass", 202, "a fraction is too wide")], [Cond.fieldLinkNest "RootCompass" 96 "RootCompass$Numbers" "depth" "I" "RootCompass", Cond.fieldLinkNest "RootCompass" 198 "RootCompass$Numbers" "failed" "Z" "RootCompass", Cond.fieldLinkNest "RootCompass" 243 "RootCompass$Cut" "a" "I" "RootCompass", Cond.fieldLinkNest "RootCompass" 246 "RootCompass$Cut" "b" "I" "RootCompass", Cond.fieldLinkNest "RootCompass" 249 "RootCompass$Cut" "c" "I" "RootCompass", Cond.fieldLinkNest "RootCompass" 252 "RootCompass$Cut" "x" "I" "RootCompass", Cond.fieldLinkNest "RootCompass" 255 "RootCompass$Cut" "y" "I" "RootCompass", Cond.fieldLinkNest "RootCompass" 258 "RootCompass$Cut" "e" "I" "RootCompass", Cond.fieldLinkNest "RootCompass" 261 "RootCompass$Cut" "m" "I" "RootCompass", Cond.declares ⟨"java/lang/RuntimeException", "<init>", "()V"⟩, Cond.declares ⟨"java/lang/RuntimeException", "<init>", "(Ljava/lang/String;)V"⟩, Cond.declares ⟨"java/lang/Exception", "<init>", "()V"⟩, Cond.declares ⟨"java/lang/Exception", "<init>", "(Ljava/lang/String;)V"⟩, Cond.declares ⟨"java/lang/Throwable", "<init>", "()V"⟩, Cond.declares ⟨"java/lang/Throwable", "<init>", "(Ljava/lang/String;)V"⟩], ["java/lang/IllegalArgumentException", "java/lang/IllegalStateException", "java/lang/IndexOutOfBoundsException", "java/lang/UnsupportedOperationException"])
theorem mn_0 : Cond.fieldLinkNest "RootCompass" 96 "RootCompass$Numbers" "depth" "I" "RootCompass" ∈ mm_Zb.2.1 := List.mem_of_getElem? (i := 0) rfl
theorem mn_1 : Cond.fieldLinkNest "RootCompass" 198 "RootCompass$Numbers" "failed" "Z" "RootCompass" ∈ mm_Zb.2.1 := List.mem_of_getElem? (i := 1) rfl
theorem mn_2 : Cond.fieldLinkNest "RootCompass" 243 "RootCompass$Cut" "a" "I" "RootCompass" ∈ mm_Zb.2.1 := List.mem_of_getElem? (i := 2) rfl
theorem mn_3 : Cond.fieldLinkNest "RootCompass" 246 "RootCompass$Cut" "b" "I" "RootCompass" ∈ mm_Zb.2.1 := List.mem_of_getElem? (i := 3) rfl
theorem mn_4 : Cond.fieldLinkNest "RootCompass" 249 "RootCompass$Cut" "c" "I" "RootCompass" ∈ mm_Zb.2.1 := List.mem_of_getElem? (i := 4) rfl
theorem mn_5 : Cond.fieldLinkNest "RootCompass" 252 "RootCompass$Cut" "x" "I" "RootCompass" ∈ mm_Zb.2.1 := List.mem_of_getElem? (i := 5) rfl
theorem mn_6 : Cond.fieldLinkNest "RootCompass" 255 "RootCompass$Cut" "y" "I" "RootCompass" ∈ mm_Zb.2.1 := List.mem_of_getElem? (i := 6) rfl
theorem mn_7 : Cond.fieldLinkNest "RootCompass" 258 "RootCompass$Cut" "e" "I" "RootCompass" ∈ mm_Zb.2.1 := List.mem_of_getElem? (i := 7) rfl
theorem mn_8 : Cond.fieldLinkNest "RootCompass" 261 "RootCompass$Cut" "m" "I" "RootCompass" ∈ mm_Zb.2.1 := List.mem_of_getElem? (i := 8) rfl
theorem mm_Zb_wk : ∀ w ∈ mm_Zb.2.1, mm_wk w = true := by decide +kernel
