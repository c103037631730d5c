theorem mz_a0 : ∀ w ∈ vx_atS "RootCompass" 53 "java/lang/IllegalArgumentException" ["java/lang/RuntimeException", "java/lang/Exception"], w = .castable "java/lang/IllegalArgumentException" "java/lang/IllegalArgumentException" ∨ w ∈ mm_Zb.2.1 ∨ w ∈ mm_Gb := by decide +kernel
theorem mz_g0 : ∀ w ∈ Cond.classLink "RootCompass" 49 "java/lang/IllegalArgumentException" :: Cond.initialized "java/lang/IllegalArgumentException" :: vx_atS "RootCompass" 53 "java/lang/IllegalArgumentException" ["java/lang/RuntimeException", "java/lang/Exception"], vx_ot w = true := by decide +kernel
theorem mz_w0 : Cond.classLink "RootCompass" 49 "java/lang/IllegalArgumentException" ∈ mm_Gb := mg_t1 (List.mem_of_getElem? (i := 134) (by decide +kernel)) (by decide +kernel)
theorem mz_i0 : Cond.initialized "java/lang/IllegalArgumentException" ∈ mm_Gb := mg_t1 (List.mem_of_getElem? (i := 8) (by decide +kernel)) (by decide +kernel)
theorem mz_a1 : ∀ w ∈ vx_atS "RootCompass" 170 "java/lang/IndexOutOfBoundsException" ["java/lang/RuntimeException", "java/lang/Exception"], w = .castable "java/lang/IndexOutOfBoundsException" "java/lang/IndexOutOfBoundsException" ∨ w ∈ mm_Zb.2.1 ∨ w ∈ mm_Gb := by decide +kernel
theorem mz_g1 : ∀ w ∈ Cond.classLink "RootCompass" 166 "java/lang/IndexOutOfBoundsException" :: Cond.initialized "java/lang/IndexOutOfBoundsException" :: vx_atS "RootCompass" 170 "java/lang/IndexOutOfBoundsException" ["java/lang/RuntimeException", "java/lang/Exception"], vx_ot w = true := by decide +kernel
theorem mz_w1 : Cond.classLink "RootCompass" 166 "java/lang/IndexOutOfBoundsException" ∈ mm_Gb := mg_t3 (List.mem_of_getElem? (i := 96) (by decide +kernel)) (by decide +kernel)
theorem mz_i1 : Cond.initialized "java/lang/IndexOutOfBoundsException" ∈ mm_Gb := mg_t1 (List.mem_of_getElem? (i := 13) (by decide +kernel)) (by decide +kernel)
theorem mz_a2 : ∀ w ∈ vx_atS "RootCompass" 188 "java/lang/IllegalStateException" ["java/lang/RuntimeException", "java/lang/Exception"], w = .castable "java/lang/IllegalStateException" "java/lang/IllegalStateException" ∨ w ∈ mm_Zb.2.1 ∨ w ∈ mm_Gb := by decide +kernel
theorem mz_g2 : ∀ w ∈ Cond.classLink "RootCompass" 184 "java/lang/IllegalStateException" :: Cond.initialized "java/lang/IllegalStateException" :: vx_atS "RootCompass" 188 "java/lang/IllegalStateException" ["java/lang/RuntimeException", "java/lang/Exception"], vx_ot w = true := by decide +kernel
theorem mz_w2 : Cond.classLink "RootCompass" 184 "java/lang/IllegalStateException" ∈ mm_Gb := mg_t1 (List.mem_of_getElem? (i := 207) (by decide +kernel)) (by decide +kernel)
theorem mz_i2 : Cond.initialized "java/lang/IllegalStateException" ∈ mm_Gb := mg_t1 (List.mem_of_getElem? (i := 9) (by decide +kernel)) (by decide +kernel)
theorem mz_a3 : ∀ w ∈ vx_atS "RootCompass" 197 "java/lang/UnsupportedOperationException" ["java/lang/RuntimeException", "java/lang/Exception"], w = .castable "java/lang/UnsupportedOperationException" "java/lang/UnsupportedOperationException" ∨ w ∈ mm_Zb.2.1 ∨ w ∈ mm_Gb := by decide +kernel
theorem mz_g3 : ∀ w ∈ Cond.classLink "RootCompass" 193 "java/lang/UnsupportedOperationException" :: Cond.initialized "java/lang/UnsupportedOperationException" :: vx_atS "RootCompass" 197 "java/lang/UnsupportedOperationException" ["java/lang/RuntimeException", "java/lang/Exception"], vx_ot w = true := by decide +kernel
theorem mz_w3 : Cond.classLink "RootCompass" 193 "java/lang/UnsupportedOperationException" ∈ mm_Gb := mg_t2 (List.mem_of_getElem? (i := 174) (by decide +kernel)) (by decide +kernel)
theorem mz_i3 : Cond.initialized "java/lang/UnsupportedOperationException" ∈ mm_Gb := mg_t1 (List.mem_of_getElem? (i := 12) (by decide +kernel)) (by decide +kernel)
theorem mx_C_free (l : Launch) (hl : l.stackTraces = false) : mm_okX l mm_Zb mm_Gb mm_clb mp_C_free_t := by
  intro pc E h _
  have h := mm_lk_mem h
  have h : (pc, E) ∈ [(11, "java/lang/IllegalArgumentException")] := h
  simp only [List.mem_cons, List.not_mem_nil, or_false, Prod.mk.injEq] at h
  rcases h with ⟨rfl, rfl⟩
  · exact mm_throw hl (t := mp_C_free_t) (E := "java/lang/IllegalArgumentException") (text := "a number is out of its range") (names := ["java/lang/RuntimeException", "java/lang/Exception"]) (ik := 49) (is := 51) (ic := 53) (pc := 11) (by decide +kernel) (by decide +kernel) rfl mz_w0 mz_i0 (List.mem_of_getElem? (i := 0) rfl) (List.mem_of_getElem? (i := 0) rfl) mz_a0 mm_Zb_wk mz_g0 (by decide +kernel) (by decide +kernel) (by decide +kernel) (by decide +kernel) (by decide +kernel)
theorem mx_C_line (l : Launch) (hl : l.stackTraces = false) : mm_okX l mm_Zb mm_Gb mm_clb mp_C_line_t := by
  intro pc E h _
  have h := mm_lk_mem h
  have h : (pc, E) ∈ [(16, "java/lang/IllegalArgumentException")] := h
  simp only [List.mem_cons, List.not_mem_nil, or_false, Prod.mk.injEq] at h
  rcases h with ⟨rfl, rfl⟩
  · exact mm_throw hl (t := mp_C_line_t) (E := "java/lang/IllegalArgumentException") (text := "no such points") (names := ["java/lang/RuntimeException", "java/lang/Exception"]) (ik := 49) (is := 75) (ic := 53) (pc := 16) (by decide +kernel) (by decide +kernel) rfl mz_w0 mz_i0 (List.mem_of_getElem? (i := 1) rfl) (List.mem_of_getElem? (i := 0) rfl) mz_a0 mm_Zb_wk mz_g0 (by decide +kernel) (by decide +kernel) (by decide +kernel) (by decide +kernel) (by decide +kernel)
theorem mx_C_circle (l : Launch) (hl : l.stackTraces = false) : mm_okX l mm_Zb mm_Gb mm_clb mp_C_circle_t := by
  intro pc E h _
  have h := mm_lk_mem h
  have h : (pc, E) ∈ [(24, "java/lang/IllegalArgumentException")] := h
  simp only [List.mem_cons, List.not_mem_nil, or_false, Prod.mk.injEq] at h
  rcases h with ⟨rfl, rfl⟩
  · exact mm_throw hl (t := mp_C_circle_t) (E := "java/lang/IllegalArgumentException") (text := "no such points") (names := ["java/lang/RuntimeException", "java/lang/Exception"]) (ik := 49) (is := 75) (ic := 53) (pc := 24) (by decide +kernel) (by decide +kernel) rfl mz_w0 mz_i0 (List.mem_of_getElem? (i := 1) rfl) (List.mem_of_getElem? (i := 0) rfl) mz_a0 mm_Zb_wk mz_g0 (by decide +kernel) (by decide +kernel) (by decide +kernel) (by decide +kernel) (by decide +kernel)
theorem mx_C_middle (l : Launch) (hl : l.stackTraces = false) : mm_okX l mm_Zb mm_Gb mm_clb mp_C_middle_t := by
  intro pc E h _
  have h := mm_lk_mem h
  have h : (pc, E) ∈ [(16, "java/lang/IllegalArgumentException")] := h
  simp only [List.mem_cons, List.not_mem_nil, or_false, Prod.mk.injEq] at h
  rcases h with ⟨rfl, rfl⟩
  · exact mm_throw hl (t := mp_C_middle_t) (E := "java/lang/IllegalArgumentException") (text := "no such points") (names := ["java/lang/RuntimeException", "java/lang/Exception"]) (ik := 49) (is := 75) (ic := 53) (pc := 16) (by decide +kernel) (by decide +kernel) rfl mz_w0 mz_i0 (List.mem_of_getElem? (i := 1) rfl) (List.mem_of_getElem? (i := 0) rfl) mz_a0 mm_Zb_wk mz_g0 (by decide +kernel) (by decide +kernel) (by decide +kernel) (by decide +kernel) (by decide +kernel)
theorem mx_C_meet (l : Launch) (hl : l.stackTraces = false) : mm_okX l mm_Zb mm_Gb mm_clb mp_C_meet_t := by
  intro pc E h _
  have h := mm_lk_mem h
  have h : (pc, E) ∈ [(21, "java/lang/IllegalArgumentException"), (78, "java/lang/IllegalArgumentException")] := h
  simp only [List.mem_cons, List.not_mem_nil, or_false, Prod.mk.injEq] at h
  rcases h with ⟨rfl, rfl⟩ | ⟨rfl, rfl⟩
  · exact mm_throw hl (t := mp_C_meet_t) (E := "java/lang/IllegalArgumentException") (text := "no two such lines or circles") (names := ["java/lang/RuntimeException", "java/lang/Exception"]) (ik := 49) (is := 80) (ic := 53) (pc := 21) (by decide +kernel) (by decide +kernel) rfl mz_w0 mz_i0 (List.mem_of_getElem? (i := 2) rfl) (List.mem_of_getElem? (i := 0) rfl) mz_a0 mm_Zb_wk mz_g0 (by decide +kernel) (by decide +kernel) (by decide +kernel) (by decide +kernel) (by decide +kernel)
  · exact mm_throw hl (t := mp_C_meet_t) (E := "java/lang/IllegalArgumentException") (text := "no such meeting") (names := ["java/lang/RuntimeException", "java/lang/Exception"]) (ik := 49) (is := 85) (ic := 53) (pc := 78) (by decide +kernel) (by decide +kernel) rfl mz_w0 mz_i0 (List.mem_of_getElem? (i := 3) rfl) (List.mem_of_getElem? (i := 0) rfl) mz_a0 mm_Zb_wk mz_g0 (by decide +kernel) (by decide +kernel) (by decide +kernel) (by decide +kernel) (by decide +kernel)
theorem mx_C_move (l : Launch) (hl : l.stackTraces = false) : mm_okX l mm_Zb mm_Gb mm_clb mp_C_move_t := by
  intro pc E h _
  have h := mm_lk_mem h
  have h : (pc, E) ∈ [(17, "java/lang/IllegalArgumentException"), (39, "java/lang/IllegalArgumentException")] := h
  simp only [List.mem_cons, List.not_mem_nil, or_false, Prod.mk.injEq] at h
  rcases h with ⟨rfl, rfl⟩ | ⟨rfl, rfl⟩
  · exact mm_throw hl (t := mp_C_move_t) (E := "java/lang/IllegalArgumentException") (text := "no such free point") (names := ["java/lang/RuntimeException", "java/lang/Exception"]) (ik := 49) (is := 90) (ic := 53) (pc := 17) (by decide +kernel) (by decide +kernel) rfl mz_w0 mz_i0 (List.mem_of_getElem? (i := 4) rfl) (List.mem_of_getElem? (i := 0) rfl) mz_a0 mm_Zb_wk mz_g0 (by decide +kernel) (by decide +kernel) (by decide +kernel) (by decide +kernel) (by decide +kernel)
  · exact mm_throw hl (t := mp_C_move_t) (E := "java/lang/IllegalArgumentException") (text := "a number is out of its range") (names := ["java/lang/RuntimeException", "java/lang/Exception"]) (ik := 49) (is := 51) (ic := 53) (pc := 39) (by decide +kernel) (by decide +kernel) rfl mz_w0 mz_i0 (List.mem_of_getElem? (i := 0) rfl) (List.mem_of_getElem? (i := 0) rfl) mz_a0 mm_Zb_wk mz_g0 (by decide +kernel) (by decide +kernel) (by decide +kernel) (by decide +kernel) (by decide +kernel)
theorem mx_C_on (l : Launch) (hl : l.stackTraces = false) : mm_okX l mm_Zb mm_Gb mm_clb mp_C_on_t := by
  intro pc E h _
  have h := mm_lk_mem h
  have h : (pc, E) ∈ [(16, "java/lang/IllegalArgumentException")] := h
  simp only [List.mem_cons, List.not_mem_nil, or_false, Prod.mk.injEq] at h
  rcases h with ⟨rfl, rfl⟩
  · exact mm_throw hl (t := mp_C_on_t) (E := "java/lang/IllegalArgumentException") (text := "no such point, or no such line or circle") (names := ["java/lang/RuntimeException", "java/lang/Exception"]) (ik := 49) (is := 99) (ic := 53) (pc := 16) (by decide +kernel) (by decide +kernel) rfl mz_w0 mz_i0 (List.mem_of_getElem? (i := 5) rfl) (List.mem_of_getElem? (i := 0) rfl) mz_a0 mm_Zb_wk mz_g0 (by decide +kernel) (by decide +kernel) (by decide +kernel) (by decide +kernel) (by decide +kernel)
theorem mx_C_same (l : Launch) (hl : l.stackTraces = false) : mm_okX l mm_Zb mm_Gb mm_clb mp_C_same_t := by
  intro pc E h _
  have h := mm_lk_mem h
  have h : (pc, E) ∈ [(16, "java/lang/IllegalArgumentException")] := h
  simp only [List.mem_cons, List.not_mem_nil, or_false, Prod.mk.injEq] at h
  rcases h with ⟨rfl, rfl⟩
  · exact mm_throw hl (t := mp_C_same_t) (E := "java/lang/IllegalArgumentException") (text := "no such points") (names := ["java/lang/RuntimeException", "java/lang/Exception"]) (ik := 49) (is := 75) (ic := 53) (pc := 16) (by decide +kernel) (by decide +kernel) rfl mz_w0 mz_i0 (List.mem_of_getElem? (i := 1) rfl) (List.mem_of_getElem? (i := 0) rfl) mz_a0 mm_Zb_wk mz_g0 (by decide +kernel) (by decide +kernel) (by decide +kernel) (by decide +kernel) (by decide +kernel)
theorem mx_C_equal (l : Launch) (hl : l.stackTraces = false) : mm_okX l mm_Zb mm_Gb mm_clb mp_C_equal_t := by
  intro pc E h _
  have h := mm_lk_mem h
  have h : (pc, E) ∈ [(33, "java/lang/IllegalArgumentException")] := h
  simp only [List.mem_cons, List.not_mem_nil, or_false, Prod.mk.injEq] at h
  rcases h with ⟨rfl, rfl⟩
  · exact mm_throw hl (t := mp_C_equal_t) (E := "java/lang/IllegalArgumentException") (text := "no such points") (names := ["java/lang/RuntimeException", "java/lang/Exception"]) (ik := 49) (is := 75) (ic := 53) (pc := 33) (by decide +kernel) (by decide +kernel) rfl mz_w0 mz_i0 (List.mem_of_getElem? (i := 1) rfl) (List.mem_of_getElem? (i := 0) rfl) mz_a0 mm_Zb_wk mz_g0 (by decide +kernel) (by decide +kernel) (by decide +kernel) (by decide +kernel) (by decide +kernel)
theorem mx_C_angle (l : Launch) (hl : l.stackTraces = false) : mm_okX l mm_Zb mm_Gb mm_clb mp_C_angle_t := by
  intro pc E h _
  have h := mm_lk_mem h
  have h : (pc, E) ∈ [(16, "java/lang/IllegalArgumentException")] := h
  simp only [List.mem_cons, List.not_mem_nil, or_false, Prod.mk.injEq] at h
  rcases h with ⟨rfl, rfl⟩
  · exact mm_throw hl (t := mp_C_angle_t) (E := "java/lang/IllegalArgumentException") (text := "no such lines") (names := ["java/lang/RuntimeException", "java/lang/Exception"]) (ik := 49) (is := 124) (ic := 53) (pc := 16) (by decide +kernel) (by decide +kernel) rfl mz_w0 mz_i0 (List.mem_of_getElem? (i := 6) rfl) (List.mem_of_getElem? (i := 0) rfl) mz_a0 mm_Zb_wk mz_g0 (by decide +kernel) (by decide +kernel) (by decide +kernel) (by decide +kernel) (by decide +kernel)
theorem mx_C_side (l : Launch) (hl : l.stackTraces = false) : mm_okX l mm_Zb mm_Gb mm_clb mp_C_side_t := by
  intro pc E h _
  have h := mm_lk_mem h
  have h : (pc, E) ∈ [(24, "java/lang/IllegalArgumentException")] := h
  simp only [List.mem_cons, List.not_mem_nil, or_false, Prod.mk.injEq] at h
  rcases h with ⟨rfl, rfl⟩
  · exact mm_throw hl (t := mp_C_side_t) (E := "java/lang/IllegalArgumentException") (text := "no such points") (names := ["java/lang/RuntimeException", "java/lang/Exception"]) (ik := 49) (is := 75) (ic := 53) (pc := 24) (by decide +kernel) (by decide +kernel) rfl mz_w0 mz_i0 (List.mem_of_getElem? (i := 1) rfl) (List.mem_of_getElem? (i := 0) rfl) mz_a0 mm_Zb_wk mz_g0 (by decide +kernel) (by decide +kernel) (by decide +kernel) (by decide +kernel) (by decide +kernel)
theorem mx_C_sign (l : Launch) (hl : l.stackTraces = false) : mm_okX l mm_Zb mm_Gb mm_clb mp_C_sign_t := by
  intro pc E h _
  have h := mm_lk_mem h
  have h : (pc, E) ∈ [(20, "java/lang/IllegalArgumentException")] := h
  simp only [List.mem_cons, List.not_mem_nil, or_false, Prod.mk.injEq] at h
  rcases h with ⟨rfl, rfl⟩
  · exact mm_throw hl (t := mp_C_sign_t) (E := "java/lang/IllegalArgumentException") (text := "no such point, or n is out of its range") (names := ["java/lang/RuntimeException", "java/lang/Exception"]) (ik := 49) (is := 155) (ic := 53) (pc := 20) (by decide +kernel) (by decide +kernel) rfl mz_w0 mz_i0 (List.mem_of_getElem? (i := 7) rfl) (List.mem_of_getElem? (i := 0) rfl) mz_a0 mm_Zb_wk mz_g0 (by decide +kernel) (by decide +kernel) (by decide +kernel) (by decide +kernel) (by decide +kernel)
theorem mx_C_part (l : Launch) (hl : l.stackTraces = false) : mm_okX l mm_Zb mm_Gb mm_clb mp_C_part_t := by
  intro pc E h _
  have h := mm_lk_mem h
  have h : (pc, E) ∈ [(17, "java/lang/IllegalArgumentException")] := h
  simp only [List.mem_cons, List.not_mem_nil, or_false, Prod.mk.injEq] at h
  rcases h with ⟨rfl, rfl⟩
  · exact mm_throw hl (t := mp_C_part_t) (E := "java/lang/IllegalArgumentException") (text := "no such point or part") (names := ["java/lang/RuntimeException", "java/lang/Exception"]) (ik := 49) (is := 160) (ic := 53) (pc := 17) (by decide +kernel) (by decide +kernel) rfl mz_w0 mz_i0 (List.mem_of_getElem? (i := 8) rfl) (List.mem_of_getElem? (i := 0) rfl) mz_a0 mm_Zb_wk mz_g0 (by decide +kernel) (by decide +kernel) (by decide +kernel) (by decide +kernel) (by decide +kernel)
theorem mx_C_radicand (l : Launch) (hl : l.stackTraces = false) : mm_okX l mm_Zb mm_Gb mm_clb mp_C_radicand_t := by
  intro pc E h _
  have h := mm_lk_mem h
  have h : (pc, E) ∈ [(25, "java/lang/IndexOutOfBoundsException")] := h
  simp only [List.mem_cons, List.not_mem_nil, or_false, Prod.mk.injEq] at h
  rcases h with ⟨rfl, rfl⟩
  · exact mm_throw hl (t := mp_C_radicand_t) (E := "java/lang/IndexOutOfBoundsException") (text := "no such level or part") (names := ["java/lang/RuntimeException", "java/lang/Exception"]) (ik := 166) (is := 168) (ic := 170) (pc := 25) (by decide +kernel) (by decide +kernel) rfl mz_w1 mz_i1 (List.mem_of_getElem? (i := 9) rfl) (List.mem_of_getElem? (i := 2) rfl) mz_a1 mm_Zb_wk mz_g1 (by decide +kernel) (by decide +kernel) (by decide +kernel) (by decide +kernel) (by decide +kernel)
theorem mx_C_addStep (l : Launch) (hl : l.stackTraces = false) : mm_okX l mm_Zb mm_Gb mm_clb mp_C_addStep_t := by
  intro pc E h _
  have h := mm_lk_mem h
  have h : (pc, E) ∈ [(9, "java/lang/IllegalStateException")] := h
  simp only [List.mem_cons, List.not_mem_nil, or_false, Prod.mk.injEq] at h
  rcases h with ⟨rfl, rfl⟩
  · exact mm_throw hl (t := mp_C_addStep_t) (E := "java/lang/IllegalStateException") (text := "there are 24 objects") (names := ["java/lang/RuntimeException", "java/lang/Exception"]) (ik := 184) (is := 186) (ic := 188) (pc := 9) (by decide +kernel) (by decide +kernel) rfl mz_w2 mz_i2 (List.mem_of_getElem? (i := 10) rfl) (List.mem_of_getElem? (i := 1) rfl) mz_a2 mm_Zb_wk mz_g2 (by decide +kernel) (by decide +kernel) (by decide +kernel) (by decide +kernel) (by decide +kernel)
theorem mx_C_settle (l : Launch) (hl : l.stackTraces = false) : mm_okX l mm_Zb mm_Gb mm_clb mp_C_settle_t := by
  intro pc E h _
  have h := mm_lk_mem h
  have h : (pc, E) ∈ [(10, "java/lang/UnsupportedOperationException")] := h
  simp only [List.mem_cons, List.not_mem_nil, or_false, Prod.mk.injEq] at h
  rcases h with ⟨rfl, rfl⟩
  · exact mm_throw hl (t := mp_C_settle_t) (E := "java/lang/UnsupportedOperationException") (text := "this can\'t be made") (names := ["java/lang/RuntimeException", "java/lang/Exception"]) (ik := 193) (is := 195) (ic := 197) (pc := 10) (by decide +kernel) (by decide +kernel) rfl mz_w3 mz_i3 (List.mem_of_getElem? (i := 11) rfl) (List.mem_of_getElem? (i := 3) rfl) mz_a3 mm_Zb_wk mz_g3 (by decide +kernel) (by decide +kernel) (by decide +kernel) (by decide +kernel) (by decide +kernel)
theorem mx_C_refuseTooWide (l : Launch) (hl : l.stackTraces = false) : mm_okX l mm_Zb mm_Gb mm_clb mp_C_refuseTooWide_t := by
  intro pc E h _
  have h := mm_lk_mem h
  have h : (pc, E) ∈ [(10, "java/lang/UnsupportedOperationException")] := h
  simp only [List.mem_cons, List.not_mem_nil, or_false, Prod.mk.injEq] at h
  rcases h with ⟨rfl, rfl⟩
  · exact mm_throw hl (t := mp_C_refuseTooWide_t) (E := "java/lang/UnsupportedOperationException") (text := "a fraction is too wide") (names := ["java/lang/RuntimeException", "java/lang/Exception"]) (ik := 193) (is := 202) (ic := 197) (pc := 10) (by decide +kernel) (by decide +kernel) rfl mz_w3 mz_i3 (List.mem_of_getElem? (i := 12) rfl) (List.mem_of_getElem? (i := 3) rfl) mz_a3 mm_Zb_wk mz_g3 (by decide +kernel) (by decide +kernel) (by decide +kernel) (by decide +kernel) (by decide +kernel)
theorem mr_0 (l : Launch) (hl : l.stackTraces = false) : ∀ t ∈ mm_T0, mm_okX l mm_Zb mm_Gb mm_clb t := List.forall_mem_cons.mpr ⟨mx_C_free l hl, List.forall_mem_cons.mpr ⟨mx_C_line l hl, List.forall_mem_cons.mpr ⟨mx_C_circle l hl, List.forall_mem_cons.mpr ⟨mx_C_middle l hl, List.forall_mem_cons.mpr ⟨mx_C_meet l hl, List.forall_mem_cons.mpr ⟨mx_C_move l hl, List.forall_mem_cons.mpr ⟨(fun _ _ h _ => nomatch h), List.forall_mem_cons.mpr ⟨mx_C_on l hl, List.forall_mem_cons.mpr ⟨mx_C_same l hl, List.forall_mem_cons.mpr ⟨mx_C_equal l hl, List.forall_mem_cons.mpr ⟨mx_C_angle l hl, List.forall_mem_cons.mpr ⟨mx_C_side l hl, List.forall_mem_cons.mpr ⟨mx_C_sign l hl, List.forall_mem_cons.mpr ⟨mx_C_part l hl, List.forall_mem_cons.mpr ⟨mx_C_radicand l hl, List.forall_mem_cons.mpr ⟨(fun _ _ h _ => nomatch h), List.forall_mem_cons.mpr ⟨(fun _ _ h _ => nomatch h), List.forall_mem_cons.mpr ⟨(fun _ _ h _ => nomatch h), List.forall_mem_cons.mpr ⟨(fun _ _ h _ => nomatch h), List.forall_mem_cons.mpr ⟨(fun _ _ h _ => nomatch h), fun _ h => absurd h List.not_mem_nil⟩⟩⟩⟩⟩⟩⟩⟩⟩⟩⟩⟩⟩⟩⟩⟩⟩⟩⟩⟩
theorem mr_1 (l : Launch) (hl : l.stackTraces = false) : ∀ t ∈ mm_T1, mm_okX l mm_Zb mm_Gb mm_clb t := List.forall_mem_cons.mpr ⟨(fun _ _ h _ => nomatch h), List.forall_mem_cons.mpr ⟨(fun _ _ h _ => nomatch h), List.forall_mem_cons.mpr ⟨(fun _ _ h _ => nomatch h), List.forall_mem_cons.mpr ⟨(fun _ _ h _ => nomatch h), List.forall_mem_cons.mpr ⟨mx_C_addStep l hl, List.forall_mem_cons.mpr ⟨mx_C_settle l hl, List.forall_mem_cons.mpr ⟨mx_C_refuseTooWide l hl, List.forall_mem_cons.mpr ⟨(fun _ _ h _ => nomatch h), List.forall_mem_cons.mpr ⟨(fun _ _ h _ => nomatch h), List.forall_mem_cons.mpr ⟨(fun _ _ h _ => nomatch h), List.forall_mem_cons.mpr ⟨(fun _ _ h _ => nomatch h), List.forall_mem_cons.mpr ⟨(fun _ _ h _ => nomatch h), List.forall_mem_cons.mpr ⟨(fun _ _ h _ => nomatch h), List.forall_mem_cons.mpr ⟨(fun _ _ h _ => nomatch h), List.forall_mem_cons.mpr ⟨(fun _ _ h _ => nomatch h), List.forall_mem_cons.mpr ⟨(fun _ _ h _ => nomatch h), List.forall_mem_cons.mpr ⟨(fun _ _ h _ => nomatch h), List.forall_mem_cons.mpr ⟨(fun _ _ h _ => nomatch h), List.forall_mem_cons.mpr ⟨(fun _ _ h _ => nomatch h), List.forall_mem_cons.mpr ⟨(fun _ _ h _ => nomatch h), fun _ h => absurd h List.not_mem_nil⟩⟩⟩⟩⟩⟩⟩⟩⟩⟩⟩⟩⟩⟩⟩⟩⟩⟩⟩⟩
theorem mr_2 (l : Launch) (hl : l.stackTraces = false) : ∀ t ∈ mm_T2, mm_okX l mm_Zb mm_Gb mm_clb t := List.forall_mem_cons.mpr ⟨(fun _ _ h _ => nomatch h), List.forall_mem_cons.mpr ⟨(fun _ _ h _ => nomatch h), List.forall_mem_cons.mpr ⟨(fun _ _ h _ => nomatch h), List.forall_mem_cons.mpr ⟨(fun _ _ h _ => nomatch h), List.forall_mem_cons.mpr ⟨(fun _ _ h _ => nomatch h), List.forall_mem_cons.mpr ⟨(fun _ _ h _ => nomatch h), List.forall_mem_cons.mpr ⟨(fun _ _ h _ => nomatch h), List.forall_mem_cons.mpr ⟨(fun _ _ h _ => nomatch h), List.forall_mem_cons.mpr ⟨(fun _ _ h _ => nomatch h), List.forall_mem_cons.mpr ⟨(fun _ _ h _ => nomatch h), List.forall_mem_cons.mpr ⟨(fun _ _ h _ => nomatch h), List.forall_mem_cons.mpr ⟨(fun _ _ h _ => nomatch h), List.forall_mem_cons.mpr ⟨(fun _ _ h _ => nomatch h), List.forall_mem_cons.mpr ⟨(fun _ _ h _ => nomatch h), List.forall_mem_cons.mpr ⟨(fun _ _ h _ => nomatch h), List.forall_mem_cons.mpr ⟨(fun _ _ h _ => nomatch h), List.forall_mem_cons.mpr ⟨(fun _ _ h _ => nomatch h), List.forall_mem_cons.mpr ⟨(fun _ _ h _ => nomatch h), List.forall_mem_cons.mpr ⟨(fun _ _ h _ => nomatch h), List.forall_mem_cons.mpr ⟨(fun _ _ h _ => nomatch h), fun _ h => absurd h List.not_mem_nil⟩⟩⟩⟩⟩⟩⟩⟩⟩⟩⟩⟩⟩⟩⟩⟩⟩⟩⟩⟩
theorem mr_3 (l : Launch) (hl : l.stackTraces = false) : ∀ t ∈ mm_T3, mm_okX l mm_Zb mm_Gb mm_clb t := List.forall_mem_cons.mpr ⟨(fun _ _ h _ => nomatch h), List.forall_mem_cons.mpr ⟨(fun _ _ h _ => nomatch h), List.forall_mem_cons.mpr ⟨(fun _ _ h _ => nomatch h), List.forall_mem_cons.mpr ⟨(fun _ _ h _ => nomatch h), List.forall_mem_cons.mpr ⟨(fun _ _ h _ => nomatch h), List.forall_mem_cons.mpr ⟨(fun _ _ h _ => nomatch h), List.forall_mem_cons.mpr ⟨(fun _ _ h _ => nomatch h), List.forall_mem_cons.mpr ⟨(fun _ _ h _ => nomatch h), List.forall_mem_cons.mpr ⟨(fun _ _ h _ => nomatch h), List.forall_mem_cons.mpr ⟨(fun _ _ h _ => nomatch h), List.forall_mem_cons.mpr ⟨(fun _ _ h _ => nomatch h), List.forall_mem_cons.mpr ⟨(fun _ _ h _ => nomatch h), List.forall_mem_cons.mpr ⟨(fun _ _ h _ => nomatch h), List.forall_mem_cons.mpr ⟨(fun _ _ h _ => nomatch h), List.forall_mem_cons.mpr ⟨(fun _ _ h _ => nomatch h), List.forall_mem_cons.mpr ⟨(fun _ _ h _ => nomatch h), List.forall_mem_cons.mpr ⟨(fun _ _ h _ => nomatch h), List.forall_mem_cons.mpr ⟨(fun _ _ h _ => nomatch h), List.forall_mem_cons.mpr ⟨(fun _ _ h _ => nomatch h), List.forall_mem_cons.mpr ⟨(fun _ _ h _ => nomatch h), fun _ h => absurd h List.not_mem_nil⟩⟩⟩⟩⟩⟩⟩⟩⟩⟩⟩⟩⟩⟩⟩⟩⟩⟩⟩⟩
theorem mr_4 (l : Launch) (hl : l.stackTraces = false) : ∀ t ∈ mm_T4, mm_okX l mm_Zb mm_Gb mm_clb t := List.forall_mem_cons.mpr ⟨(fun _ _ h _ => nomatch h), List.forall_mem_cons.mpr ⟨(fun _ _ h _ => nomatch h), List.forall_mem_cons.mpr ⟨(fun _ _ h _ => nomatch h), List.forall_mem_cons.mpr ⟨(fun _ _ h _ => nomatch h), List.forall_mem_cons.mpr ⟨(fun _ _ h _ => nomatch h), List.forall_mem_cons.mpr ⟨(fun _ _ h _ => nomatch h), List.forall_mem_cons.mpr ⟨(fun _ _ h _ => nomatch h), List.forall_mem_cons.mpr ⟨(fun _ _ h _ => nomatch h), List.forall_mem_cons.mpr ⟨(fun _ _ h _ => nomatch h), List.forall_mem_cons.mpr ⟨(fun _ _ h _ => nomatch h), List.forall_mem_cons.mpr ⟨(fun _ _ h _ => nomatch h), List.forall_mem_cons.mpr ⟨(fun _ _ h _ => nomatch h), List.forall_mem_cons.mpr ⟨(fun _ _ h _ => nomatch h), List.forall_mem_cons.mpr ⟨(fun _ _ h _ => nomatch h), List.forall_mem_cons.mpr ⟨(fun _ _ h _ => nomatch h), List.forall_mem_cons.mpr ⟨(fun _ _ h _ => nomatch h), List.forall_mem_cons.mpr ⟨(fun _ _ h _ => nomatch h), List.forall_mem_cons.mpr ⟨(fun _ _ h _ => nomatch h), List.forall_mem_cons.mpr ⟨(fun _ _ h _ => nomatch h), List.forall_mem_cons.mpr ⟨(fun _ _ h _ => nomatch h), fun _ h => absurd h List.not_mem_nil⟩⟩⟩⟩⟩⟩⟩⟩⟩⟩⟩⟩⟩⟩⟩⟩⟩⟩⟩⟩
theorem mr_5 (l : Launch) (hl : l.stackTraces = false) : ∀ t ∈ mm_T5, mm_okX l mm_Zb mm_Gb mm_clb t := List.forall_mem_cons.mpr ⟨(fun _ _ h _ => nomatch h), List.forall_mem_cons.mpr ⟨(fun _ _ h _ => nomatch h), List.forall_mem_cons.mpr ⟨(fun _ _ h _ => nomatch h), List.forall_mem_cons.mpr ⟨(fun _ _ h _ => nomatch h), List.forall_mem_cons.mpr ⟨(fun _ _ h _ => nomatch h), List.forall_mem_cons.mpr ⟨(fun _ _ h _ => nomatch h), List.forall_mem_cons.mpr ⟨(fun _ _ h _ => nomatch h), List.forall_mem_cons.mpr ⟨(fun _ _ h _ => nomatch h), List.forall_mem_cons.mpr ⟨(fun _ _ h _ => nomatch h), List.forall_mem_cons.mpr ⟨(fun _ _ h _ => nomatch h), List.forall_mem_cons.mpr ⟨(fun _ _ h _ => nomatch h), List.forall_mem_cons.mpr ⟨(fun _ _ h _ => nomatch h), List.forall_mem_cons.mpr ⟨(fun _ _ h _ => nomatch h), List.forall_mem_cons.mpr ⟨(fun _ _ h _ => nomatch h), List.forall_mem_cons.mpr ⟨(fun _ _ h _ => nomatch h), List.forall_mem_cons.mpr ⟨(fun _ _ h _ => nomatch h), List.forall_mem_cons.mpr ⟨(fun _ _ h _ => nomatch h), List.forall_mem_cons.mpr ⟨(fun _ _ h _ => nomatch h), List.forall_mem_cons.mpr ⟨(fun _ _ h _ => nomatch h), List.forall_mem_cons.mpr ⟨(fun _ _ h _ => nomatch h), fun _ h => absurd h List.not_mem_nil⟩⟩⟩⟩⟩⟩⟩⟩⟩⟩⟩⟩⟩⟩⟩⟩⟩⟩⟩⟩
theorem mr_6 (l : Launch) (hl : l.stackTraces = false) : ∀ t ∈ mm_T6, mm_okX l mm_Zb mm_Gb mm_clb t := List.forall_mem_cons.mpr ⟨(fun _ _ h _ => nomatch h), List.forall_mem_cons.mpr ⟨(fun _ _ h _ => nomatch h), List.forall_mem_cons.mpr ⟨(fun _ _ h _ => nomatch h), List.forall_mem_cons.mpr ⟨(fun _ _ h _ => nomatch h), List.forall_mem_cons.mpr ⟨(fun _ _ h _ => nomatch h), List.forall_mem_cons.mpr ⟨(fun _ _ h _ => nomatch h), List.forall_mem_cons.mpr ⟨(fun _ _ h _ => nomatch h), List.forall_mem_cons.mpr ⟨(fun _ _ h _ => nomatch h), List.forall_mem_cons.mpr ⟨(fun _ _ h _ => nomatch h), List.forall_mem_cons.mpr ⟨(fun _ _ h _ => nomatch h), List.forall_mem_cons.mpr ⟨(fun _ _ h _ => nomatch h), List.forall_mem_cons.mpr ⟨(fun _ _ h _ => nomatch h), List.forall_mem_cons.mpr ⟨(fun _ _ h _ => nomatch h), List.forall_mem_cons.mpr ⟨(fun _ _ h _ => nomatch h), List.forall_mem_cons.mpr ⟨(fun _ _ h _ => nomatch h), List.forall_mem_cons.mpr ⟨(fun _ _ h _ => nomatch h), List.forall_mem_cons.mpr ⟨(fun _ _ h _ => nomatch h), List.forall_mem_cons.mpr ⟨(fun _ _ h _ => nomatch h), List.forall_mem_cons.mpr ⟨(fun _ _ h _ => nomatch h), List.forall_mem_cons.mpr ⟨(fun _ _ h _ => nomatch h), fun _ h => absurd h List.not_mem_nil⟩⟩⟩⟩⟩⟩⟩⟩⟩⟩⟩⟩⟩⟩⟩⟩⟩⟩⟩⟩
theorem mr_7 (l : Launch) (hl : l.stackTraces = false) : ∀ t ∈ mm_T7, mm_okX l mm_Zb mm_Gb mm_clb t := List.forall_mem_cons.mpr ⟨(fun _ _ h _ => nomatch h), List.forall_mem_cons.mpr ⟨(fun _ _ h _ => nomatch h), List.forall_mem_cons.mpr ⟨(fun _ _ h _ => nomatch h), List.forall_mem_cons.mpr ⟨(fun _ _ h _ => nomatch h), List.forall_mem_cons.mpr ⟨(fun _ _ h _ => nomatch h), List.forall_mem_cons.mpr ⟨(fun _ _ h _ => nomatch h), List.forall_mem_cons.mpr ⟨(fun _ _ h _ => nomatch h), List.forall_mem_cons.mpr ⟨(fun _ _ h _ => nomatch h), List.forall_mem_cons.mpr ⟨(fun _ _ h _ => nomatch h), List.forall_mem_cons.mpr ⟨(fun _ _ h _ => nomatch h), List.forall_mem_cons.mpr ⟨(fun _ _ h _ => nomatch h), List.forall_mem_cons.mpr ⟨(fun _ _ h _ => nomatch h), List.forall_mem_cons.mpr ⟨(fun _ _ h _ => nomatch h), List.forall_mem_cons.mpr ⟨(fun _ _ h _ => nomatch h), List.forall_mem_cons.mpr ⟨(fun _ _ h _ => nomatch h), List.forall_mem_cons.mpr ⟨(fun _ _ h _ => nomatch h), List.forall_mem_cons.mpr ⟨(fun _ _ h _ => nomatch h), List.forall_mem_cons.mpr ⟨(fun _ _ h _ => nomatch h), List.forall_mem_cons.mpr ⟨(fun _ _ h _ => nomatch h), List.forall_mem_cons.mpr ⟨(fun _ _ h _ => nomatch h), fun _ h => absurd h List.not_mem_nil⟩⟩⟩⟩⟩⟩⟩⟩⟩⟩⟩⟩⟩⟩⟩⟩⟩⟩⟩⟩
theorem mr_8 (l : Launch) (hl : l.stackTraces = false) : ∀ t ∈ mm_T8, mm_okX l mm_Zb mm_Gb mm_clb t := List.forall_mem_cons.mpr ⟨(fun _ _ h _ => nomatch h), List.forall_mem_cons.mpr ⟨(fun _ _ h _ => nomatch h), List.forall_mem_cons.mpr ⟨(fun _ _ h _ => nomatch h), List.forall_mem_cons.mpr ⟨(fun _ _ h _ => nomatch h), List.forall_mem_cons.mpr ⟨(fun _ _ h _ => nomatch h), List.forall_mem_cons.mpr ⟨(fun _ _ h _ => nomatch h), fun _ h => absurd h List.not_mem_nil⟩⟩⟩⟩⟩⟩
theorem mm_okXb (l : Launch) (hl : l.stackTraces = false) : ∀ (j : Nat) (t : mm_T), mm_Tb[j]? = some t → mm_okX l mm_Zb mm_Gb mm_clb t := fun _ t h => (show ∀ t ∈ mm_Tb, mm_okX l mm_Zb mm_Gb mm_clb t from List.forall_mem_append.mpr ⟨mr_0 l hl, List.forall_mem_append.mpr ⟨mr_1 l hl, List.forall_mem_append.mpr ⟨mr_2 l hl, List.forall_mem_append.mpr ⟨mr_3 l hl, List.forall_mem_append.mpr ⟨mr_4 l hl, List.forall_mem_append.mpr ⟨mr_5 l hl, List.forall_mem_append.mpr ⟨mr_6 l hl, List.forall_mem_append.mpr ⟨mr_7 l hl, mr_8 l hl⟩⟩⟩⟩⟩⟩⟩⟩) t (List.mem_of_getElem? h)
