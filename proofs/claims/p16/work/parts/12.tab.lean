def mp_C_free : mm_P := ([(0, .iload_n 1, 1), (1, .iload_n 2, 1), (2, .iload_n 3, 1), (3, .iload 4, 2), (5, .invokestatic 45, 3), (8, .ifCond .ne 13, 3), (11, .new 49, 3), (21, .aload_n 0, 1), (22, .iconst 0, 1), (23, .iconst 0, 1), (24, .iconst 0, 1), (25, .iconst 0, 1), (26, .invokevirtual 56, 3), (29, .istore 5, 2), (31, .aload_n 0, 1), (32, .iload 5, 2), (34, .iload_n 1, 1), (35, .iload_n 2, 1), (36, .iload_n 3, 1), (37, .iload 4, 2), (39, .invokevirtual 60, 3), (42, .aload_n 0, 1), (43, .aload_n 0, 1), (44, .iload 5, 2), (46, .invokevirtual 64, 3), (49, .invokevirtual 68, 3), (52, .ireturn, 1)],
  [],
  [],
  [(45, 22, 4, 99), (56, 24, 5, 2), (60, 39, 6, 2), (64, 27, 2, 2), (68, 25, 2, 2)],
  [(11, "java/lang/IllegalArgumentException")],
  [], [])
def mp_C_free_t : mm_T := (⟨"RootCompass", "free", "(IIII)I"⟩, prog_1_method_2_code, 6, (some .int), 4, mp_C_free)
def mp_C_line : mm_P := ([(0, .aload_n 0, 1), (1, .iload_n 1, 1), (2, .invokevirtual 71, 3), (5, .ifCond .eq 11, 3), (8, .aload_n 0, 1), (9, .iload_n 2, 1), (10, .invokevirtual 71, 3), (13, .ifCond .ne 13, 3), (16, .new 49, 3), (26, .aload_n 0, 1), (27, .aload_n 0, 1), (28, .aload_n 0, 1), (29, .iconst 1, 1), (30, .iload_n 1, 1), (31, .iload_n 2, 1), (32, .iconst 0, 1), (33, .invokevirtual 56, 3), (36, .invokevirtual 64, 3), (39, .invokevirtual 68, 3), (42, .ireturn, 1)],
  [],
  [],
  [(56, 24, 5, 2), (64, 27, 2, 2), (68, 25, 2, 2), (71, 18, 2, 2)],
  [(16, "java/lang/IllegalArgumentException")],
  [], [])
def mp_C_line_t : mm_T := (⟨"RootCompass", "line", "(II)I"⟩, prog_1_method_3_code, 3, (some .int), 4, mp_C_line)
def mp_C_circle : mm_P := ([(0, .aload_n 0, 1), (1, .iload_n 1, 1), (2, .invokevirtual 71, 3), (5, .ifCond .eq 19, 3), (8, .aload_n 0, 1), (9, .iload_n 2, 1), (10, .invokevirtual 71, 3), (13, .ifCond .eq 11, 3), (16, .aload_n 0, 1), (17, .iload_n 3, 1), (18, .invokevirtual 71, 3), (21, .ifCond .ne 13, 3), (24, .new 49, 3), (34, .aload_n 0, 1), (35, .aload_n 0, 1), (36, .aload_n 0, 1), (37, .iconst 2, 1), (38, .iload_n 1, 1), (39, .iload_n 2, 1), (40, .iload_n 3, 1), (41, .invokevirtual 56, 3), (44, .invokevirtual 64, 3), (47, .invokevirtual 68, 3), (50, .ireturn, 1)],
  [],
  [],
  [(56, 24, 5, 2), (64, 27, 2, 2), (68, 25, 2, 2), (71, 18, 2, 2)],
  [(24, "java/lang/IllegalArgumentException")],
  [], [])
def mp_C_circle_t : mm_T := (⟨"RootCompass", "circle", "(III)I"⟩, prog_1_method_4_code, 4, (some .int), 4, mp_C_circle)
def mp_C_middle : mm_P := ([(0, .aload_n 0, 1), (1, .iload_n 1, 1), (2, .invokevirtual 71, 3), (5, .ifCond .eq 11, 3), (8, .aload_n 0, 1), (9, .iload_n 2, 1), (10, .invokevirtual 71, 3), (13, .ifCond .ne 13, 3), (16, .new 49, 3), (26, .aload_n 0, 1), (27, .aload_n 0, 1), (28, .aload_n 0, 1), (29, .iconst 3, 1), (30, .iload_n 1, 1), (31, .iload_n 2, 1), (32, .iconst 0, 1), (33, .invokevirtual 56, 3), (36, .invokevirtual 64, 3), (39, .invokevirtual 68, 3), (42, .ireturn, 1)],
  [],
  [],
  [(56, 24, 5, 2), (64, 27, 2, 2), (68, 25, 2, 2), (71, 18, 2, 2)],
  [(16, "java/lang/IllegalArgumentException")],
  [], [])
def mp_C_middle_t : mm_T := (⟨"RootCompass", "middle", "(II)I"⟩, prog_1_method_5_code, 3, (some .int), 4, mp_C_middle)
def mp_C_meet : mm_P := ([(0, .aload_n 0, 1), (1, .iload_n 1, 1), (2, .invokevirtual 77, 3), (5, .ifCond .eq 16, 3), (8, .aload_n 0, 1), (9, .iload_n 2, 1), (10, .invokevirtual 77, 3), (13, .ifCond .eq 8, 3), (16, .iload_n 1, 1), (17, .iload_n 2, 1), (18, .if_icmp .ne 13, 3), (21, .new 49, 3), (31, .aload_n 0, 1), (32, .iload_n 1, 1), (33, .invokevirtual 82, 3), (36, .ifCond .eq 7, 3), (39, .iconst 1, 1), (40, .goto 4, 3), (43, .iconst 0, 1), (44, .aload_n 0, 1), (45, .iload_n 2, 1), (46, .invokevirtual 82, 3), (49, .ifCond .eq 7, 3), (52, .iconst 1, 1), (53, .goto 4, 3), (56, .iconst 0, 1), (57, .iadd, 1), (58, .istore 4, 2), (60, .iload_n 3, 1), (61, .ifCond .lt 17, 3), (64, .iload_n 3, 1), (65, .iload 4, 2), (67, .ifCond .ne 7, 3), (70, .iconst 0, 1), (71, .goto 4, 3), (74, .iconst 1, 1), (75, .if_icmp .le 13, 3), (78, .new 49, 3), (88, .iload 4, 2), (90, .iconst 1, 1), (91, .if_icmp .eq 30, 3), (94, .aload_n 0, 1), (95, .aload_n 0, 1), (96, .aload_n 0, 1), (97, .iload 4, 2), (99, .ifCond .ne 7, 3), (102, .iconst 4, 1), (103, .goto 5, 3), (106, .bipush 6, 2), (108, .iload_n 1, 1), (109, .iload_n 2, 1), (110, .iload_n 3, 1), (111, .invokevirtual 56, 3), (114, .invokevirtual 64, 3), (117, .invokevirtual 68, 3), (120, .ireturn, 1), (121, .aload_n 0, 1), (122, .aload_n 0, 1), (123, .aload_n 0, 1), (124, .iconst 5, 1), (125, .aload_n 0, 1), (126, .iload_n 1, 1), (127, .invokevirtual 87, 3), (130, .ifCond .eq 7, 3), (133, .iload_n 1, 1), (134, .goto 4, 3), (137, .iload_n 2, 1), (138, .aload_n 0, 1), (139, .iload_n 1, 1), (140, .invokevirtual 87, 3), (143, .ifCond .eq 7, 3), (146, .iload_n 2, 1), (147, .goto 4, 3), (150, .iload_n 1, 1), (151, .iload_n 3, 1), (152, .invokevirtual 56, 3), (155, .invokevirtual 64, 3), (158, .invokevirtual 68, 3), (161, .ireturn, 1)],
  [],
  [],
  [(56, 24, 5, 2), (64, 27, 2, 2), (68, 25, 2, 2), (77, 21, 2, 2), (82, 20, 2, 2), (87, 19, 2, 2)],
  [(21, "java/lang/IllegalArgumentException"), (78, "java/lang/IllegalArgumentException")],
  [], [])
def mp_C_meet_t : mm_T := (⟨"RootCompass", "meet", "(III)I"⟩, prog_1_method_6_code, 5, (some .int), 4, mp_C_meet)
def mp_C_move : mm_P := ([(0, .aload_n 0, 1), (1, .iload_n 1, 1), (2, .invokevirtual 71, 3), (5, .ifCond .eq 12, 3), (8, .aload_n 0, 1), (9, .getfield 25, 3), (12, .iload_n 1, 1), (13, .iaload, 1), (14, .ifCond .eq 13, 3), (17, .new 49, 3), (27, .iload_n 2, 1), (28, .iload_n 3, 1), (29, .iload 4, 2), (31, .iload 5, 2), (33, .invokestatic 45, 3), (36, .ifCond .ne 13, 3), (39, .new 49, 3), (49, .aload_n 0, 1), (50, .iload_n 1, 1), (51, .bipush 24, 2), (53, .invokevirtual 92, 3), (56, .aload_n 0, 1), (57, .iload_n 1, 1), (58, .iload_n 2, 1), (59, .iload_n 3, 1), (60, .iload 4, 2), (62, .iload 5, 2), (64, .invokevirtual 60, 3), (67, .aload_n 0, 1), (68, .iload_n 1, 1), (69, .invokevirtual 64, 3), (72, .istore 6, 2), (74, .iload 6, 2), (76, .iconst (-1), 1), (77, .if_icmp .eq 16, 3), (80, .aload_n 0, 1), (81, .bipush 24, 2), (83, .iload_n 1, 1), (84, .invokevirtual 92, 3), (87, .aload_n 0, 1), (88, .iload_n 1, 1), (89, .invokevirtual 64, 3), (92, .pop, 1), (93, .iload 6, 2), (95, .ireturn, 1)],
  [(25, 2, 2, 2)],
  [],
  [(45, 22, 4, 99), (60, 39, 6, 2), (64, 27, 2, 2), (71, 18, 2, 2), (92, 40, 3, 2)],
  [(17, "java/lang/IllegalArgumentException"), (39, "java/lang/IllegalArgumentException")],
  [], [])
def mp_C_move_t : mm_T := (⟨"RootCompass", "move", "(IIIII)I"⟩, prog_1_method_7_code, 7, (some .int), 4, mp_C_move)
def mp_C_undo : mm_P := ([(0, .aload_n 0, 1), (1, .getfield 41, 3), (4, .ifCond .ne 5, 3), (7, .iconst 0, 1), (8, .ireturn, 1), (9, .aload_n 0, 1), (10, .dup, 1), (11, .getfield 41, 3), (14, .iconst 1, 1), (15, .isub, 1), (16, .putfield 41, 3), (19, .aload_n 0, 1), (20, .getfield 14, 3), (23, .aload_n 0, 1), (24, .getfield 38, 3), (27, .aload_n 0, 1), (28, .getfield 41, 3), (31, .iaload, 1), (32, .putfield 96, 3), (35, .iconst 1, 1), (36, .ireturn, 1)],
  [(14, 2, 0, 2), (38, 2, 6, 2), (41, 2, 7, 0), (96, 1, 4, 0)],
  [],
  [],
  [],
  [], [])
def mp_C_undo_t : mm_T := (⟨"RootCompass", "undo", "()Z"⟩, prog_1_method_8_code, 1, (some .boolean), 0, mp_C_undo)
def mp_C_on : mm_P := ([(0, .aload_n 0, 1), (1, .iload_n 1, 1), (2, .invokevirtual 71, 3), (5, .ifCond .eq 11, 3), (8, .aload_n 0, 1), (9, .iload_n 2, 1), (10, .invokevirtual 77, 3), (13, .ifCond .ne 13, 3), (16, .new 49, 3), (26, .aload_n 0, 1), (27, .getfield 14, 3), (30, .invokevirtual 101, 3), (33, .aload_n 0, 1), (34, .iload_n 2, 1), (35, .invokevirtual 87, 3), (38, .ifCond .eq 12, 3), (41, .aload_n 0, 1), (42, .iload_n 1, 1), (43, .iload_n 2, 1), (44, .invokevirtual 104, 3), (47, .goto 25, 3), (50, .aload_n 0, 1), (51, .getfield 14, 3), (54, .aload_n 0, 1), (55, .aload_n 0, 1), (56, .getfield 29, 3), (59, .iload_n 2, 1), (60, .iaload, 1), (61, .iload_n 1, 1), (62, .invokevirtual 108, 3), (65, .iload_n 2, 1), (66, .invokestatic 112, 3), (69, .invokevirtual 115, 3), (72, .istore_n 3, 1), (73, .aload_n 0, 1), (74, .invokevirtual 118, 3), (77, .iload_n 3, 1), (78, .ireturn, 1)],
  [(14, 2, 0, 2), (29, 2, 3, 2)],
  [],
  [(71, 18, 2, 2), (77, 21, 2, 2), (87, 19, 2, 2), (101, 122, 1, 1), (104, 36, 3, 2), (108, 38, 3, 2), (112, 46, 1, 99), (115, 125, 3, 1), (118, 26, 1, 2)],
  [(16, "java/lang/IllegalArgumentException")],
  [], [])
def mp_C_on_t : mm_T := (⟨"RootCompass", "on", "(II)Z"⟩, prog_1_method_9_code, 4, (some .boolean), 4, mp_C_on)
def mp_C_same : mm_P := ([(0, .aload_n 0, 1), (1, .iload_n 1, 1), (2, .invokevirtual 71, 3), (5, .ifCond .eq 11, 3), (8, .aload_n 0, 1), (9, .iload_n 2, 1), (10, .invokevirtual 71, 3), (13, .ifCond .ne 13, 3), (16, .new 49, 3), (26, .aload_n 0, 1), (27, .iload_n 1, 1), (28, .iload_n 2, 1), (29, .invokevirtual 121, 3), (32, .ireturn, 1)],
  [],
  [],
  [(71, 18, 2, 2), (121, 37, 3, 2)],
  [(16, "java/lang/IllegalArgumentException")],
  [], [])
def mp_C_same_t : mm_T := (⟨"RootCompass", "same", "(II)Z"⟩, prog_1_method_10_code, 3, (some .boolean), 4, mp_C_same)
def mp_C_equal : mm_P := ([(0, .aload_n 0, 1), (1, .iload_n 1, 1), (2, .invokevirtual 71, 3), (5, .ifCond .eq 28, 3), (8, .aload_n 0, 1), (9, .iload_n 2, 1), (10, .invokevirtual 71, 3), (13, .ifCond .eq 20, 3), (16, .aload_n 0, 1), (17, .iload_n 3, 1), (18, .invokevirtual 71, 3), (21, .ifCond .eq 12, 3), (24, .aload_n 0, 1), (25, .iload 4, 2), (27, .invokevirtual 71, 3), (30, .ifCond .ne 13, 3), (33, .new 49, 3), (43, .aload_n 0, 1), (44, .getfield 14, 3), (47, .invokevirtual 101, 3), (50, .aload_n 0, 1), (51, .getfield 14, 3), (54, .aload_n 0, 1), (55, .iload_n 1, 1), (56, .iload_n 2, 1), (57, .invokevirtual 108, 3), (60, .aload_n 0, 1), (61, .iload_n 3, 1), (62, .iload 4, 2), (64, .invokevirtual 108, 3), (67, .invokevirtual 115, 3), (70, .istore 5, 2), (72, .aload_n 0, 1), (73, .invokevirtual 118, 3), (76, .iload 5, 2), (78, .ireturn, 1)],
  [(14, 2, 0, 2)],
  [],
  [(71, 18, 2, 2), (101, 122, 1, 1), (108, 38, 3, 2), (115, 125, 3, 1), (118, 26, 1, 2)],
  [(33, "java/lang/IllegalArgumentException")],
  [], [])
def mp_C_equal_t : mm_T := (⟨"RootCompass", "equal", "(IIII)Z"⟩, prog_1_method_11_code, 6, (some .boolean), 4, mp_C_equal)
def mp_C_angle : mm_P := ([(0, .aload_n 0, 1), (1, .iload_n 1, 1), (2, .invokevirtual 87, 3), (5, .ifCond .eq 11, 3), (8, .aload_n 0, 1), (9, .iload_n 2, 1), (10, .invokevirtual 87, 3), (13, .ifCond .ne 13, 3), (16, .new 49, 3), (26, .aload_n 0, 1), (27, .getfield 14, 3), (30, .invokevirtual 101, 3), (33, .aload_n 0, 1), (34, .getfield 14, 3), (37, .aload_n 0, 1), (38, .getfield 14, 3), (41, .iload_n 1, 1), (42, .invokestatic 126, 3), (45, .iload_n 2, 1), (46, .invokestatic 129, 3), (49, .invokevirtual 132, 3), (52, .aload_n 0, 1), (53, .getfield 14, 3), (56, .iload_n 2, 1), (57, .invokestatic 126, 3), (60, .iload_n 1, 1), (61, .invokestatic 129, 3), (64, .invokevirtual 132, 3), (67, .invokevirtual 115, 3), (70, .istore_n 3, 1), (71, .aload_n 0, 1), (72, .invokevirtual 118, 3), (75, .iload_n 3, 1), (76, .ifCond .eq 5, 3), (79, .iconst 1, 1), (80, .ireturn, 1), (81, .aload_n 0, 1), (82, .getfield 14, 3), (85, .aload_n 0, 1), (86, .getfield 14, 3), (89, .iload_n 1, 1), (90, .invokestatic 126, 3), (93, .iload_n 2, 1), (94, .invokestatic 126, 3), (97, .invokevirtual 132, 3), (100, .aload_n 0, 1), (101, .getfield 14, 3), (104, .iload_n 1, 1), (105, .invokestatic 129, 3), (108, .iload_n 2, 1), (109, .invokestatic 129, 3), (112, .invokevirtual 132, 3), (115, .invokevirtual 135, 3), (118, .istore 4, 2), (120, .aload_n 0, 1), (121, .invokevirtual 118, 3), (124, .aload_n 0, 1), (125, .getfield 14, 3), (128, .iload 4, 2), (130, .invokevirtual 138, 3), (133, .ifCond .eq 7, 3), (136, .iconst 2, 1), (137, .goto 4, 3), (140, .iconst 0, 1), (141, .ireturn, 1)],
  [(14, 2, 0, 2)],
  [],
  [(87, 19, 2, 2), (101, 122, 1, 1), (115, 125, 3, 1), (118, 26, 1, 2), (126, 43, 1, 99), (129, 44, 1, 99), (132, 131, 3, 1), (135, 129, 3, 1), (138, 126, 2, 1)],
  [(16, "java/lang/IllegalArgumentException")],
  [], [])
def mp_C_angle_t : mm_T := (⟨"RootCompass", "angle", "(II)I"⟩, prog_1_method_12_code, 5, (some .int), 4, mp_C_angle)
def mp_C_side : mm_P := ([(0, .aload_n 0, 1), (1, .iload_n 1, 1), (2, .invokevirtual 71, 3), (5, .ifCond .eq 19, 3), (8, .aload_n 0, 1), (9, .iload_n 2, 1), (10, .invokevirtual 71, 3), (13, .ifCond .eq 11, 3), (16, .aload_n 0, 1), (17, .iload_n 3, 1), (18, .invokevirtual 71, 3), (21, .ifCond .ne 13, 3), (24, .new 49, 3), (34, .aload_n 0, 1), (35, .getfield 14, 3), (38, .invokevirtual 101, 3), (41, .aload_n 0, 1), (42, .getfield 14, 3), (45, .aload_n 0, 1), (46, .getfield 14, 3), (49, .aload_n 0, 1), (50, .getfield 14, 3), (53, .aload_n 0, 1), (54, .getfield 14, 3), (57, .iload_n 2, 1), (58, .invokestatic 141, 3), (61, .iload_n 1, 1), (62, .invokestatic 141, 3), (65, .invokevirtual 144, 3), (68, .aload_n 0, 1), (69, .getfield 14, 3), (72, .iload_n 3, 1), (73, .invokestatic 147, 3), (76, .iload_n 1, 1), (77, .invokestatic 147, 3), (80, .invokevirtual 144, 3), (83, .invokevirtual 132, 3), (86, .aload_n 0, 1), (87, .getfield 14, 3), (90, .aload_n 0, 1), (91, .getfield 14, 3), (94, .iload_n 2, 1), (95, .invokestatic 147, 3), (98, .iload_n 1, 1), (99, .invokestatic 147, 3), (102, .invokevirtual 144, 3), (105, .aload_n 0, 1), (106, .getfield 14, 3), (109, .iload_n 3, 1), (110, .invokestatic 141, 3), (113, .iload_n 1, 1), (114, .invokestatic 141, 3), (117, .invokevirtual 144, 3), (120, .invokevirtual 132, 3), (123, .invokevirtual 144, 3), (126, .invokevirtual 150, 3), (129, .istore 4, 2), (131, .aload_n 0, 1), (132, .invokevirtual 118, 3), (135, .iload 4, 2), (137, .ireturn, 1)],
  [(14, 2, 0, 2)],
  [],
  [(71, 18, 2, 2), (101, 122, 1, 1), (118, 26, 1, 2), (132, 131, 3, 1), (141, 41, 1, 99), (144, 130, 3, 1), (147, 42, 1, 99), (150, 135, 2, 1)],
  [(24, "java/lang/IllegalArgumentException")],
  [], [])
def mp_C_side_t : mm_T := (⟨"RootCompass", "side", "(III)I"⟩, prog_1_method_13_code, 5, (some .int), 4, mp_C_side)
def mp_C_sign : mm_P := ([(0, .aload_n 0, 1), (1, .iload_n 1, 1), (2, .invokevirtual 71, 3), (5, .ifCond .eq 15, 3), (8, .iload_n 3, 1), (9, .ldc 153, 2), (11, .if_icmp .lt 9, 3), (14, .iload_n 3, 1), (15, .ldc 154, 2), (17, .if_icmp .le 13, 3), (20, .new 49, 3), (30, .aload_n 0, 1), (31, .getfield 14, 3), (34, .invokevirtual 101, 3), (37, .aload_n 0, 1), (38, .getfield 14, 3), (41, .aload_n 0, 1), (42, .getfield 14, 3), (45, .iload_n 2, 1), (46, .ifCond .eq 10, 3), (49, .iload_n 1, 1), (50, .invokestatic 147, 3), (53, .goto 7, 3), (56, .iload_n 1, 1), (57, .invokestatic 141, 3), (60, .aload_n 0, 1), (61, .getfield 14, 3), (64, .iload_n 3, 1), (65, .invokevirtual 157, 3), (68, .invokevirtual 144, 3), (71, .invokevirtual 150, 3), (74, .istore 4, 2), (76, .aload_n 0, 1), (77, .invokevirtual 118, 3), (80, .iload 4, 2), (82, .ireturn, 1)],
  [(14, 2, 0, 2)],
  [(153, .int (-1000000)), (154, .int 1000000)],
  [(71, 18, 2, 2), (101, 122, 1, 1), (118, 26, 1, 2), (141, 41, 1, 99), (144, 130, 3, 1), (147, 42, 1, 99), (150, 135, 2, 1), (157, 127, 2, 1)],
  [(20, "java/lang/IllegalArgumentException")],
  [], [])
def mp_C_sign_t : mm_T := (⟨"RootCompass", "sign", "(IZI)I"⟩, prog_1_method_14_code, 5, (some .int), 4, mp_C_sign)
def mp_C_part : mm_P := ([(0, .aload_n 0, 1), (1, .iload_n 1, 1), (2, .invokevirtual 71, 3), (5, .ifCond .eq 12, 3), (8, .iload_n 3, 1), (9, .ifCond .lt 8, 3), (12, .iload_n 3, 1), (13, .iconst 4, 1), (14, .if_icmp .lt 13, 3), (17, .new 49, 3), (27, .aload_n 0, 1), (28, .getfield 14, 3), (31, .iload_n 2, 1), (32, .ifCond .eq 10, 3), (35, .iload_n 1, 1), (36, .invokestatic 147, 3), (39, .goto 7, 3), (42, .iload_n 1, 1), (43, .invokestatic 141, 3), (46, .iload_n 3, 1), (47, .iadd, 1), (48, .iload 4, 2), (50, .invokevirtual 162, 3), (53, .ireturn, 1)],
  [(14, 2, 0, 2)],
  [],
  [(71, 18, 2, 2), (141, 41, 1, 99), (147, 42, 1, 99), (162, 123, 3, 1)],
  [(17, "java/lang/IllegalArgumentException")],
  [], [])
def mp_C_part_t : mm_T := (⟨"RootCompass", "part", "(IZIZ)I"⟩, prog_1_method_15_code, 5, (some .int), 4, mp_C_part)
def mp_C_radicand : mm_P := ([(0, .iload_n 1, 1), (1, .iconst 1, 1), (2, .if_icmp .lt 23, 3), (5, .iload_n 1, 1), (6, .aload_n 0, 1), (7, .getfield 14, 3), (10, .getfield 96, 3), (13, .if_icmp .gt 12, 3), (16, .iload_n 2, 1), (17, .ifCond .lt 8, 3), (20, .iload_n 2, 1), (21, .iconst 4, 1), (22, .if_icmp .lt 13, 3), (25, .new 166, 3), (35, .aload_n 0, 1), (36, .getfield 14, 3), (39, .iload_n 1, 1), (40, .invokestatic 171, 3), (43, .iload_n 2, 1), (44, .iadd, 1), (45, .iload_n 3, 1), (46, .invokevirtual 162, 3), (49, .ireturn, 1)],
  [(14, 2, 0, 2), (96, 1, 4, 0)],
  [],
  [(162, 123, 3, 1), (171, 120, 1, 99)],
  [(25, "java/lang/IndexOutOfBoundsException")],
  [], [])
def mp_C_radicand_t : mm_T := (⟨"RootCompass", "radicand", "(IIZ)I"⟩, prog_1_method_16_code, 4, (some .int), 4, mp_C_radicand)
def mp_C_kind : mm_P := ([(0, .iload_n 1, 1), (1, .ifCond .lt 11, 3), (4, .iload_n 1, 1), (5, .aload_n 0, 1), (6, .getfield 41, 3), (9, .if_icmp .lt 5, 3), (12, .iconst (-1), 1), (13, .ireturn, 1), (14, .aload_n 0, 1), (15, .getfield 25, 3), (18, .iload_n 1, 1), (19, .iaload, 1), (20, .iconst 1, 1), (21, .if_icmp .ne 7, 3), (24, .iconst 1, 1), (25, .goto 18, 3), (28, .aload_n 0, 1), (29, .getfield 25, 3), (32, .iload_n 1, 1), (33, .iaload, 1), (34, .iconst 2, 1), (35, .if_icmp .ne 7, 3), (38, .iconst 2, 1), (39, .goto 4, 3), (42, .iconst 0, 1), (43, .ireturn, 1)],
  [(25, 2, 2, 2), (41, 2, 7, 0)],
  [],
  [],
  [],
  [], [])
def mp_C_kind_t : mm_T := (⟨"RootCompass", "kind", "(I)I"⟩, prog_1_method_17_code, 2, (some .int), 0, mp_C_kind)
def mp_C_look : mm_P := ([(0, .iload_n 1, 1), (1, .tableswitch 45 0 2 #[27, 32, 40], 27), (28, .aload_n 0, 1), (29, .getfield 41, 3), (32, .ireturn, 1), (33, .aload_n 0, 1), (34, .getfield 14, 3), (37, .getfield 96, 3), (40, .ireturn, 1), (41, .aload_n 0, 1), (42, .invokevirtual 174, 3), (45, .ireturn, 1), (46, .iconst (-1), 1), (47, .ireturn, 1)],
  [(14, 2, 0, 2), (41, 2, 7, 0), (96, 1, 4, 0)],
  [],
  [(174, 17, 1, 2)],
  [],
  [], [])
def mp_C_look_t : mm_T := (⟨"RootCompass", "look", "(I)I"⟩, prog_1_method_18_code, 2, (some .int), 0, mp_C_look)
def mp_C_countFreePoints : mm_P := ([(0, .iconst 0, 1), (1, .istore_n 1, 1), (2, .iconst 0, 1), (3, .istore_n 2, 1), (4, .iload_n 2, 1), (5, .aload_n 0, 1), (6, .getfield 41, 3), (9, .if_icmp .ge 26, 3), (12, .iload_n 1, 1), (13, .aload_n 0, 1), (14, .getfield 25, 3), (17, .iload_n 2, 1), (18, .iaload, 1), (19, .ifCond .ne 7, 3), (22, .iconst 1, 1), (23, .goto 4, 3), (26, .iconst 0, 1), (27, .iadd, 1), (28, .istore_n 1, 1), (29, .iinc 2 1, 3), (32, .goto (-28), 3), (35, .iload_n 1, 1), (36, .ireturn, 1)],
  [(25, 2, 2, 2), (41, 2, 7, 0)],
  [],
  [],
  [],
  [], [])
def mp_C_countFreePoints_t : mm_T := (⟨"RootCompass", "countFreePoints", "()I"⟩, prog_1_method_19_code, 3, (some .int), 0, mp_C_countFreePoints)
def mp_C_isPoint : mm_P := ([(0, .aload_n 0, 1), (1, .iload_n 1, 1), (2, .invokevirtual 178, 3), (5, .ifCond .ne 7, 3), (8, .iconst 1, 1), (9, .goto 4, 3), (12, .iconst 0, 1), (13, .ireturn, 1)],
  [],
  [],
  [(178, 15, 2, 2)],
  [],
  [], [])
def mp_C_isPoint_t : mm_T := (⟨"RootCompass", "isPoint", "(I)Z"⟩, prog_1_method_20_code, 2, (some .boolean), 0, mp_C_isPoint)
def mp_C_isLine : mm_P := ([(0, .aload_n 0, 1), (1, .iload_n 1, 1), (2, .invokevirtual 178, 3), (5, .iconst 1, 1), (6, .if_icmp .ne 7, 3), (9, .iconst 1, 1), (10, .goto 4, 3), (13, .iconst 0, 1), (14, .ireturn, 1)],
  [],
  [],
  [(178, 15, 2, 2)],
  [],
  [], [])
def mp_C_isLine_t : mm_T := (⟨"RootCompass", "isLine", "(I)Z"⟩, prog_1_method_21_code, 2, (some .boolean), 0, mp_C_isLine)
def mp_C_isCircle : mm_P := ([(0, .aload_n 0, 1), (1, .iload_n 1, 1), (2, .invokevirtual 178, 3), (5, .iconst 2, 1), (6, .if_icmp .ne 7, 3), (9, .iconst 1, 1), (10, .goto 4, 3), (13, .iconst 0, 1), (14, .ireturn, 1)],
  [],
  [],
  [(178, 15, 2, 2)],
  [],
  [], [])
def mp_C_isCircle_t : mm_T := (⟨"RootCompass", "isCircle", "(I)Z"⟩, prog_1_method_22_code, 2, (some .boolean), 0, mp_C_isCircle)
def mp_C_isCurve : mm_P := ([(0, .aload_n 0, 1), (1, .iload_n 1, 1), (2, .invokevirtual 87, 3), (5, .ifCond .ne 11, 3), (8, .aload_n 0, 1), (9, .iload_n 1, 1), (10, .invokevirtual 82, 3), (13, .ifCond .eq 7, 3), (16, .iconst 1, 1), (17, .goto 4, 3), (20, .iconst 0, 1), (21, .ireturn, 1)],
  [],
  [],
  [(82, 20, 2, 2), (87, 19, 2, 2)],
  [],
  [], [])
def mp_C_isCurve_t : mm_T := (⟨"RootCompass", "isCurve", "(I)Z"⟩, prog_1_method_23_code, 2, (some .boolean), 0, mp_C_isCurve)
def mp_C_isPlace : mm_P := ([(0, .iload_n 0, 1), (1, .iload_n 1, 1), (2, .invokestatic 181, 3), (5, .ifCond .eq 15, 3), (8, .iload_n 2, 1), (9, .iload_n 3, 1), (10, .invokestatic 181, 3), (13, .ifCond .eq 7, 3), (16, .iconst 1, 1), (17, .goto 4, 3), (20, .iconst 0, 1), (21, .ireturn, 1)],
  [],
  [],
  [(181, 23, 2, 99)],
  [],
  [], [])
def mp_C_isPlace_t : mm_T := (⟨"RootCompass", "isPlace", "(IIII)Z"⟩, prog_1_method_24_code, 4, (some .boolean), 0, mp_C_isPlace)
def mp_C_isInput : mm_P := ([(0, .iload_n 0, 1), (1, .sipush (-10000), 3), (4, .if_icmp .lt 26, 3), (7, .iload_n 0, 1), (8, .sipush 10000, 3), (11, .if_icmp .gt 19, 3), (14, .iload_n 1, 1), (15, .iconst 1, 1), (16, .if_icmp .lt 14, 3), (19, .iload_n 1, 1), (20, .sipush 10000, 3), (23, .if_icmp .gt 7, 3), (26, .iconst 1, 1), (27, .goto 4, 3), (30, .iconst 0, 1), (31, .ireturn, 1)],
  [],
  [],
  [],
  [],
  [], [])
def mp_C_isInput_t : mm_T := (⟨"RootCompass", "isInput", "(II)Z"⟩, prog_1_method_25_code, 2, (some .boolean), 0, mp_C_isInput)
def mp_C_addStep : mm_P := ([(0, .aload_n 0, 1), (1, .getfield 41, 3), (4, .bipush 24, 2), (6, .if_icmp .lt 13, 3), (9, .new 184, 3), (19, .aload_n 0, 1), (20, .getfield 25, 3), (23, .aload_n 0, 1), (24, .getfield 41, 3), (27, .iload_n 1, 1), (28, .iastore, 1), (29, .aload_n 0, 1), (30, .getfield 29, 3), (33, .aload_n 0, 1), (34, .getfield 41, 3), (37, .iload_n 2, 1), (38, .iastore, 1), (39, .aload_n 0, 1), (40, .getfield 32, 3), (43, .aload_n 0, 1), (44, .getfield 41, 3), (47, .iload_n 3, 1), (48, .iastore, 1), (49, .aload_n 0, 1), (50, .getfield 35, 3), (53, .aload_n 0, 1), (54, .getfield 41, 3), (57, .iload 4, 2), (59, .iastore, 1), (60, .aload_n 0, 1), (61, .dup, 1), (62, .getfield 41, 3), (65, .iconst 1, 1), (66, .iadd, 1), (67, .putfield 41, 3), (70, .aload_n 0, 1), (71, .getfield 41, 3), (74, .iconst 1, 1), (75, .isub, 1), (76, .ireturn, 1)],
  [(25, 2, 2, 2), (29, 2, 3, 2), (32, 2, 4, 2), (35, 2, 5, 2), (41, 2, 7, 0)],
  [],
  [],
  [(9, "java/lang/IllegalStateException")],
  [], [])
def mp_C_addStep_t : mm_T := (⟨"RootCompass", "addStep", "(IIII)I"⟩, prog_1_method_26_code, 5, (some .int), 1, mp_C_addStep)
def mp_C_settle : mm_P := ([(0, .iload_n 1, 1), (1, .iconst (-1), 1), (2, .if_icmp .eq 18, 3), (5, .aload_n 0, 1), (6, .invokevirtual 189, 3), (9, .pop, 1), (10, .new 193, 3), (20, .aload_n 0, 1), (21, .getfield 41, 3), (24, .iconst 1, 1), (25, .isub, 1), (26, .ireturn, 1)],
  [(41, 2, 7, 0)],
  [],
  [(189, 6, 1, 2)],
  [(10, "java/lang/UnsupportedOperationException")],
  [], [])
def mp_C_settle_t : mm_T := (⟨"RootCompass", "settle", "(I)I"⟩, prog_1_method_27_code, 2, (some .int), 1, mp_C_settle)
def mp_C_refuseTooWide : mm_P := ([(0, .aload_n 0, 1), (1, .getfield 14, 3), (4, .getfield 198, 3), (7, .ifCond .eq 13, 3), (10, .new 193, 3), (20, .return_, 1)],
  [(14, 2, 0, 2), (198, 1, 5, 1)],
  [],
  [],
  [(10, "java/lang/UnsupportedOperationException")],
  [], [])
def mp_C_refuseTooWide_t : mm_T := (⟨"RootCompass", "refuseTooWide", "()V"⟩, prog_1_method_28_code, 1, none, 1, mp_C_refuseTooWide)
def mp_C_redraw : mm_P := ([(0, .aload_n 0, 1), (1, .getfield 14, 3), (4, .aload_n 0, 1), (5, .getfield 38, 3), (8, .iload_n 1, 1), (9, .iaload, 1), (10, .putfield 96, 3), (13, .iload_n 1, 1), (14, .istore_n 2, 1), (15, .iload_n 2, 1), (16, .aload_n 0, 1), (17, .getfield 41, 3), (20, .if_icmp .ge 197, 3), (23, .aload_n 0, 1), (24, .getfield 14, 3), (27, .invokevirtual 101, 3), (30, .aload_n 0, 1), (31, .getfield 25, 3), (34, .iload_n 2, 1), (35, .iaload, 1), (36, .tableswitch 148 1 6 #[40, 48, 56, 64, 72, 107], 40), (76, .aload_n 0, 1), (77, .iload_n 2, 1), (78, .invokevirtual 204, 3), (81, .goto 103, 3), (84, .aload_n 0, 1), (85, .iload_n 2, 1), (86, .invokevirtual 207, 3), (89, .goto 95, 3), (92, .aload_n 0, 1), (93, .iload_n 2, 1), (94, .invokevirtual 210, 3), (97, .goto 87, 3), (100, .aload_n 0, 1), (101, .iload_n 2, 1), (102, .invokevirtual 213, 3), (105, .goto 79, 3), (108, .aload_n 0, 1), (109, .aload_n 0, 1), (110, .getfield 29, 3), (113, .iload_n 2, 1), (114, .iaload, 1), (115, .invokevirtual 216, 3), (118, .aload_n 0, 1), (119, .iload_n 2, 1), (120, .aload_n 0, 1), (121, .getfield 14, 3), (124, .aload_n 0, 1), (125, .aload_n 0, 1), (126, .getfield 32, 3), (129, .iload_n 2, 1), (130, .iaload, 1), (131, .invokevirtual 219, 3), (134, .invokevirtual 222, 3), (137, .invokevirtual 225, 3), (140, .goto 44, 3), (143, .aload_n 0, 1), (144, .aload_n 0, 1), (145, .getfield 29, 3), (148, .iload_n 2, 1), (149, .iaload, 1), (150, .aload_n 0, 1), (151, .getfield 32, 3), (154, .iload_n 2, 1), (155, .iaload, 1), (156, .invokevirtual 228, 3), (159, .aload_n 0, 1), (160, .iload_n 2, 1), (161, .aload_n 0, 1), (162, .getfield 14, 3), (165, .aload_n 0, 1), (166, .aload_n 0, 1), (167, .getfield 29, 3), (170, .iload_n 2, 1), (171, .iaload, 1), (172, .invokevirtual 219, 3), (175, .invokevirtual 222, 3), (178, .invokevirtual 225, 3), (181, .goto 3, 3), (184, .aload_n 0, 1), (185, .getfield 14, 3), (188, .getfield 198, 3), (191, .ifCond .eq 5, 3), (194, .iload_n 2, 1), (195, .ireturn, 1), (196, .aload_n 0, 1), (197, .getfield 38, 3), (200, .iload_n 2, 1), (201, .iconst 1, 1), (202, .iadd, 1), (203, .aload_n 0, 1), (204, .getfield 14, 3), (207, .getfield 96, 3), (210, .iastore, 1), (211, .iinc 2 1, 3), (214, .goto (-199), 3), (217, .iconst (-1), 1), (218, .ireturn, 1)],
  [(14, 2, 0, 2), (25, 2, 2, 2), (29, 2, 3, 2), (32, 2, 4, 2), (38, 2, 6, 2), (41, 2, 7, 0), (96, 1, 4, 0), (198, 1, 5, 1)],
  [],
  [(101, 122, 1, 1), (204, 28, 2, 2), (207, 29, 2, 2), (210, 30, 2, 2), (213, 31, 2, 2), (216, 32, 2, 2), (219, 34, 2, 2), (222, 136, 2, 1), (225, 35, 3, 2), (228, 33, 3, 2)],
  [],
  [], [])
def mp_C_redraw_t : mm_T := (⟨"RootCompass", "redraw", "(I)I"⟩, prog_1_method_29_code, 3, (some .int), 0, mp_C_redraw)
def mp_C_drawLine : mm_P := ([(0, .aload_n 0, 1), (1, .getfield 29, 3), (4, .iload_n 1, 1), (5, .iaload, 1), (6, .istore_n 2, 1), (7, .aload_n 0, 1), (8, .getfield 32, 3), (11, .iload_n 1, 1), (12, .iaload, 1), (13, .istore_n 3, 1), (14, .aload_n 0, 1), (15, .iload_n 2, 1), (16, .iload_n 3, 1), (17, .invokevirtual 121, 3), (20, .ifCond .eq 12, 3), (23, .aload_n 0, 1), (24, .getfield 14, 3), (27, .iconst 1, 1), (28, .putfield 198, 3), (31, .return_, 1), (32, .aload_n 0, 1), (33, .getfield 14, 3), (36, .iload_n 3, 1), (37, .invokestatic 147, 3), (40, .iload_n 2, 1), (41, .invokestatic 147, 3), (44, .invokevirtual 144, 3), (47, .istore 4, 2), (49, .aload_n 0, 1), (50, .getfield 14, 3), (53, .iload_n 2, 1), (54, .invokestatic 141, 3), (57, .iload_n 3, 1), (58, .invokestatic 141, 3), (61, .invokevirtual 144, 3), (64, .istore 5, 2), (66, .aload_n 0, 1), (67, .getfield 14, 3), (70, .iload 4, 2), (72, .iload_n 1, 1), (73, .invokestatic 126, 3), (76, .invokevirtual 231, 3), (79, .aload_n 0, 1), (80, .getfield 14, 3), (83, .iload 5, 2), (85, .iload_n 1, 1), (86, .invokestatic 129, 3), (89, .invokevirtual 231, 3), (92, .aload_n 0, 1), (93, .getfield 14, 3), (96, .aload_n 0, 1), (97, .getfield 14, 3), (100, .aload_n 0, 1), (101, .getfield 14, 3), (104, .iload 4, 2), (106, .iload_n 2, 1), (107, .invokestatic 141, 3), (110, .invokevirtual 132, 3), (113, .aload_n 0, 1), (114, .getfield 14, 3), (117, .iload 5, 2), (119, .iload_n 2, 1), (120, .invokestatic 147, 3), (123, .invokevirtual 132, 3), (126, .invokevirtual 135, 3), (129, .iload_n 1, 1), (130, .invokestatic 234, 3), (133, .invokevirtual 231, 3), (136, .return_, 1)],
  [(14, 2, 0, 2), (29, 2, 3, 2), (32, 2, 4, 2), (198, 1, 5, 1)],
  [],
  [(121, 37, 3, 2), (126, 43, 1, 99), (129, 44, 1, 99), (132, 131, 3, 1), (135, 129, 3, 1), (141, 41, 1, 99), (144, 130, 3, 1), (147, 42, 1, 99), (231, 124, 3, 1), (234, 45, 1, 99)],
  [],
  [], [])
def mp_C_drawLine_t : mm_T := (⟨"RootCompass", "drawLine", "(I)V"⟩, prog_1_method_30_code, 6, none, 0, mp_C_drawLine)
def mp_C_drawCircle : mm_P := ([(0, .aload_n 0, 1), (1, .aload_n 0, 1), (2, .getfield 32, 3), (5, .iload_n 1, 1), (6, .iaload, 1), (7, .aload_n 0, 1), (8, .getfield 35, 3), (11, .iload_n 1, 1), (12, .iaload, 1), (13, .invokevirtual 108, 3), (16, .istore_n 2, 1), (17, .aload_n 0, 1), (18, .getfield 14, 3), (21, .iload_n 2, 1), (22, .invokevirtual 138, 3), (25, .ifCond .eq 12, 3), (28, .aload_n 0, 1), (29, .getfield 14, 3), (32, .iconst 1, 1), (33, .putfield 198, 3), (36, .return_, 1), (37, .aload_n 0, 1), (38, .getfield 14, 3), (41, .iload_n 2, 1), (42, .iload_n 1, 1), (43, .invokestatic 112, 3), (46, .invokevirtual 231, 3), (49, .return_, 1)],
  [(14, 2, 0, 2), (32, 2, 4, 2), (35, 2, 5, 2), (198, 1, 5, 1)],
  [],
  [(108, 38, 3, 2), (112, 46, 1, 99), (138, 126, 2, 1), (231, 124, 3, 1)],
  [],
  [], [])
def mp_C_drawCircle_t : mm_T := (⟨"RootCompass", "drawCircle", "(I)V"⟩, prog_1_method_31_code, 3, none, 0, mp_C_drawCircle)
def mp_C_drawMiddle : mm_P := ([(0, .aload_n 0, 1), (1, .getfield 29, 3), (4, .iload_n 1, 1), (5, .iaload, 1), (6, .istore_n 2, 1), (7, .aload_n 0, 1), (8, .getfield 32, 3), (11, .iload_n 1, 1), (12, .iaload, 1), (13, .istore_n 3, 1), (14, .aload_n 0, 1), (15, .getfield 14, 3), (18, .aload_n 0, 1), (19, .getfield 14, 3), (22, .aload_n 0, 1), (23, .getfield 14, 3), (26, .iload_n 2, 1), (27, .invokestatic 141, 3), (30, .iload_n 3, 1), (31, .invokestatic 141, 3), (34, .invokevirtual 135, 3), (37, .invokevirtual 237, 3), (40, .iload_n 1, 1), (41, .invokestatic 141, 3), (44, .invokevirtual 231, 3), (47, .aload_n 0, 1), (48, .getfield 14, 3), (51, .aload_n 0, 1), (52, .getfield 14, 3), (55, .aload_n 0, 1), (56, .getfield 14, 3), (59, .iload_n 2, 1), (60, .invokestatic 147, 3), (63, .iload_n 3, 1), (64, .invokestatic 147, 3), (67, .invokevirtual 135, 3), (70, .invokevirtual 237, 3), (73, .iload_n 1, 1), (74, .invokestatic 147, 3), (77, .invokevirtual 231, 3), (80, .return_, 1)],
  [(14, 2, 0, 2), (29, 2, 3, 2), (32, 2, 4, 2)],
  [],
  [(135, 129, 3, 1), (141, 41, 1, 99), (147, 42, 1, 99), (231, 124, 3, 1), (237, 133, 2, 1)],
  [],
  [], [])
def mp_C_drawMiddle_t : mm_T := (⟨"RootCompass", "drawMiddle", "(I)V"⟩, prog_1_method_32_code, 4, none, 0, mp_C_drawMiddle)
def mp_C_drawMeetingOfLines : mm_P := ([(0, .aload_n 0, 1), (1, .getfield 29, 3), (4, .iload_n 1, 1), (5, .iaload, 1), (6, .istore_n 2, 1), (7, .aload_n 0, 1), (8, .getfield 32, 3), (11, .iload_n 1, 1), (12, .iaload, 1), (13, .istore_n 3, 1), (14, .aload_n 0, 1), (15, .getfield 14, 3), (18, .aload_n 0, 1), (19, .getfield 14, 3), (22, .iload_n 2, 1), (23, .invokestatic 126, 3), (26, .iload_n 3, 1), (27, .invokestatic 129, 3), (30, .invokevirtual 132, 3), (33, .aload_n 0, 1), (34, .getfield 14, 3), (37, .iload_n 3, 1), (38, .invokestatic 126, 3), (41, .iload_n 2, 1), (42, .invokestatic 129, 3), (45, .invokevirtual 132, 3), (48, .invokevirtual 144, 3), (51, .istore 4, 2), (53, .aload_n 0, 1), (54, .getfield 14, 3), (57, .iload 4, 2), (59, .invokevirtual 240, 3), (62, .istore 5, 2), (64, .aload_n 0, 1), (65, .getfield 14, 3), (68, .aload_n 0, 1), (69, .getfield 14, 3), (72, .iload_n 2, 1), (73, .invokestatic 234, 3), (76, .iload_n 3, 1), (77, .invokestatic 129, 3), (80, .invokevirtual 132, 3), (83, .aload_n 0, 1), (84, .getfield 14, 3), (87, .iload_n 3, 1), (88, .invokestatic 234, 3), (91, .iload_n 2, 1), (92, .invokestatic 129, 3), (95, .invokevirtual 132, 3), (98, .invokevirtual 144, 3), (101, .istore 6, 2), (103, .aload_n 0, 1), (104, .getfield 14, 3), (107, .aload_n 0, 1), (108, .getfield 14, 3), (111, .iload_n 2, 1), (112, .invokestatic 126, 3), (115, .iload_n 3, 1), (116, .invokestatic 234, 3), (119, .invokevirtual 132, 3), (122, .aload_n 0, 1), (123, .getfield 14, 3), (126, .iload_n 3, 1), (127, .invokestatic 126, 3), (130, .iload_n 2, 1), (131, .invokestatic 234, 3), (134, .invokevirtual 132, 3), (137, .invokevirtual 144, 3), (140, .istore 7, 2), (142, .aload_n 0, 1), (143, .getfield 14, 3), (146, .aload_n 0, 1), (147, .getfield 14, 3), (150, .iload 6, 2), (152, .iload 5, 2), (154, .invokevirtual 132, 3), (157, .iload_n 1, 1), (158, .invokestatic 141, 3), (161, .invokevirtual 231, 3), (164, .aload_n 0, 1), (165, .getfield 14, 3), (168, .aload_n 0, 1), (169, .getfield 14, 3), (172, .iload 7, 2), (174, .iload 5, 2), (176, .invokevirtual 132, 3), (179, .iload_n 1, 1), (180, .invokestatic 147, 3), (183, .invokevirtual 231, 3), (186, .return_, 1)],
  [(14, 2, 0, 2), (29, 2, 3, 2), (32, 2, 4, 2)],
  [],
  [(126, 43, 1, 99), (129, 44, 1, 99), (132, 131, 3, 1), (141, 41, 1, 99), (144, 130, 3, 1), (147, 42, 1, 99), (231, 124, 3, 1), (234, 45, 1, 99), (240, 134, 2, 1)],
  [],
  [], [])
def mp_C_drawMeetingOfLines_t : mm_T := (⟨"RootCompass", "drawMeetingOfLines", "(I)V"⟩, prog_1_method_33_code, 8, none, 0, mp_C_drawMeetingOfLines)
def mp_C_takeLine : mm_P := ([(0, .aload_n 0, 1), (1, .getfield 21, 3), (4, .iload_n 1, 1), (5, .invokestatic 126, 3), (8, .putfield 243, 3), (11, .aload_n 0, 1), (12, .getfield 21, 3), (15, .iload_n 1, 1), (16, .invokestatic 129, 3), (19, .putfield 246, 3), (22, .aload_n 0, 1), (23, .getfield 21, 3), (26, .iload_n 1, 1), (27, .invokestatic 234, 3), (30, .putfield 249, 3), (33, .return_, 1)],
  [(21, 2, 1, 2), (243, 0, 0, 0), (246, 0, 1, 0), (249, 0, 2, 0)],
  [],
  [(126, 43, 1, 99), (129, 44, 1, 99), (234, 45, 1, 99)],
  [],
  [], [])
def mp_C_takeLine_t : mm_T := (⟨"RootCompass", "takeLine", "(I)V"⟩, prog_1_method_34_code, 2, none, 0, mp_C_takeLine)
def mp_C_takeCommonLine : mm_P := ([(0, .aload_n 0, 1), (1, .getfield 29, 3), (4, .iload_n 1, 1), (5, .iaload, 1), (6, .istore_n 3, 1), (7, .aload_n 0, 1), (8, .getfield 29, 3), (11, .iload_n 2, 1), (12, .iaload, 1), (13, .istore 4, 2), (15, .aload_n 0, 1), (16, .getfield 14, 3), (19, .iload 4, 2), (21, .invokestatic 141, 3), (24, .iload_n 3, 1), (25, .invokestatic 141, 3), (28, .invokevirtual 144, 3), (31, .istore 5, 2), (33, .aload_n 0, 1), (34, .getfield 14, 3), (37, .iload 4, 2), (39, .invokestatic 147, 3), (42, .iload_n 3, 1), (43, .invokestatic 147, 3), (46, .invokevirtual 144, 3), (49, .istore 6, 2), (51, .aload_n 0, 1), (52, .getfield 21, 3), (55, .aload_n 0, 1), (56, .getfield 14, 3), (59, .iload 5, 2), (61, .iload 5, 2), (63, .invokevirtual 135, 3), (66, .putfield 243, 3), (69, .aload_n 0, 1), (70, .getfield 21, 3), (73, .aload_n 0, 1), (74, .getfield 14, 3), (77, .iload 6, 2), (79, .iload 6, 2), (81, .invokevirtual 135, 3), (84, .putfield 246, 3), (87, .aload_n 0, 1), (88, .getfield 14, 3), (91, .aload_n 0, 1), (92, .getfield 14, 3), (95, .iload 4, 2), (97, .invokestatic 141, 3), (100, .iload 4, 2), (102, .invokestatic 141, 3), (105, .invokevirtual 132, 3), (108, .aload_n 0, 1), (109, .getfield 14, 3), (112, .iload_n 3, 1), (113, .invokestatic 141, 3), (116, .iload_n 3, 1), (117, .invokestatic 141, 3), (120, .invokevirtual 132, 3), (123, .invokevirtual 144, 3), (126, .istore 7, 2), (128, .aload_n 0, 1), (129, .getfield 14, 3), (132, .aload_n 0, 1), (133, .getfield 14, 3), (136, .iload 4, 2), (138, .invokestatic 147, 3), (141, .iload 4, 2), (143, .invokestatic 147, 3), (146, .invokevirtual 132, 3), (149, .aload_n 0, 1), (150, .getfield 14, 3), (153, .iload_n 3, 1), (154, .invokestatic 147, 3), (157, .iload_n 3, 1), (158, .invokestatic 147, 3), (161, .invokevirtual 132, 3), (164, .invokevirtual 144, 3), (167, .istore 8, 2), (169, .aload_n 0, 1), (170, .getfield 21, 3), (173, .aload_n 0, 1), (174, .getfield 14, 3), (177, .aload_n 0, 1), (178, .getfield 14, 3), (181, .iload_n 1, 1), (182, .invokestatic 112, 3), (185, .iload_n 2, 1), (186, .invokestatic 112, 3), (189, .invokevirtual 144, 3), (192, .aload_n 0, 1), (193, .getfield 14, 3), (196, .iload 7, 2), (198, .iload 8, 2), (200, .invokevirtual 135, 3), (203, .invokevirtual 135, 3), (206, .putfield 249, 3), (209, .return_, 1)],
  [(14, 2, 0, 2), (21, 2, 1, 2), (29, 2, 3, 2), (243, 0, 0, 0), (246, 0, 1, 0), (249, 0, 2, 0)],
  [],
  [(112, 46, 1, 99), (132, 131, 3, 1), (135, 129, 3, 1), (141, 41, 1, 99), (144, 130, 3, 1), (147, 42, 1, 99)],
  [],
  [], [])
def mp_C_takeCommonLine_t : mm_T := (⟨"RootCompass", "takeCommonLine", "(II)V"⟩, prog_1_method_35_code, 9, none, 0, mp_C_takeCommonLine)
def mp_C_measureCut : mm_P := ([(0, .aload_n 0, 1), (1, .getfield 29, 3), (4, .iload_n 1, 1), (5, .iaload, 1), (6, .invokestatic 141, 3), (9, .istore_n 2, 1), (10, .aload_n 0, 1), (11, .getfield 29, 3), (14, .iload_n 1, 1), (15, .iaload, 1), (16, .invokestatic 147, 3), (19, .istore_n 3, 1), (20, .aload_n 0, 1), (21, .getfield 14, 3), (24, .aload_n 0, 1), (25, .getfield 14, 3), (28, .aload_n 0, 1), (29, .getfield 21, 3), (32, .getfield 243, 3), (35, .aload_n 0, 1), (36, .getfield 21, 3), (39, .getfield 243, 3), (42, .invokevirtual 132, 3), (45, .aload_n 0, 1), (46, .getfield 14, 3), (49, .aload_n 0, 1), (50, .getfield 21, 3), (53, .getfield 246, 3), (56, .aload_n 0, 1), (57, .getfield 21, 3), (60, .getfield 246, 3), (63, .invokevirtual 132, 3), (66, .invokevirtual 135, 3), (69, .istore 4, 2), (71, .aload_n 0, 1), (72, .getfield 14, 3), (75, .aload_n 0, 1), (76, .getfield 21, 3), (79, .getfield 249, 3), (82, .aload_n 0, 1), (83, .getfield 14, 3), (86, .aload_n 0, 1), (87, .getfield 14, 3), (90, .aload_n 0, 1), (91, .getfield 21, 3), (94, .getfield 243, 3), (97, .iload_n 2, 1), (98, .invokevirtual 132, 3), (101, .aload_n 0, 1), (102, .getfield 14, 3), (105, .aload_n 0, 1), (106, .getfield 21, 3), (109, .getfield 246, 3), (112, .iload_n 3, 1), (113, .invokevirtual 132, 3), (116, .invokevirtual 135, 3), (119, .invokevirtual 144, 3), (122, .istore 5, 2), (124, .aload_n 0, 1), (125, .getfield 21, 3), (128, .iload_n 2, 1), (129, .putfield 252, 3), (132, .aload_n 0, 1), (133, .getfield 21, 3), (136, .iload_n 3, 1), (137, .putfield 255, 3), (140, .aload_n 0, 1), (141, .getfield 21, 3), (144, .iload 5, 2), (146, .putfield 258, 3), (149, .aload_n 0, 1), (150, .getfield 21, 3), (153, .aload_n 0, 1), (154, .getfield 14, 3), (157, .iload 4, 2), (159, .invokevirtual 240, 3), (162, .putfield 261, 3), (165, .aload_n 0, 1), (166, .getfield 14, 3), (169, .aload_n 0, 1), (170, .getfield 14, 3), (173, .iload_n 1, 1), (174, .invokestatic 112, 3), (177, .iload 4, 2), (179, .invokevirtual 132, 3), (182, .aload_n 0, 1), (183, .getfield 14, 3), (186, .iload 5, 2), (188, .iload 5, 2), (190, .invokevirtual 132, 3), (193, .invokevirtual 144, 3), (196, .ireturn, 1)],
  [(14, 2, 0, 2), (21, 2, 1, 2), (29, 2, 3, 2), (243, 0, 0, 0), (246, 0, 1, 0), (249, 0, 2, 0), (252, 0, 3, 0), (255, 0, 4, 0), (258, 0, 5, 0), (261, 0, 6, 0)],
  [],
  [(112, 46, 1, 99), (132, 131, 3, 1), (135, 129, 3, 1), (141, 41, 1, 99), (144, 130, 3, 1), (147, 42, 1, 99), (240, 134, 2, 1)],
  [],
  [], [])
def mp_C_measureCut_t : mm_T := (⟨"RootCompass", "measureCut", "(I)I"⟩, prog_1_method_36_code, 6, (some .int), 0, mp_C_measureCut)
def mp_C_drawCut : mm_P := ([(0, .aload_n 0, 1), (1, .getfield 14, 3), (4, .aload_n 0, 1), (5, .getfield 21, 3), (8, .getfield 258, 3), (11, .aload_n 0, 1), (12, .getfield 21, 3), (15, .getfield 261, 3), (18, .invokevirtual 132, 3), (21, .istore_n 3, 1), (22, .aload_n 0, 1), (23, .getfield 14, 3), (26, .iload_n 2, 1), (27, .aload_n 0, 1), (28, .getfield 21, 3), (31, .getfield 261, 3), (34, .invokevirtual 132, 3), (37, .istore 4, 2), (39, .aload_n 0, 1), (40, .getfield 14, 3), (43, .aload_n 0, 1), (44, .getfield 21, 3), (47, .getfield 252, 3), (50, .aload_n 0, 1), (51, .getfield 14, 3), (54, .aload_n 0, 1), (55, .getfield 21, 3), (58, .getfield 243, 3), (61, .iload_n 3, 1), (62, .invokevirtual 132, 3), (65, .invokevirtual 135, 3), (68, .istore 5, 2), (70, .aload_n 0, 1), (71, .getfield 14, 3), (74, .aload_n 0, 1), (75, .getfield 21, 3), (78, .getfield 255, 3), (81, .aload_n 0, 1), (82, .getfield 14, 3), (85, .aload_n 0, 1), (86, .getfield 21, 3), (89, .getfield 246, 3), (92, .iload_n 3, 1), (93, .invokevirtual 132, 3), (96, .invokevirtual 135, 3), (99, .istore 6, 2), (101, .aload_n 0, 1), (102, .getfield 14, 3), (105, .aload_n 0, 1), (106, .getfield 14, 3), (109, .aload_n 0, 1), (110, .getfield 21, 3), (113, .getfield 246, 3), (116, .invokevirtual 264, 3), (119, .iload 4, 2), (121, .invokevirtual 132, 3), (124, .istore 7, 2), (126, .aload_n 0, 1), (127, .getfield 14, 3), (130, .aload_n 0, 1), (131, .getfield 21, 3), (134, .getfield 243, 3), (137, .iload 4, 2), (139, .invokevirtual 132, 3), (142, .istore 8, 2), (144, .aload_n 0, 1), (145, .getfield 35, 3), (148, .iload_n 1, 1), (149, .iaload, 1), (150, .ifCond .ne 7, 3), (153, .iconst 1, 1), (154, .goto 4, 3), (157, .iconst 0, 1), (158, .istore 9, 2), (160, .aload_n 0, 1), (161, .getfield 14, 3), (164, .iload 9, 2), (166, .ifCond .eq 17, 3), (169, .aload_n 0, 1), (170, .getfield 14, 3), (173, .iload 5, 2), (175, .iload 7, 2), (177, .invokevirtual 144, 3), (180, .goto 14, 3), (183, .aload_n 0, 1), (184, .getfield 14, 3), (187, .iload 5, 2), (189, .iload 7, 2), (191, .invokevirtual 135, 3), (194, .iload_n 1, 1), (195, .invokestatic 141, 3), (198, .invokevirtual 231, 3), (201, .aload_n 0, 1), (202, .getfield 14, 3), (205, .iload 9, 2), (207, .ifCond .eq 17, 3), (210, .aload_n 0, 1), (211, .getfield 14, 3), (214, .iload 6, 2), (216, .iload 8, 2), (218, .invokevirtual 144, 3), (221, .goto 14, 3), (224, .aload_n 0, 1), (225, .getfield 14, 3), (228, .iload 6, 2), (230, .iload 8, 2), (232, .invokevirtual 135, 3), (235, .iload_n 1, 1), (236, .invokestatic 147, 3), (239, .invokevirtual 231, 3), (242, .return_, 1)],
  [(14, 2, 0, 2), (21, 2, 1, 2), (35, 2, 5, 2), (243, 0, 0, 0), (246, 0, 1, 0), (252, 0, 3, 0), (255, 0, 4, 0), (258, 0, 5, 0), (261, 0, 6, 0)],
  [],
  [(132, 131, 3, 1), (135, 129, 3, 1), (141, 41, 1, 99), (144, 130, 3, 1), (147, 42, 1, 99), (231, 124, 3, 1), (264, 132, 2, 1)],
  [],
  [], [])
def mp_C_drawCut_t : mm_T := (⟨"RootCompass", "drawCut", "(II)V"⟩, prog_1_method_37_code, 10, none, 0, mp_C_drawCut)
def mp_C_liesOnLine : mm_P := ([(0, .aload_n 0, 1), (1, .getfield 14, 3), (4, .aload_n 0, 1), (5, .getfield 14, 3), (8, .iload_n 2, 1), (9, .invokestatic 126, 3), (12, .iload_n 1, 1), (13, .invokestatic 141, 3), (16, .invokevirtual 132, 3), (19, .aload_n 0, 1), (20, .getfield 14, 3), (23, .iload_n 2, 1), (24, .invokestatic 129, 3), (27, .iload_n 1, 1), (28, .invokestatic 147, 3), (31, .invokevirtual 132, 3), (34, .invokevirtual 135, 3), (37, .istore_n 3, 1), (38, .aload_n 0, 1), (39, .getfield 14, 3), (42, .iload_n 3, 1), (43, .iload_n 2, 1), (44, .invokestatic 234, 3), (47, .invokevirtual 115, 3), (50, .ireturn, 1)],
  [(14, 2, 0, 2)],
  [],
  [(115, 125, 3, 1), (126, 43, 1, 99), (129, 44, 1, 99), (132, 131, 3, 1), (135, 129, 3, 1), (141, 41, 1, 99), (147, 42, 1, 99), (234, 45, 1, 99)],
  [],
  [], [])
def mp_C_liesOnLine_t : mm_T := (⟨"RootCompass", "liesOnLine", "(II)Z"⟩, prog_1_method_38_code, 4, (some .boolean), 0, mp_C_liesOnLine)
def mp_C_coincide : mm_P := ([(0, .aload_n 0, 1), (1, .getfield 14, 3), (4, .iload_n 1, 1), (5, .invokestatic 141, 3), (8, .iload_n 2, 1), (9, .invokestatic 141, 3), (12, .invokevirtual 115, 3), (15, .ifCond .eq 25, 3), (18, .aload_n 0, 1), (19, .getfield 14, 3), (22, .iload_n 1, 1), (23, .invokestatic 147, 3), (26, .iload_n 2, 1), (27, .invokestatic 147, 3), (30, .invokevirtual 115, 3), (33, .ifCond .eq 7, 3), (36, .iconst 1, 1), (37, .goto 4, 3), (40, .iconst 0, 1), (41, .ireturn, 1)],
  [(14, 2, 0, 2)],
  [],
  [(115, 125, 3, 1), (141, 41, 1, 99), (147, 42, 1, 99)],
  [],
  [], [])
def mp_C_coincide_t : mm_T := (⟨"RootCompass", "coincide", "(II)Z"⟩, prog_1_method_39_code, 3, (some .boolean), 0, mp_C_coincide)
def mp_C_squareOfDistance : mm_P := ([(0, .aload_n 0, 1), (1, .getfield 14, 3), (4, .iload_n 2, 1), (5, .invokestatic 141, 3), (8, .iload_n 1, 1), (9, .invokestatic 141, 3), (12, .invokevirtual 144, 3), (15, .istore_n 3, 1), (16, .aload_n 0, 1), (17, .getfield 14, 3), (20, .iload_n 2, 1), (21, .invokestatic 147, 3), (24, .iload_n 1, 1), (25, .invokestatic 147, 3), (28, .invokevirtual 144, 3), (31, .istore 4, 2), (33, .aload_n 0, 1), (34, .getfield 14, 3), (37, .aload_n 0, 1), (38, .getfield 14, 3), (41, .iload_n 3, 1), (42, .iload_n 3, 1), (43, .invokevirtual 132, 3), (46, .aload_n 0, 1), (47, .getfield 14, 3), (50, .iload 4, 2), (52, .iload 4, 2), (54, .invokevirtual 132, 3), (57, .invokevirtual 135, 3), (60, .ireturn, 1)],
  [(14, 2, 0, 2)],
  [],
  [(132, 131, 3, 1), (135, 129, 3, 1), (141, 41, 1, 99), (144, 130, 3, 1), (147, 42, 1, 99)],
  [],
  [], [])
def mp_C_squareOfDistance_t : mm_T := (⟨"RootCompass", "squareOfDistance", "(II)I"⟩, prog_1_method_40_code, 5, (some .int), 0, mp_C_squareOfDistance)
def mp_C_place : mm_P := ([(0, .aload_n 0, 1), (1, .getfield 14, 3), (4, .invokevirtual 101, 3), (7, .aload_n 0, 1), (8, .getfield 14, 3), (11, .aload_n 0, 1), (12, .getfield 14, 3), (15, .iload_n 2, 1), (16, .iload_n 3, 1), (17, .invokevirtual 267, 3), (20, .iload_n 1, 1), (21, .invokestatic 141, 3), (24, .invokevirtual 231, 3), (27, .aload_n 0, 1), (28, .getfield 14, 3), (31, .aload_n 0, 1), (32, .getfield 14, 3), (35, .iload 4, 2), (37, .iload 5, 2), (39, .invokevirtual 267, 3), (42, .iload_n 1, 1), (43, .invokestatic 147, 3), (46, .invokevirtual 231, 3), (49, .return_, 1)],
  [(14, 2, 0, 2)],
  [],
  [(101, 122, 1, 1), (141, 41, 1, 99), (147, 42, 1, 99), (231, 124, 3, 1), (267, 128, 3, 1)],
  [],
  [], [])
def mp_C_place_t : mm_T := (⟨"RootCompass", "place", "(IIIII)V"⟩, prog_1_method_41_code, 6, none, 0, mp_C_place)
def mp_C_copyPlace : mm_P := ([(0, .aload_n 0, 1), (1, .getfield 14, 3), (4, .iload_n 1, 1), (5, .invokestatic 141, 3), (8, .iload_n 2, 1), (9, .invokestatic 141, 3), (12, .invokevirtual 231, 3), (15, .aload_n 0, 1), (16, .getfield 14, 3), (19, .iload_n 1, 1), (20, .invokestatic 147, 3), (23, .iload_n 2, 1), (24, .invokestatic 147, 3), (27, .invokevirtual 231, 3), (30, .return_, 1)],
  [(14, 2, 0, 2)],
  [],
  [(141, 41, 1, 99), (147, 42, 1, 99), (231, 124, 3, 1)],
  [],
  [], [])
def mp_C_copyPlace_t : mm_T := (⟨"RootCompass", "copyPlace", "(II)V"⟩, prog_1_method_42_code, 3, none, 0, mp_C_copyPlace)
def mp_C_xOf : mm_P := ([(0, .iload_n 0, 1), (1, .iconst 3, 1), (2, .imul, 1), (3, .invokestatic 270, 3), (6, .ireturn, 1)],
  [],
  [],
  [(270, 121, 1, 99)],
  [],
  [], [])
def mp_C_xOf_t : mm_T := (⟨"RootCompass", "xOf", "(I)I"⟩, prog_1_method_43_code, 1, (some .int), 0, mp_C_xOf)
def mp_C_yOf : mm_P := ([(0, .iload_n 0, 1), (1, .iconst 3, 1), (2, .imul, 1), (3, .iconst 1, 1), (4, .iadd, 1), (5, .invokestatic 270, 3), (8, .ireturn, 1)],
  [],
  [],
  [(270, 121, 1, 99)],
  [],
  [], [])
def mp_C_yOf_t : mm_T := (⟨"RootCompass", "yOf", "(I)I"⟩, prog_1_method_44_code, 1, (some .int), 0, mp_C_yOf)
def mp_C_lineA : mm_P := ([(0, .iload_n 0, 1), (1, .iconst 3, 1), (2, .imul, 1), (3, .invokestatic 270, 3), (6, .ireturn, 1)],
  [],
  [],
  [(270, 121, 1, 99)],
  [],
  [], [])
def mp_C_lineA_t : mm_T := (⟨"RootCompass", "lineA", "(I)I"⟩, prog_1_method_45_code, 1, (some .int), 0, mp_C_lineA)
def mp_C_lineB : mm_P := ([(0, .iload_n 0, 1), (1, .iconst 3, 1), (2, .imul, 1), (3, .iconst 1, 1), (4, .iadd, 1), (5, .invokestatic 270, 3), (8, .ireturn, 1)],
  [],
  [],
  [(270, 121, 1, 99)],
  [],
  [], [])
def mp_C_lineB_t : mm_T := (⟨"RootCompass", "lineB", "(I)I"⟩, prog_1_method_46_code, 1, (some .int), 0, mp_C_lineB)
def mp_C_lineC : mm_P := ([(0, .iload_n 0, 1), (1, .iconst 3, 1), (2, .imul, 1), (3, .iconst 2, 1), (4, .iadd, 1), (5, .invokestatic 270, 3), (8, .ireturn, 1)],
  [],
  [],
  [(270, 121, 1, 99)],
  [],
  [], [])
def mp_C_lineC_t : mm_T := (⟨"RootCompass", "lineC", "(I)I"⟩, prog_1_method_47_code, 1, (some .int), 0, mp_C_lineC)
def mp_C_squareOf : mm_P := ([(0, .iload_n 0, 1), (1, .iconst 3, 1), (2, .imul, 1), (3, .invokestatic 270, 3), (6, .ireturn, 1)],
  [],
  [],
  [(270, 121, 1, 99)],
  [],
  [], [])
def mp_C_squareOf_t : mm_T := (⟨"RootCompass", "squareOf", "(I)I"⟩, prog_1_method_48_code, 1, (some .int), 0, mp_C_squareOf)
def mp_M_thrown : mm_P := ([(0, .aload_n 0, 1), (1, .getfield 31, 3), (4, .ireturn, 1)],
  [(31, 3, 0, 0)],
  [],
  [],
  [],
  [], [])
def mp_M_thrown_t : mm_T := (⟨"RootCompassModel", "thrown", "()I"⟩, prog_5_method_2_code, 1, (some .int), 0, mp_M_thrown)
def mp_M_divisor : mm_P := ([(0, .lload_n 0, 1), (1, .lconst 0, 1), (2, .lcmp, 1), (3, .ifCond .ge 8, 3), (6, .lload_n 0, 1), (7, .lneg, 1), (8, .goto 4, 3), (11, .lload_n 0, 1), (12, .lstore 4, 2), (14, .lload_n 2, 1), (15, .lstore 6, 2), (17, .lload 4, 2), (19, .lconst 0, 1), (20, .lcmp, 1), (21, .ifCond .eq 21, 3), (24, .lload 6, 2), (26, .lload 4, 2), (28, .lrem, 1), (29, .lstore 8, 2), (31, .lload 4, 2), (33, .lstore 6, 2), (35, .lload 8, 2), (37, .lstore 4, 2), (39, .goto (-22), 3), (42, .lload 6, 2), (44, .lreturn, 1)],
  [],
  [],
  [],
  [],
  [], [])
def mp_M_divisor_t : mm_T := (⟨"RootCompassModel", "divisor", "(JJ)J"⟩, prog_5_method_3_code, 10, (some .long), 0, mp_M_divisor)
def mp_M_put : mm_P := ([(0, .lload_n 2, 1), (1, .lload 4, 2), (3, .invokestatic 35, 3), (6, .lstore 6, 2), (8, .lload_n 2, 1), (9, .lload 6, 2), (11, .ldiv, 1), (12, .lstore 8, 2), (14, .lload 4, 2), (16, .lload 6, 2), (18, .ldiv, 1), (19, .lstore 10, 2), (21, .lload 8, 2), (23, .ldc2_w 39, 3), (26, .lcmp, 1), (27, .ifCond .gt 25, 3), (30, .lload 8, 2), (32, .ldc2_w 41, 3), (35, .lcmp, 1), (36, .ifCond .lt 16, 3), (39, .lload 10, 2), (41, .ldc2_w 39, 3), (44, .lcmp, 1), (45, .ifCond .gt 7, 3), (48, .iconst 1, 1), (49, .goto 4, 3), (52, .iconst 0, 1), (53, .istore 12, 2), (55, .aload_n 0, 1), (56, .aload_n 0, 1), (57, .getfield 43, 3), (60, .ifCond .ne 8, 3), (63, .iload 12, 2), (65, .ifCond .ne 7, 3), (68, .iconst 1, 1), (69, .goto 4, 3), (72, .iconst 0, 1), (73, .putfield 43, 3), (76, .aload_n 0, 1), (77, .getfield 7, 3), (80, .iload_n 1, 1), (81, .iload 12, 2), (83, .ifCond .eq 8, 3), (86, .lload 8, 2), (88, .goto 4, 3), (91, .lconst 0, 1), (92, .lastore, 1), (93, .aload_n 0, 1), (94, .getfield 13, 3), (97, .iload_n 1, 1), (98, .iload 12, 2), (100, .ifCond .eq 8, 3), (103, .lload 10, 2), (105, .goto 4, 3), (108, .lconst 1, 1), (109, .lastore, 1), (110, .return_, 1)],
  [(7, 3, 4, 2), (13, 3, 5, 2), (43, 3, 2, 1)],
  [(39, .long 2147483647), (41, .long (-2147483647))],
  [(35, 48, 2, 99)],
  [],
  [], [])
def mp_M_put_t : mm_T := (⟨"RootCompassModel", "put", "(IJJ)V"⟩, prog_5_method_4_code, 13, none, 0, mp_M_put)
def mp_M_add0 : mm_P := ([(0, .aload_n 0, 1), (1, .iload_n 1, 1), (2, .aload_n 0, 1), (3, .getfield 7, 3), (6, .iload_n 2, 1), (7, .laload, 1), (8, .aload_n 0, 1), (9, .getfield 13, 3), (12, .iload_n 3, 1), (13, .laload, 1), (14, .lmul, 1), (15, .aload_n 0, 1), (16, .getfield 7, 3), (19, .iload_n 3, 1), (20, .laload, 1), (21, .aload_n 0, 1), (22, .getfield 13, 3), (25, .iload_n 2, 1), (26, .laload, 1), (27, .lmul, 1), (28, .ladd, 1), (29, .aload_n 0, 1), (30, .getfield 13, 3), (33, .iload_n 2, 1), (34, .laload, 1), (35, .aload_n 0, 1), (36, .getfield 13, 3), (39, .iload_n 3, 1), (40, .laload, 1), (41, .lmul, 1), (42, .invokevirtual 47, 3), (45, .return_, 1)],
  [(7, 3, 4, 2), (13, 3, 5, 2)],
  [],
  [(47, 49, 4, 3)],
  [],
  [], [])
def mp_M_add0_t : mm_T := (⟨"RootCompassModel", "add0", "(III)V"⟩, prog_5_method_5_code, 4, none, 0, mp_M_add0)
def mp_M_sub0 : mm_P := ([(0, .aload_n 0, 1), (1, .iload_n 1, 1), (2, .aload_n 0, 1), (3, .getfield 7, 3), (6, .iload_n 2, 1), (7, .laload, 1), (8, .aload_n 0, 1), (9, .getfield 13, 3), (12, .iload_n 3, 1), (13, .laload, 1), (14, .lmul, 1), (15, .aload_n 0, 1), (16, .getfield 7, 3), (19, .iload_n 3, 1), (20, .laload, 1), (21, .aload_n 0, 1), (22, .getfield 13, 3), (25, .iload_n 2, 1), (26, .laload, 1), (27, .lmul, 1), (28, .lsub, 1), (29, .aload_n 0, 1), (30, .getfield 13, 3), (33, .iload_n 2, 1), (34, .laload, 1), (35, .aload_n 0, 1), (36, .getfield 13, 3), (39, .iload_n 3, 1), (40, .laload, 1), (41, .lmul, 1), (42, .invokevirtual 47, 3), (45, .return_, 1)],
  [(7, 3, 4, 2), (13, 3, 5, 2)],
  [],
  [(47, 49, 4, 3)],
  [],
  [], [])
def mp_M_sub0_t : mm_T := (⟨"RootCompassModel", "sub0", "(III)V"⟩, prog_5_method_6_code, 4, none, 0, mp_M_sub0)
def mp_M_mul0 : mm_P := ([(0, .aload_n 0, 1), (1, .iload_n 1, 1), (2, .aload_n 0, 1), (3, .getfield 7, 3), (6, .iload_n 2, 1), (7, .laload, 1), (8, .aload_n 0, 1), (9, .getfield 7, 3), (12, .iload_n 3, 1), (13, .laload, 1), (14, .lmul, 1), (15, .aload_n 0, 1), (16, .getfield 13, 3), (19, .iload_n 2, 1), (20, .laload, 1), (21, .aload_n 0, 1), (22, .getfield 13, 3), (25, .iload_n 3, 1), (26, .laload, 1), (27, .lmul, 1), (28, .invokevirtual 47, 3), (31, .return_, 1)],
  [(7, 3, 4, 2), (13, 3, 5, 2)],
  [],
  [(47, 49, 4, 3)],
  [],
  [], [])
def mp_M_mul0_t : mm_T := (⟨"RootCompassModel", "mul0", "(III)V"⟩, prog_5_method_7_code, 4, none, 0, mp_M_mul0)
def mp_M_neg0 : mm_P := ([(0, .aload_n 0, 1), (1, .iload_n 1, 1), (2, .aload_n 0, 1), (3, .getfield 7, 3), (6, .iload_n 2, 1), (7, .laload, 1), (8, .lneg, 1), (9, .aload_n 0, 1), (10, .getfield 13, 3), (13, .iload_n 2, 1), (14, .laload, 1), (15, .invokevirtual 47, 3), (18, .return_, 1)],
  [(7, 3, 4, 2), (13, 3, 5, 2)],
  [],
  [(47, 49, 4, 3)],
  [],
  [], [])
def mp_M_neg0_t : mm_T := (⟨"RootCompassModel", "neg0", "(II)V"⟩, prog_5_method_8_code, 3, none, 0, mp_M_neg0)
def mp_M_inv0 : mm_P := ([(0, .aload_n 0, 1), (1, .aload_n 0, 1), (2, .getfield 43, 3), (5, .ifCond .ne 14, 3), (8, .aload_n 0, 1), (9, .getfield 7, 3), (12, .iload_n 2, 1), (13, .laload, 1), (14, .lconst 0, 1), (15, .lcmp, 1), (16, .ifCond .ne 7, 3), (19, .iconst 1, 1), (20, .goto 4, 3), (23, .iconst 0, 1), (24, .putfield 43, 3), (27, .aload_n 0, 1), (28, .iload_n 1, 1), (29, .aload_n 0, 1), (30, .getfield 7, 3), (33, .iload_n 2, 1), (34, .laload, 1), (35, .lconst 0, 1), (36, .lcmp, 1), (37, .ifCond .ge 13, 3), (40, .aload_n 0, 1), (41, .getfield 13, 3), (44, .iload_n 2, 1), (45, .laload, 1), (46, .lneg, 1), (47, .goto 24, 3), (50, .aload_n 0, 1), (51, .getfield 7, 3), (54, .iload_n 2, 1), (55, .laload, 1), (56, .lconst 0, 1), (57, .lcmp, 1), (58, .ifCond .ne 7, 3), (61, .lconst 0, 1), (62, .goto 9, 3), (65, .aload_n 0, 1), (66, .getfield 13, 3), (69, .iload_n 2, 1), (70, .laload, 1), (71, .aload_n 0, 1), (72, .getfield 7, 3), (75, .iload_n 2, 1), (76, .laload, 1), (77, .lconst 0, 1), (78, .lcmp, 1), (79, .ifCond .ge 13, 3), (82, .aload_n 0, 1), (83, .getfield 7, 3), (86, .iload_n 2, 1), (87, .laload, 1), (88, .lneg, 1), (89, .goto 24, 3), (92, .aload_n 0, 1), (93, .getfield 7, 3), (96, .iload_n 2, 1), (97, .laload, 1), (98, .lconst 0, 1), (99, .lcmp, 1), (100, .ifCond .ne 7, 3), (103, .lconst 1, 1), (104, .goto 9, 3), (107, .aload_n 0, 1), (108, .getfield 7, 3), (111, .iload_n 2, 1), (112, .laload, 1), (113, .invokevirtual 47, 3), (116, .return_, 1)],
  [(7, 3, 4, 2), (13, 3, 5, 2), (43, 3, 2, 1)],
  [],
  [(47, 49, 4, 3)],
  [],
  [], [])
def mp_M_inv0_t : mm_T := (⟨"RootCompassModel", "inv0", "(II)V"⟩, prog_5_method_9_code, 3, none, 0, mp_M_inv0)
def mp_M_sign0 : mm_P := ([(0, .aload_n 0, 1), (1, .getfield 7, 3), (4, .iload_n 1, 1), (5, .laload, 1), (6, .lconst 0, 1), (7, .lcmp, 1), (8, .ifCond .ge 7, 3), (11, .iconst (-1), 1), (12, .goto 19, 3), (15, .aload_n 0, 1), (16, .getfield 7, 3), (19, .iload_n 1, 1), (20, .laload, 1), (21, .lconst 0, 1), (22, .lcmp, 1), (23, .ifCond .le 7, 3), (26, .iconst 1, 1), (27, .goto 4, 3), (30, .iconst 0, 1), (31, .ireturn, 1)],
  [(7, 3, 4, 2)],
  [],
  [],
  [],
  [], [])
def mp_M_sign0_t : mm_T := (⟨"RootCompassModel", "sign0", "(I)I"⟩, prog_5_method_10_code, 2, (some .int), 0, mp_M_sign0)
def mp_M_square : mm_P := ([(0, .lconst 0, 1), (1, .lstore_n 2, 1), (2, .ldc2_w 51, 3), (5, .lstore 4, 2), (7, .lload_n 2, 1), (8, .lload 4, 2), (10, .lcmp, 1), (11, .ifCond .ge 61, 3), (14, .lload_n 2, 1), (15, .lload 4, 2), (17, .ladd, 1), (18, .ldc2_w 29, 3), (21, .ldiv, 1), (22, .lstore 6, 2), (24, .lload 6, 2), (26, .lload 6, 2), (28, .lmul, 1), (29, .lload_n 0, 1), (30, .lcmp, 1), (31, .ifCond .ge 7, 3), (34, .iconst 1, 1), (35, .goto 4, 3), (38, .iconst 0, 1), (39, .istore 8, 2), (41, .iload 8, 2), (43, .ifCond .eq 10, 3), (46, .lload 6, 2), (48, .lconst 1, 1), (49, .ladd, 1), (50, .goto 4, 3), (53, .lload_n 2, 1), (54, .lstore_n 2, 1), (55, .iload 8, 2), (57, .ifCond .eq 8, 3), (60, .lload 4, 2), (62, .goto 5, 3), (65, .lload 6, 2), (67, .lstore 4, 2), (69, .goto (-62), 3), (72, .lload_n 2, 1), (73, .lload_n 2, 1), (74, .lmul, 1), (75, .lload_n 0, 1), (76, .lcmp, 1), (77, .ifCond .ne 7, 3), (80, .lload_n 2, 1), (81, .goto 6, 3), (84, .ldc2_w 53, 3), (87, .lreturn, 1)],
  [],
  [(29, .long 2), (51, .long 46341), (53, .long (-1))],
  [],
  [],
  [], [])
def mp_M_square_t : mm_T := (⟨"RootCompassModel", "square", "(J)J"⟩, prog_5_method_11_code, 9, (some .long), 0, mp_M_square)
def mp_M_root0 : mm_P := ([(0, .aload_n 0, 1), (1, .getfield 7, 3), (4, .iload_n 2, 1), (5, .laload, 1), (6, .invokestatic 55, 3), (9, .lstore_n 3, 1), (10, .aload_n 0, 1), (11, .getfield 13, 3), (14, .iload_n 2, 1), (15, .laload, 1), (16, .invokestatic 55, 3), (19, .lstore 5, 2), (21, .lload_n 3, 1), (22, .lconst 0, 1), (23, .lcmp, 1), (24, .ifCond .lt 10, 3), (27, .lload 5, 2), (29, .lconst 0, 1), (30, .lcmp, 1), (31, .ifCond .ge 5, 3), (34, .iconst 0, 1), (35, .ireturn, 1), (36, .aload_n 0, 1), (37, .iload_n 1, 1), (38, .lload_n 3, 1), (39, .lload 5, 2), (41, .invokevirtual 47, 3), (44, .iconst 1, 1), (45, .ireturn, 1)],
  [(7, 3, 4, 2), (13, 3, 5, 2)],
  [],
  [(47, 49, 4, 3), (55, 56, 1, 99)],
  [],
  [], [])
def mp_M_root0_t : mm_T := (⟨"RootCompassModel", "root0", "(II)Z"⟩, prog_5_method_12_code, 7, (some .boolean), 0, mp_M_root0)
def mp_M_set : mm_P := ([(0, .iconst 0, 1), (1, .istore 4, 2), (3, .iload 4, 2), (5, .iload_n 3, 1), (6, .if_icmp .ge 45, 3), (9, .aload_n 0, 1), (10, .getfield 7, 3), (13, .iload_n 1, 1), (14, .iload 4, 2), (16, .iadd, 1), (17, .aload_n 0, 1), (18, .getfield 7, 3), (21, .iload_n 2, 1), (22, .iload 4, 2), (24, .iadd, 1), (25, .laload, 1), (26, .lastore, 1), (27, .aload_n 0, 1), (28, .getfield 13, 3), (31, .iload_n 1, 1), (32, .iload 4, 2), (34, .iadd, 1), (35, .aload_n 0, 1), (36, .getfield 13, 3), (39, .iload_n 2, 1), (40, .iload 4, 2), (42, .iadd, 1), (43, .laload, 1), (44, .lastore, 1), (45, .iinc 4 1, 3), (48, .goto (-45), 3), (51, .return_, 1)],
  [(7, 3, 4, 2), (13, 3, 5, 2)],
  [],
  [],
  [],
  [], [])
def mp_M_set_t : mm_T := (⟨"RootCompassModel", "set", "(III)V"⟩, prog_5_method_13_code, 5, none, 0, mp_M_set)
def mp_M_add : mm_P := ([(0, .iconst 0, 1), (1, .istore 5, 2), (3, .iload 5, 2), (5, .iload 4, 2), (7, .if_icmp .ge 25, 3), (10, .aload_n 0, 1), (11, .iload_n 1, 1), (12, .iload 5, 2), (14, .iadd, 1), (15, .iload_n 2, 1), (16, .iload 5, 2), (18, .iadd, 1), (19, .iload_n 3, 1), (20, .iload 5, 2), (22, .iadd, 1), (23, .invokevirtual 59, 3), (26, .iinc 5 1, 3), (29, .goto (-26), 3), (32, .return_, 1)],
  [],
  [],
  [(59, 50, 4, 3)],
  [],
  [], [])
def mp_M_add_t : mm_T := (⟨"RootCompassModel", "add", "(IIII)V"⟩, prog_5_method_14_code, 6, none, 0, mp_M_add)
def mp_M_sub : mm_P := ([(0, .iconst 0, 1), (1, .istore 5, 2), (3, .iload 5, 2), (5, .iload 4, 2), (7, .if_icmp .ge 25, 3), (10, .aload_n 0, 1), (11, .iload_n 1, 1), (12, .iload 5, 2), (14, .iadd, 1), (15, .iload_n 2, 1), (16, .iload 5, 2), (18, .iadd, 1), (19, .iload_n 3, 1), (20, .iload 5, 2), (22, .iadd, 1), (23, .invokevirtual 63, 3), (26, .iinc 5 1, 3), (29, .goto (-26), 3), (32, .return_, 1)],
  [],
  [],
  [(63, 51, 4, 3)],
  [],
  [], [])
def mp_M_sub_t : mm_T := (⟨"RootCompassModel", "sub", "(IIII)V"⟩, prog_5_method_15_code, 6, none, 0, mp_M_sub)
def mp_M_neg : mm_P := ([(0, .iconst 0, 1), (1, .istore 4, 2), (3, .iload 4, 2), (5, .iload_n 3, 1), (6, .if_icmp .ge 21, 3), (9, .aload_n 0, 1), (10, .iload_n 1, 1), (11, .iload 4, 2), (13, .iadd, 1), (14, .iload_n 2, 1), (15, .iload 4, 2), (17, .iadd, 1), (18, .invokevirtual 66, 3), (21, .iinc 4 1, 3), (24, .goto (-21), 3), (27, .return_, 1)],
  [],
  [],
  [(66, 53, 3, 3)],
  [],
  [], [])
def mp_M_neg_t : mm_T := (⟨"RootCompassModel", "neg", "(III)V"⟩, prog_5_method_16_code, 5, none, 0, mp_M_neg)
def mp_M_halve : mm_P := ([(0, .iconst 0, 1), (1, .istore 4, 2), (3, .iload 4, 2), (5, .iload_n 3, 1), (6, .if_icmp .ge 24, 3), (9, .aload_n 0, 1), (10, .iload_n 1, 1), (11, .iload 4, 2), (13, .iadd, 1), (14, .iload_n 2, 1), (15, .iload 4, 2), (17, .iadd, 1), (18, .sipush 299, 3), (21, .invokevirtual 70, 3), (24, .iinc 4 1, 3), (27, .goto (-24), 3), (30, .return_, 1)],
  [],
  [],
  [(70, 52, 4, 3)],
  [],
  [], [])
def mp_M_halve_t : mm_T := (⟨"RootCompassModel", "halve", "(III)V"⟩, prog_5_method_17_code, 5, none, 0, mp_M_halve)
def mp_M_isZero : mm_P := ([(0, .iconst 1, 1), (1, .istore_n 3, 1), (2, .iconst 0, 1), (3, .istore 4, 2), (5, .iload 4, 2), (7, .iload_n 2, 1), (8, .if_icmp .ge 33, 3), (11, .iload_n 3, 1), (12, .ifCond .eq 21, 3), (15, .aload_n 0, 1), (16, .getfield 7, 3), (19, .iload_n 1, 1), (20, .iload 4, 2), (22, .iadd, 1), (23, .laload, 1), (24, .lconst 0, 1), (25, .lcmp, 1), (26, .ifCond .ne 7, 3), (29, .iconst 1, 1), (30, .goto 4, 3), (33, .iconst 0, 1), (34, .istore_n 3, 1), (35, .iinc 4 1, 3), (38, .goto (-33), 3), (41, .iload_n 3, 1), (42, .ireturn, 1)],
  [(7, 3, 4, 2)],
  [],
  [],
  [],
  [], [])
def mp_M_isZero_t : mm_T := (⟨"RootCompassModel", "isZero", "(II)Z"⟩, prog_5_method_18_code, 5, (some .boolean), 0, mp_M_isZero)
def mp_M_alike : mm_P := ([(0, .iconst 1, 1), (1, .istore_n 3, 1), (2, .iconst 0, 1), (3, .istore 4, 2), (5, .iload 4, 2), (7, .iconst 4, 1), (8, .if_icmp .ge 63, 3), (11, .iload_n 3, 1), (12, .ifCond .eq 51, 3), (15, .aload_n 0, 1), (16, .getfield 7, 3), (19, .iload_n 1, 1), (20, .iload 4, 2), (22, .iadd, 1), (23, .laload, 1), (24, .aload_n 0, 1), (25, .getfield 7, 3), (28, .iload_n 2, 1), (29, .iload 4, 2), (31, .iadd, 1), (32, .laload, 1), (33, .lcmp, 1), (34, .ifCond .ne 29, 3), (37, .aload_n 0, 1), (38, .getfield 13, 3), (41, .iload_n 1, 1), (42, .iload 4, 2), (44, .iadd, 1), (45, .laload, 1), (46, .aload_n 0, 1), (47, .getfield 13, 3), (50, .iload_n 2, 1), (51, .iload 4, 2), (53, .iadd, 1), (54, .laload, 1), (55, .lcmp, 1), (56, .ifCond .ne 7, 3), (59, .iconst 1, 1), (60, .goto 4, 3), (63, .iconst 0, 1), (64, .istore_n 3, 1), (65, .iinc 4 1, 3), (68, .goto (-63), 3), (71, .iload_n 3, 1), (72, .ireturn, 1)],
  [(7, 3, 4, 2), (13, 3, 5, 2)],
  [],
  [],
  [],
  [], [])
def mp_M_alike_t : mm_T := (⟨"RootCompassModel", "alike", "(II)Z"⟩, prog_5_method_19_code, 5, (some .boolean), 0, mp_M_alike)
def mp_M_clear : mm_P := ([(0, .iload_n 2, 1), (1, .istore_n 3, 1), (2, .iload_n 3, 1), (3, .iconst 4, 1), (4, .if_icmp .ge 27, 3), (7, .aload_n 0, 1), (8, .getfield 7, 3), (11, .iload_n 1, 1), (12, .iload_n 3, 1), (13, .iadd, 1), (14, .lconst 0, 1), (15, .lastore, 1), (16, .aload_n 0, 1), (17, .getfield 13, 3), (20, .iload_n 1, 1), (21, .iload_n 3, 1), (22, .iadd, 1), (23, .lconst 1, 1), (24, .lastore, 1), (25, .iinc 3 1, 3), (28, .goto (-26), 3), (31, .return_, 1)],
  [(7, 3, 4, 2), (13, 3, 5, 2)],
  [],
  [],
  [],
  [], [])
def mp_M_clear_t : mm_T := (⟨"RootCompassModel", "clear", "(II)V"⟩, prog_5_method_20_code, 4, none, 0, mp_M_clear)
def mp_M_mul1 : mm_P := ([(0, .aload_n 0, 1), (1, .sipush 300, 3), (4, .iload_n 2, 1), (5, .iload_n 3, 1), (6, .invokevirtual 70, 3), (9, .aload_n 0, 1), (10, .sipush 301, 3), (13, .iload_n 2, 1), (14, .iconst 1, 1), (15, .iadd, 1), (16, .iload_n 3, 1), (17, .iconst 1, 1), (18, .iadd, 1), (19, .invokevirtual 70, 3), (22, .aload_n 0, 1), (23, .sipush 301, 3), (26, .sipush 301, 3), (29, .sipush 288, 3), (32, .invokevirtual 70, 3), (35, .aload_n 0, 1), (36, .sipush 302, 3), (39, .iload_n 2, 1), (40, .iload_n 3, 1), (41, .iconst 1, 1), (42, .iadd, 1), (43, .invokevirtual 70, 3), (46, .aload_n 0, 1), (47, .sipush 303, 3), (50, .iload_n 2, 1), (51, .iconst 1, 1), (52, .iadd, 1), (53, .iload_n 3, 1), (54, .invokevirtual 70, 3), (57, .aload_n 0, 1), (58, .iload_n 1, 1), (59, .sipush 300, 3), (62, .sipush 301, 3), (65, .invokevirtual 59, 3), (68, .aload_n 0, 1), (69, .iload_n 1, 1), (70, .iconst 1, 1), (71, .iadd, 1), (72, .sipush 302, 3), (75, .sipush 303, 3), (78, .invokevirtual 59, 3), (81, .return_, 1)],
  [],
  [],
  [(59, 50, 4, 3), (70, 52, 4, 3)],
  [],
  [], [])
def mp_M_mul1_t : mm_T := (⟨"RootCompassModel", "mul1", "(III)V"⟩, prog_5_method_21_code, 4, none, 0, mp_M_mul1)
def mp_M_norm1 : mm_P := ([(0, .aload_n 0, 1), (1, .iload_n 1, 1), (2, .iload_n 2, 1), (3, .iload_n 2, 1), (4, .invokevirtual 70, 3), (7, .aload_n 0, 1), (8, .sipush 300, 3), (11, .iload_n 2, 1), (12, .iconst 1, 1), (13, .iadd, 1), (14, .iload_n 2, 1), (15, .iconst 1, 1), (16, .iadd, 1), (17, .invokevirtual 70, 3), (20, .aload_n 0, 1), (21, .sipush 300, 3), (24, .sipush 300, 3), (27, .sipush 288, 3), (30, .invokevirtual 70, 3), (33, .aload_n 0, 1), (34, .iload_n 1, 1), (35, .iload_n 1, 1), (36, .sipush 300, 3), (39, .invokevirtual 63, 3), (42, .return_, 1)],
  [],
  [],
  [(63, 51, 4, 3), (70, 52, 4, 3)],
  [],
  [], [])
def mp_M_norm1_t : mm_T := (⟨"RootCompassModel", "norm1", "(II)V"⟩, prog_5_method_22_code, 3, none, 0, mp_M_norm1)
def mp_M_inv1 : mm_P := ([(0, .aload_n 0, 1), (1, .sipush 312, 3), (4, .iload_n 2, 1), (5, .invokevirtual 73, 3), (8, .aload_n 0, 1), (9, .sipush 312, 3), (12, .sipush 312, 3), (15, .invokevirtual 76, 3), (18, .aload_n 0, 1), (19, .sipush 313, 3), (22, .iload_n 2, 1), (23, .iconst 1, 1), (24, .iadd, 1), (25, .invokevirtual 66, 3), (28, .aload_n 0, 1), (29, .iload_n 1, 1), (30, .iload_n 2, 1), (31, .sipush 312, 3), (34, .invokevirtual 70, 3), (37, .aload_n 0, 1), (38, .iload_n 1, 1), (39, .iconst 1, 1), (40, .iadd, 1), (41, .sipush 313, 3), (44, .sipush 312, 3), (47, .invokevirtual 70, 3), (50, .return_, 1)],
  [],
  [],
  [(66, 53, 3, 3), (70, 52, 4, 3), (73, 67, 3, 3), (76, 54, 3, 3)],
  [],
  [], [])
def mp_M_inv1_t : mm_T := (⟨"RootCompassModel", "inv1", "(II)V"⟩, prog_5_method_23_code, 3, none, 0, mp_M_inv1)
def mp_M_sign1 : mm_P := ([(0, .aload_n 0, 1), (1, .iload_n 1, 1), (2, .invokevirtual 79, 3), (5, .istore_n 2, 1), (6, .aload_n 0, 1), (7, .iload_n 1, 1), (8, .iconst 1, 1), (9, .iadd, 1), (10, .invokevirtual 79, 3), (13, .istore_n 3, 1), (14, .iload_n 3, 1), (15, .ifCond .eq 8, 3), (18, .iload_n 2, 1), (19, .iload_n 3, 1), (20, .if_icmp .ne 5, 3), (23, .iload_n 2, 1), (24, .ireturn, 1), (25, .iload_n 2, 1), (26, .ifCond .ne 5, 3), (29, .iload_n 3, 1), (30, .ireturn, 1), (31, .aload_n 0, 1), (32, .sipush 324, 3), (35, .iload_n 1, 1), (36, .invokevirtual 73, 3), (39, .iload_n 2, 1), (40, .aload_n 0, 1), (41, .sipush 324, 3), (44, .invokevirtual 79, 3), (47, .imul, 1), (48, .ireturn, 1)],
  [],
  [],
  [(73, 67, 3, 3), (79, 55, 2, 3)],
  [],
  [], [])
def mp_M_sign1_t : mm_T := (⟨"RootCompassModel", "sign1", "(I)I"⟩, prog_5_method_24_code, 4, (some .int), 0, mp_M_sign1)
def mp_M_half1 : mm_P := ([(0, .iload 4, 2), (2, .ifCond .eq 15, 3), (5, .aload_n 0, 1), (6, .sipush 337, 3), (9, .iload_n 2, 1), (10, .iload_n 3, 1), (11, .invokevirtual 63, 3), (14, .goto 12, 3), (17, .aload_n 0, 1), (18, .sipush 337, 3), (21, .iload_n 2, 1), (22, .iload_n 3, 1), (23, .invokevirtual 59, 3), (26, .aload_n 0, 1), (27, .sipush 337, 3), (30, .sipush 337, 3), (33, .sipush 299, 3), (36, .invokevirtual 70, 3), (39, .aload_n 0, 1), (40, .sipush 337, 3), (43, .invokevirtual 79, 3), (46, .ifCond .le 16, 3), (49, .aload_n 0, 1), (50, .sipush 338, 3), (53, .sipush 337, 3), (56, .invokevirtual 83, 3), (59, .ifCond .ne 5, 3), (62, .iconst 0, 1), (63, .ireturn, 1), (64, .aload_n 0, 1), (65, .sipush 339, 3), (68, .sipush 338, 3), (71, .sipush 338, 3), (74, .invokevirtual 59, 3), (77, .aload_n 0, 1), (78, .sipush 339, 3), (81, .sipush 339, 3), (84, .invokevirtual 76, 3), (87, .aload_n 0, 1), (88, .sipush 339, 3), (91, .iload_n 2, 1), (92, .iconst 1, 1), (93, .iadd, 1), (94, .sipush 339, 3), (97, .invokevirtual 70, 3), (100, .aload_n 0, 1), (101, .sipush 338, 3), (104, .invokevirtual 87, 3), (107, .istore 5, 2), (109, .aload_n 0, 1), (110, .iload_n 1, 1), (111, .sipush 338, 3), (114, .iconst 2, 1), (115, .invokevirtual 90, 3), (118, .iload 5, 2), (120, .ifCond .ge 10, 3), (123, .aload_n 0, 1), (124, .iload_n 1, 1), (125, .iload_n 1, 1), (126, .iconst 2, 1), (127, .invokevirtual 93, 3), (130, .iconst 1, 1), (131, .ireturn, 1)],
  [],
  [],
  [(59, 50, 4, 3), (63, 51, 4, 3), (70, 52, 4, 3), (76, 54, 3, 3), (79, 55, 2, 3), (83, 57, 3, 3), (87, 69, 2, 3), (90, 58, 4, 3), (93, 61, 4, 3)],
  [],
  [], [])
def mp_M_half1_t : mm_T := (⟨"RootCompassModel", "half1", "(IIIZ)Z"⟩, prog_5_method_25_code, 6, (some .boolean), 0, mp_M_half1)
def mp_M_root1 : mm_P := ([(0, .aload_n 0, 1), (1, .getfield 7, 3), (4, .iload_n 2, 1), (5, .iconst 1, 1), (6, .iadd, 1), (7, .laload, 1), (8, .lconst 0, 1), (9, .lcmp, 1), (10, .ifCond .ne 106, 3), (13, .aload_n 0, 1), (14, .sipush 336, 3), (17, .iload_n 2, 1), (18, .invokevirtual 83, 3), (21, .ifCond .eq 32, 3), (24, .aload_n 0, 1), (25, .iload_n 1, 1), (26, .sipush 336, 3), (29, .iconst 1, 1), (30, .invokevirtual 90, 3), (33, .aload_n 0, 1), (34, .getfield 7, 3), (37, .iload_n 1, 1), (38, .iconst 1, 1), (39, .iadd, 1), (40, .lconst 0, 1), (41, .lastore, 1), (42, .aload_n 0, 1), (43, .getfield 13, 3), (46, .iload_n 1, 1), (47, .iconst 1, 1), (48, .iadd, 1), (49, .lconst 1, 1), (50, .lastore, 1), (51, .iconst 1, 1), (52, .ireturn, 1), (53, .aload_n 0, 1), (54, .sipush 336, 3), (57, .sipush 288, 3), (60, .invokevirtual 76, 3), (63, .aload_n 0, 1), (64, .sipush 336, 3), (67, .iload_n 2, 1), (68, .sipush 336, 3), (71, .invokevirtual 70, 3), (74, .aload_n 0, 1), (75, .sipush 336, 3), (78, .sipush 336, 3), (81, .invokevirtual 83, 3), (84, .istore_n 3, 1), (85, .iload_n 3, 1), (86, .ifCond .eq 28, 3), (89, .aload_n 0, 1), (90, .iload_n 1, 1), (91, .iconst 1, 1), (92, .iadd, 1), (93, .sipush 336, 3), (96, .iconst 1, 1), (97, .invokevirtual 90, 3), (100, .aload_n 0, 1), (101, .getfield 7, 3), (104, .iload_n 1, 1), (105, .lconst 0, 1), (106, .lastore, 1), (107, .aload_n 0, 1), (108, .getfield 13, 3), (111, .iload_n 1, 1), (112, .lconst 1, 1), (113, .lastore, 1), (114, .iload_n 3, 1), (115, .ireturn, 1), (116, .aload_n 0, 1), (117, .sipush 336, 3), (120, .iload_n 2, 1), (121, .invokevirtual 73, 3), (124, .aload_n 0, 1), (125, .sipush 336, 3), (128, .invokevirtual 79, 3), (131, .ifCond .lt 16, 3), (134, .aload_n 0, 1), (135, .sipush 336, 3), (138, .sipush 336, 3), (141, .invokevirtual 83, 3), (144, .ifCond .ne 5, 3), (147, .iconst 0, 1), (148, .ireturn, 1), (149, .aload_n 0, 1), (150, .iload_n 1, 1), (151, .iload_n 2, 1), (152, .sipush 336, 3), (155, .iconst 0, 1), (156, .invokevirtual 96, 3), (159, .ifCond .ne 16, 3), (162, .aload_n 0, 1), (163, .iload_n 1, 1), (164, .iload_n 2, 1), (165, .sipush 336, 3), (168, .iconst 1, 1), (169, .invokevirtual 96, 3), (172, .ifCond .eq 7, 3), (175, .iconst 1, 1), (176, .goto 4, 3), (179, .iconst 0, 1), (180, .ireturn, 1)],
  [(7, 3, 4, 2), (13, 3, 5, 2)],
  [],
  [(70, 52, 4, 3), (73, 67, 3, 3), (76, 54, 3, 3), (79, 55, 2, 3), (83, 57, 3, 3), (90, 58, 4, 3), (96, 70, 5, 3)],
  [],
  [], [])
def mp_M_root1_t : mm_T := (⟨"RootCompassModel", "root1", "(II)Z"⟩, prog_5_method_26_code, 4, (some .boolean), 0, mp_M_root1)
def mp_M_mul2 : mm_P := ([(0, .aload_n 0, 1), (1, .sipush 304, 3), (4, .iload_n 2, 1), (5, .iload_n 3, 1), (6, .invokevirtual 100, 3), (9, .aload_n 0, 1), (10, .sipush 306, 3), (13, .iload_n 2, 1), (14, .iconst 2, 1), (15, .iadd, 1), (16, .iload_n 3, 1), (17, .iconst 2, 1), (18, .iadd, 1), (19, .invokevirtual 100, 3), (22, .aload_n 0, 1), (23, .sipush 306, 3), (26, .sipush 306, 3), (29, .sipush 289, 3), (32, .invokevirtual 100, 3), (35, .aload_n 0, 1), (36, .sipush 308, 3), (39, .iload_n 2, 1), (40, .iload_n 3, 1), (41, .iconst 2, 1), (42, .iadd, 1), (43, .invokevirtual 100, 3), (46, .aload_n 0, 1), (47, .sipush 310, 3), (50, .iload_n 2, 1), (51, .iconst 2, 1), (52, .iadd, 1), (53, .iload_n 3, 1), (54, .invokevirtual 100, 3), (57, .aload_n 0, 1), (58, .iload_n 1, 1), (59, .sipush 304, 3), (62, .sipush 306, 3), (65, .iconst 2, 1), (66, .invokevirtual 103, 3), (69, .aload_n 0, 1), (70, .iload_n 1, 1), (71, .iconst 2, 1), (72, .iadd, 1), (73, .sipush 308, 3), (76, .sipush 310, 3), (79, .iconst 2, 1), (80, .invokevirtual 103, 3), (83, .return_, 1)],
  [],
  [],
  [(100, 66, 4, 3), (103, 59, 5, 3)],
  [],
  [], [])
def mp_M_mul2_t : mm_T := (⟨"RootCompassModel", "mul2", "(III)V"⟩, prog_5_method_27_code, 4, none, 0, mp_M_mul2)
def mp_M_norm2 : mm_P := ([(0, .aload_n 0, 1), (1, .iload_n 1, 1), (2, .iload_n 2, 1), (3, .iload_n 2, 1), (4, .invokevirtual 100, 3), (7, .aload_n 0, 1), (8, .sipush 304, 3), (11, .iload_n 2, 1), (12, .iconst 2, 1), (13, .iadd, 1), (14, .iload_n 2, 1), (15, .iconst 2, 1), (16, .iadd, 1), (17, .invokevirtual 100, 3), (20, .aload_n 0, 1), (21, .sipush 304, 3), (24, .sipush 304, 3), (27, .sipush 289, 3), (30, .invokevirtual 100, 3), (33, .aload_n 0, 1), (34, .iload_n 1, 1), (35, .iload_n 1, 1), (36, .sipush 304, 3), (39, .iconst 2, 1), (40, .invokevirtual 107, 3), (43, .return_, 1)],
  [],
  [],
  [(100, 66, 4, 3), (107, 60, 5, 3)],
  [],
  [], [])
def mp_M_norm2_t : mm_T := (⟨"RootCompassModel", "norm2", "(II)V"⟩, prog_5_method_28_code, 3, none, 0, mp_M_norm2)
def mp_M_inv2 : mm_P := ([(0, .aload_n 0, 1), (1, .sipush 316, 3), (4, .iload_n 2, 1), (5, .invokevirtual 110, 3), (8, .aload_n 0, 1), (9, .sipush 316, 3), (12, .sipush 316, 3), (15, .invokevirtual 113, 3), (18, .aload_n 0, 1), (19, .sipush 318, 3), (22, .iload_n 2, 1), (23, .iconst 2, 1), (24, .iadd, 1), (25, .iconst 2, 1), (26, .invokevirtual 93, 3), (29, .aload_n 0, 1), (30, .sipush 320, 3), (33, .iload_n 2, 1), (34, .sipush 316, 3), (37, .invokevirtual 100, 3), (40, .aload_n 0, 1), (41, .iload_n 1, 1), (42, .iconst 2, 1), (43, .iadd, 1), (44, .sipush 318, 3), (47, .sipush 316, 3), (50, .invokevirtual 100, 3), (53, .aload_n 0, 1), (54, .iload_n 1, 1), (55, .sipush 320, 3), (58, .iconst 2, 1), (59, .invokevirtual 90, 3), (62, .return_, 1)],
  [],
  [],
  [(90, 58, 4, 3), (93, 61, 4, 3), (100, 66, 4, 3), (110, 73, 3, 3), (113, 68, 3, 3)],
  [],
  [], [])
def mp_M_inv2_t : mm_T := (⟨"RootCompassModel", "inv2", "(II)V"⟩, prog_5_method_29_code, 3, none, 0, mp_M_inv2)
def mp_M_sign2 : mm_P := ([(0, .aload_n 0, 1), (1, .iload_n 1, 1), (2, .invokevirtual 87, 3), (5, .istore_n 2, 1), (6, .aload_n 0, 1), (7, .iload_n 1, 1), (8, .iconst 2, 1), (9, .iadd, 1), (10, .invokevirtual 87, 3), (13, .istore_n 3, 1), (14, .iload_n 3, 1), (15, .ifCond .eq 8, 3), (18, .iload_n 2, 1), (19, .iload_n 3, 1), (20, .if_icmp .ne 5, 3), (23, .iload_n 2, 1), (24, .ireturn, 1), (25, .iload_n 2, 1), (26, .ifCond .ne 5, 3), (29, .iload_n 3, 1), (30, .ireturn, 1), (31, .aload_n 0, 1), (32, .sipush 328, 3), (35, .iload_n 1, 1), (36, .invokevirtual 110, 3), (39, .iload_n 2, 1), (40, .aload_n 0, 1), (41, .sipush 328, 3), (44, .invokevirtual 87, 3), (47, .imul, 1), (48, .ireturn, 1)],
  [],
  [],
  [(87, 69, 2, 3), (110, 73, 3, 3)],
  [],
  [], [])
def mp_M_sign2_t : mm_T := (⟨"RootCompassModel", "sign2", "(I)I"⟩, prog_5_method_30_code, 4, (some .int), 0, mp_M_sign2)
def mp_M_half2 : mm_P := ([(0, .sipush 348, 3), (3, .istore 5, 2), (5, .iload 4, 2), (7, .ifCond .eq 15, 3), (10, .aload_n 0, 1), (11, .iload 5, 2), (13, .iload_n 2, 1), (14, .iload_n 3, 1), (15, .iconst 2, 1), (16, .invokevirtual 107, 3), (19, .goto 12, 3), (22, .aload_n 0, 1), (23, .iload 5, 2), (25, .iload_n 2, 1), (26, .iload_n 3, 1), (27, .iconst 2, 1), (28, .invokevirtual 103, 3), (31, .aload_n 0, 1), (32, .iload 5, 2), (34, .iload 5, 2), (36, .iconst 2, 1), (37, .invokevirtual 116, 3), (40, .sipush 352, 3), (43, .istore 6, 2), (45, .aload_n 0, 1), (46, .iload 5, 2), (48, .invokevirtual 87, 3), (51, .ifCond .le 14, 3), (54, .aload_n 0, 1), (55, .iload 6, 2), (57, .iload 5, 2), (59, .invokevirtual 119, 3), (62, .ifCond .ne 5, 3), (65, .iconst 0, 1), (66, .ireturn, 1), (67, .aload_n 0, 1), (68, .iload 6, 2), (70, .iconst 2, 1), (71, .iadd, 1), (72, .iload 6, 2), (74, .iload 6, 2), (76, .iconst 2, 1), (77, .invokevirtual 103, 3), (80, .aload_n 0, 1), (81, .iload 6, 2), (83, .iconst 2, 1), (84, .iadd, 1), (85, .iload 6, 2), (87, .iconst 2, 1), (88, .iadd, 1), (89, .invokevirtual 113, 3), (92, .aload_n 0, 1), (93, .iload 6, 2), (95, .iconst 2, 1), (96, .iadd, 1), (97, .iload_n 2, 1), (98, .iconst 2, 1), (99, .iadd, 1), (100, .iload 6, 2), (102, .iconst 2, 1), (103, .iadd, 1), (104, .invokevirtual 100, 3), (107, .aload_n 0, 1), (108, .iload 6, 2), (110, .invokevirtual 122, 3), (113, .istore 7, 2), (115, .aload_n 0, 1), (116, .iload_n 1, 1), (117, .iload 6, 2), (119, .iconst 4, 1), (120, .invokevirtual 90, 3), (123, .iload 7, 2), (125, .ifCond .ge 10, 3), (128, .aload_n 0, 1), (129, .iload_n 1, 1), (130, .iload_n 1, 1), (131, .iconst 4, 1), (132, .invokevirtual 93, 3), (135, .iconst 1, 1), (136, .ireturn, 1)],
  [],
  [],
  [(87, 69, 2, 3), (90, 58, 4, 3), (93, 61, 4, 3), (100, 66, 4, 3), (103, 59, 5, 3), (107, 60, 5, 3), (113, 68, 3, 3), (116, 62, 4, 3), (119, 71, 3, 3), (122, 75, 2, 3)],
  [],
  [], [])
def mp_M_half2_t : mm_T := (⟨"RootCompassModel", "half2", "(IIIZ)Z"⟩, prog_5_method_31_code, 8, (some .boolean), 0, mp_M_half2)
def mp_M_root2 : mm_P := ([(0, .aload_n 0, 1), (1, .iload_n 2, 1), (2, .iconst 2, 1), (3, .iadd, 1), (4, .iconst 2, 1), (5, .invokevirtual 125, 3), (8, .ifCond .eq 86, 3), (11, .aload_n 0, 1), (12, .sipush 344, 3), (15, .iload_n 2, 1), (16, .invokevirtual 119, 3), (19, .ifCond .eq 20, 3), (22, .aload_n 0, 1), (23, .iload_n 1, 1), (24, .sipush 344, 3), (27, .iconst 2, 1), (28, .invokevirtual 90, 3), (31, .aload_n 0, 1), (32, .iload_n 1, 1), (33, .iconst 2, 1), (34, .invokevirtual 128, 3), (37, .iconst 1, 1), (38, .ireturn, 1), (39, .aload_n 0, 1), (40, .sipush 344, 3), (43, .sipush 289, 3), (46, .invokevirtual 113, 3), (49, .aload_n 0, 1), (50, .sipush 344, 3), (53, .iload_n 2, 1), (54, .sipush 344, 3), (57, .invokevirtual 100, 3), (60, .aload_n 0, 1), (61, .sipush 346, 3), (64, .sipush 344, 3), (67, .invokevirtual 119, 3), (70, .istore_n 3, 1), (71, .iload_n 3, 1), (72, .ifCond .eq 20, 3), (75, .aload_n 0, 1), (76, .iload_n 1, 1), (77, .iconst 0, 1), (78, .invokevirtual 128, 3), (81, .aload_n 0, 1), (82, .iload_n 1, 1), (83, .iconst 2, 1), (84, .iadd, 1), (85, .sipush 346, 3), (88, .iconst 2, 1), (89, .invokevirtual 90, 3), (92, .iload_n 3, 1), (93, .ireturn, 1), (94, .aload_n 0, 1), (95, .sipush 344, 3), (98, .iload_n 2, 1), (99, .invokevirtual 110, 3), (102, .aload_n 0, 1), (103, .sipush 344, 3), (106, .invokevirtual 87, 3), (109, .ifCond .lt 16, 3), (112, .aload_n 0, 1), (113, .sipush 346, 3), (116, .sipush 344, 3), (119, .invokevirtual 119, 3), (122, .ifCond .ne 5, 3), (125, .iconst 0, 1), (126, .ireturn, 1), (127, .aload_n 0, 1), (128, .iload_n 1, 1), (129, .iload_n 2, 1), (130, .sipush 346, 3), (133, .iconst 0, 1), (134, .invokevirtual 131, 3), (137, .ifCond .ne 16, 3), (140, .aload_n 0, 1), (141, .iload_n 1, 1), (142, .iload_n 2, 1), (143, .sipush 346, 3), (146, .iconst 1, 1), (147, .invokevirtual 131, 3), (150, .ifCond .eq 7, 3), (153, .iconst 1, 1), (154, .goto 4, 3), (157, .iconst 0, 1), (158, .ireturn, 1)],
  [],
  [],
  [(87, 69, 2, 3), (90, 58, 4, 3), (100, 66, 4, 3), (110, 73, 3, 3), (113, 68, 3, 3), (119, 71, 3, 3), (125, 63, 3, 3), (128, 65, 3, 3), (131, 76, 5, 3)],
  [],
  [], [])
def mp_M_root2_t : mm_T := (⟨"RootCompassModel", "root2", "(II)Z"⟩, prog_5_method_32_code, 4, (some .boolean), 0, mp_M_root2)
def mp_M_mul : mm_P := ([(0, .aload_n 0, 1), (1, .getfield 134, 3), (4, .ifCond .ne 13, 3), (7, .aload_n 0, 1), (8, .iload_n 1, 1), (9, .iload_n 2, 1), (10, .iload_n 3, 1), (11, .invokevirtual 70, 3), (14, .goto 28, 3), (17, .aload_n 0, 1), (18, .getfield 134, 3), (21, .iconst 1, 1), (22, .if_icmp .ne 13, 3), (25, .aload_n 0, 1), (26, .iload_n 1, 1), (27, .iload_n 2, 1), (28, .iload_n 3, 1), (29, .invokevirtual 100, 3), (32, .goto 10, 3), (35, .aload_n 0, 1), (36, .iload_n 1, 1), (37, .iload_n 2, 1), (38, .iload_n 3, 1), (39, .invokevirtual 137, 3), (42, .aload_n 0, 1), (43, .iload_n 1, 1), (44, .iconst 1, 1), (45, .aload_n 0, 1), (46, .getfield 134, 3), (49, .ishl, 1), (50, .invokevirtual 128, 3), (53, .return_, 1)],
  [(134, 3, 1, 0)],
  [],
  [(70, 52, 4, 3), (100, 66, 4, 3), (128, 65, 3, 3), (137, 72, 4, 3)],
  [],
  [], [])
def mp_M_mul_t : mm_T := (⟨"RootCompassModel", "mul", "(III)V"⟩, prog_5_method_33_code, 4, none, 0, mp_M_mul)
def mp_M_inv : mm_P := ([(0, .aload_n 0, 1), (1, .getfield 134, 3), (4, .ifCond .ne 12, 3), (7, .aload_n 0, 1), (8, .iload_n 1, 1), (9, .iload_n 2, 1), (10, .invokevirtual 76, 3), (13, .goto 26, 3), (16, .aload_n 0, 1), (17, .getfield 134, 3), (20, .iconst 1, 1), (21, .if_icmp .ne 12, 3), (24, .aload_n 0, 1), (25, .iload_n 1, 1), (26, .iload_n 2, 1), (27, .invokevirtual 113, 3), (30, .goto 9, 3), (33, .aload_n 0, 1), (34, .iload_n 1, 1), (35, .iload_n 2, 1), (36, .invokevirtual 140, 3), (39, .aload_n 0, 1), (40, .iload_n 1, 1), (41, .iconst 1, 1), (42, .aload_n 0, 1), (43, .getfield 134, 3), (46, .ishl, 1), (47, .invokevirtual 128, 3), (50, .return_, 1)],
  [(134, 3, 1, 0)],
  [],
  [(76, 54, 3, 3), (113, 68, 3, 3), (128, 65, 3, 3), (140, 74, 3, 3)],
  [],
  [], [])
def mp_M_inv_t : mm_T := (⟨"RootCompassModel", "inv", "(II)V"⟩, prog_5_method_34_code, 3, none, 0, mp_M_inv)
def mp_M_signOf : mm_P := ([(0, .aload_n 0, 1), (1, .getfield 134, 3), (4, .ifCond .ne 11, 3), (7, .aload_n 0, 1), (8, .iload_n 1, 1), (9, .invokevirtual 79, 3), (12, .goto 24, 3), (15, .aload_n 0, 1), (16, .getfield 134, 3), (19, .iconst 1, 1), (20, .if_icmp .ne 11, 3), (23, .aload_n 0, 1), (24, .iload_n 1, 1), (25, .invokevirtual 87, 3), (28, .goto 8, 3), (31, .aload_n 0, 1), (32, .iload_n 1, 1), (33, .invokevirtual 122, 3), (36, .ireturn, 1)],
  [(134, 3, 1, 0)],
  [],
  [(79, 55, 2, 3), (87, 69, 2, 3), (122, 75, 2, 3)],
  [],
  [], [])
def mp_M_signOf_t : mm_T := (⟨"RootCompassModel", "signOf", "(I)I"⟩, prog_5_method_35_code, 2, (some .int), 0, mp_M_signOf)
def mp_M_root : mm_P := ([(0, .aload_n 0, 1), (1, .getfield 134, 3), (4, .ifCond .ne 12, 3), (7, .aload_n 0, 1), (8, .iload_n 1, 1), (9, .iload_n 2, 1), (10, .invokevirtual 83, 3), (13, .goto 26, 3), (16, .aload_n 0, 1), (17, .getfield 134, 3), (20, .iconst 1, 1), (21, .if_icmp .ne 12, 3), (24, .aload_n 0, 1), (25, .iload_n 1, 1), (26, .iload_n 2, 1), (27, .invokevirtual 119, 3), (30, .goto 9, 3), (33, .aload_n 0, 1), (34, .iload_n 1, 1), (35, .iload_n 2, 1), (36, .invokevirtual 143, 3), (39, .istore_n 3, 1), (40, .iload_n 3, 1), (41, .ifCond .eq 14, 3), (44, .aload_n 0, 1), (45, .iload_n 1, 1), (46, .iconst 1, 1), (47, .aload_n 0, 1), (48, .getfield 134, 3), (51, .ishl, 1), (52, .invokevirtual 128, 3), (55, .iload_n 3, 1), (56, .ireturn, 1)],
  [(134, 3, 1, 0)],
  [],
  [(83, 57, 3, 3), (119, 71, 3, 3), (128, 65, 3, 3), (143, 77, 3, 3)],
  [],
  [], [])
def mp_M_root_t : mm_T := (⟨"RootCompassModel", "root", "(II)Z"⟩, prog_5_method_36_code, 4, (some .boolean), 0, mp_M_root)
def mp_M_takeRoot : mm_P := ([(0, .aload_n 0, 1), (1, .aload_n 0, 1), (2, .getfield 146, 3), (5, .ifCond .ne 11, 3), (8, .aload_n 0, 1), (9, .iload_n 2, 1), (10, .invokevirtual 149, 3), (13, .ifCond .ge 7, 3), (16, .iconst 1, 1), (17, .goto 4, 3), (20, .iconst 0, 1), (21, .putfield 146, 3), (24, .aload_n 0, 1), (25, .getfield 146, 3), (28, .ifCond .ne 12, 3), (31, .aload_n 0, 1), (32, .iload_n 1, 1), (33, .iload_n 2, 1), (34, .invokevirtual 152, 3), (37, .ifCond .eq 4, 3), (40, .return_, 1), (41, .aload_n 0, 1), (42, .aload_n 0, 1), (43, .getfield 134, 3), (46, .iconst 2, 1), (47, .if_icmp .ne 7, 3), (50, .iconst 1, 1), (51, .goto 4, 3), (54, .iconst 0, 1), (55, .putfield 146, 3), (58, .aload_n 0, 1), (59, .getfield 146, 3), (62, .ifCond .eq 4, 3), (65, .return_, 1), (66, .aload_n 0, 1), (67, .aload_n 0, 1), (68, .getfield 134, 3), (71, .ifCond .ne 9, 3), (74, .sipush 288, 3), (77, .goto 6, 3), (80, .sipush 289, 3), (83, .iload_n 2, 1), (84, .aload_n 0, 1), (85, .getfield 134, 3), (88, .ifCond .ne 7, 3), (91, .iconst 1, 1), (92, .goto 4, 3), (95, .iconst 2, 1), (96, .invokevirtual 90, 3), (99, .aload_n 0, 1), (100, .dup, 1), (101, .getfield 134, 3), (104, .iconst 1, 1), (105, .iadd, 1), (106, .putfield 134, 3), (109, .aload_n 0, 1), (110, .iload_n 1, 1), (111, .iconst 0, 1), (112, .invokevirtual 128, 3), (115, .aload_n 0, 1), (116, .getfield 7, 3), (119, .iload_n 1, 1), (120, .aload_n 0, 1), (121, .getfield 134, 3), (124, .iadd, 1), (125, .lconst 1, 1), (126, .lastore, 1), (127, .return_, 1)],
  [(7, 3, 4, 2), (134, 3, 1, 0), (146, 3, 3, 1)],
  [],
  [(90, 58, 4, 3), (128, 65, 3, 3), (149, 80, 2, 3), (152, 81, 3, 3)],
  [],
  [], [])
def mp_M_takeRoot_t : mm_T := (⟨"RootCompassModel", "takeRoot", "(II)V"⟩, prog_5_method_37_code, 3, none, 0, mp_M_takeRoot)
def mp_M_xOf : mm_P := ([(0, .bipush 12, 2), (2, .iload_n 0, 1), (3, .imul, 1), (4, .ireturn, 1)],
  [],
  [],
  [],
  [],
  [], [])
def mp_M_xOf_t : mm_T := (⟨"RootCompassModel", "xOf", "(I)I"⟩, prog_5_method_38_code, 1, (some .int), 0, mp_M_xOf)
def mp_M_yOf : mm_P := ([(0, .bipush 12, 2), (2, .iload_n 0, 1), (3, .imul, 1), (4, .iconst 4, 1), (5, .iadd, 1), (6, .ireturn, 1)],
  [],
  [],
  [],
  [],
  [], [])
def mp_M_yOf_t : mm_T := (⟨"RootCompassModel", "yOf", "(I)I"⟩, prog_5_method_39_code, 1, (some .int), 0, mp_M_yOf)
def mp_M_work : mm_P := ([(0, .sipush 368, 3), (3, .iconst 4, 1), (4, .iload_n 0, 1), (5, .imul, 1), (6, .iadd, 1), (7, .ireturn, 1)],
  [],
  [],
  [],
  [],
  [], [])
def mp_M_work_t : mm_T := (⟨"RootCompassModel", "work", "(I)I"⟩, prog_5_method_40_code, 1, (some .int), 0, mp_M_work)
def mp_M_products : mm_P := ([(0, .aload_n 0, 1), (1, .bipush 20, 2), (3, .invokestatic 155, 3), (6, .iload_n 2, 1), (7, .iload_n 3, 1), (8, .invokevirtual 158, 3), (11, .aload_n 0, 1), (12, .bipush 21, 2), (14, .invokestatic 155, 3), (17, .iload 4, 2), (19, .iload 5, 2), (21, .invokevirtual 158, 3), (24, .aload_n 0, 1), (25, .iload_n 1, 1), (26, .bipush 20, 2), (28, .invokestatic 155, 3), (31, .bipush 21, 2), (33, .invokestatic 155, 3), (36, .iconst 4, 1), (37, .invokevirtual 103, 3), (40, .return_, 1)],
  [],
  [],
  [(103, 59, 5, 3), (155, 85, 1, 99), (158, 78, 4, 3)],
  [],
  [], [])
def mp_M_products_t : mm_T := (⟨"RootCompassModel", "products", "(IIIII)V"⟩, prog_5_method_41_code, 6, none, 0, mp_M_products)
def mp_M_cross : mm_P := ([(0, .aload_n 0, 1), (1, .bipush 20, 2), (3, .invokestatic 155, 3), (6, .iload_n 2, 1), (7, .iload_n 3, 1), (8, .invokevirtual 158, 3), (11, .aload_n 0, 1), (12, .bipush 21, 2), (14, .invokestatic 155, 3), (17, .iload 4, 2), (19, .iload 5, 2), (21, .invokevirtual 158, 3), (24, .aload_n 0, 1), (25, .iload_n 1, 1), (26, .bipush 20, 2), (28, .invokestatic 155, 3), (31, .bipush 21, 2), (33, .invokestatic 155, 3), (36, .iconst 4, 1), (37, .invokevirtual 107, 3), (40, .return_, 1)],
  [],
  [],
  [(107, 60, 5, 3), (155, 85, 1, 99), (158, 78, 4, 3)],
  [],
  [], [])
def mp_M_cross_t : mm_T := (⟨"RootCompassModel", "cross", "(IIIII)V"⟩, prog_5_method_42_code, 6, none, 0, mp_M_cross)
def mp_M_squared : mm_P := ([(0, .aload_n 0, 1), (1, .bipush 22, 2), (3, .invokestatic 155, 3), (6, .iload_n 3, 1), (7, .invokestatic 161, 3), (10, .iload_n 2, 1), (11, .invokestatic 161, 3), (14, .iconst 4, 1), (15, .invokevirtual 107, 3), (18, .aload_n 0, 1), (19, .bipush 23, 2), (21, .invokestatic 155, 3), (24, .iload_n 3, 1), (25, .invokestatic 164, 3), (28, .iload_n 2, 1), (29, .invokestatic 164, 3), (32, .iconst 4, 1), (33, .invokevirtual 107, 3), (36, .aload_n 0, 1), (37, .iload_n 1, 1), (38, .bipush 22, 2), (40, .invokestatic 155, 3), (43, .bipush 22, 2), (45, .invokestatic 155, 3), (48, .bipush 23, 2), (50, .invokestatic 155, 3), (53, .bipush 23, 2), (55, .invokestatic 155, 3), (58, .invokevirtual 167, 3), (61, .return_, 1)],
  [],
  [],
  [(107, 60, 5, 3), (155, 85, 1, 99), (161, 83, 1, 99), (164, 84, 1, 99), (167, 86, 6, 3)],
  [],
  [], [])
def mp_M_squared_t : mm_T := (⟨"RootCompassModel", "squared", "(III)V"⟩, prog_5_method_43_code, 4, none, 0, mp_M_squared)
def mp_M_makeLine : mm_P := ([(0, .aload_n 0, 1), (1, .aload_n 0, 1), (2, .iload_n 2, 1), (3, .invokestatic 161, 3), (6, .iload_n 3, 1), (7, .invokestatic 161, 3), (10, .invokevirtual 171, 3), (13, .ifCond .eq 22, 3), (16, .aload_n 0, 1), (17, .iload_n 2, 1), (18, .invokestatic 164, 3), (21, .iload_n 3, 1), (22, .invokestatic 164, 3), (25, .invokevirtual 171, 3), (28, .ifCond .eq 7, 3), (31, .iconst 1, 1), (32, .goto 4, 3), (35, .iconst 0, 1), (36, .putfield 146, 3), (39, .aload_n 0, 1), (40, .getfield 146, 3), (43, .ifCond .eq 4, 3), (46, .return_, 1), (47, .aload_n 0, 1), (48, .iload_n 1, 1), (49, .invokestatic 161, 3), (52, .iload_n 3, 1), (53, .invokestatic 164, 3), (56, .iload_n 2, 1), (57, .invokestatic 164, 3), (60, .iconst 4, 1), (61, .invokevirtual 107, 3), (64, .aload_n 0, 1), (65, .iload_n 1, 1), (66, .invokestatic 164, 3), (69, .iload_n 2, 1), (70, .invokestatic 161, 3), (73, .iload_n 3, 1), (74, .invokestatic 161, 3), (77, .iconst 4, 1), (78, .invokevirtual 107, 3), (81, .aload_n 0, 1), (82, .bipush 12, 2), (84, .iload_n 1, 1), (85, .imul, 1), (86, .bipush 8, 2), (88, .iadd, 1), (89, .iload_n 1, 1), (90, .invokestatic 161, 3), (93, .iload_n 2, 1), (94, .invokestatic 161, 3), (97, .iload_n 1, 1), (98, .invokestatic 164, 3), (101, .iload_n 2, 1), (102, .invokestatic 164, 3), (105, .invokevirtual 167, 3), (108, .return_, 1)],
  [(146, 3, 3, 1)],
  [],
  [(107, 60, 5, 3), (161, 83, 1, 99), (164, 84, 1, 99), (167, 86, 6, 3), (171, 64, 3, 3)],
  [],
  [], [])
def mp_M_makeLine_t : mm_T := (⟨"RootCompassModel", "makeLine", "(III)V"⟩, prog_5_method_44_code, 4, none, 0, mp_M_makeLine)
def mp_M_makeMiddle : mm_P := ([(0, .aload_n 0, 1), (1, .iconst 0, 1), (2, .invokestatic 155, 3), (5, .iload_n 2, 1), (6, .invokestatic 161, 3), (9, .iload_n 3, 1), (10, .invokestatic 161, 3), (13, .iconst 4, 1), (14, .invokevirtual 103, 3), (17, .aload_n 0, 1), (18, .iload_n 1, 1), (19, .invokestatic 161, 3), (22, .iconst 0, 1), (23, .invokestatic 155, 3), (26, .iconst 4, 1), (27, .invokevirtual 116, 3), (30, .aload_n 0, 1), (31, .iconst 0, 1), (32, .invokestatic 155, 3), (35, .iload_n 2, 1), (36, .invokestatic 164, 3), (39, .iload_n 3, 1), (40, .invokestatic 164, 3), (43, .iconst 4, 1), (44, .invokevirtual 103, 3), (47, .aload_n 0, 1), (48, .iload_n 1, 1), (49, .invokestatic 164, 3), (52, .iconst 0, 1), (53, .invokestatic 155, 3), (56, .iconst 4, 1), (57, .invokevirtual 116, 3), (60, .return_, 1)],
  [],
  [],
  [(103, 59, 5, 3), (116, 62, 4, 3), (155, 85, 1, 99), (161, 83, 1, 99), (164, 84, 1, 99)],
  [],
  [], [])
def mp_M_makeMiddle_t : mm_T := (⟨"RootCompassModel", "makeMiddle", "(III)V"⟩, prog_5_method_45_code, 4, none, 0, mp_M_makeMiddle)
def mp_M_meetLines : mm_P := ([(0, .aload_n 0, 1), (1, .iconst 0, 1), (2, .invokestatic 155, 3), (5, .iload_n 2, 1), (6, .invokestatic 161, 3), (9, .iload_n 3, 1), (10, .invokestatic 164, 3), (13, .iload_n 3, 1), (14, .invokestatic 161, 3), (17, .iload_n 2, 1), (18, .invokestatic 164, 3), (21, .invokevirtual 174, 3), (24, .aload_n 0, 1), (25, .aload_n 0, 1), (26, .iconst 0, 1), (27, .invokestatic 155, 3), (30, .iconst 4, 1), (31, .invokevirtual 125, 3), (34, .putfield 146, 3), (37, .aload_n 0, 1), (38, .getfield 146, 3), (41, .ifCond .ne 10, 3), (44, .aload_n 0, 1), (45, .getfield 43, 3), (48, .ifCond .eq 4, 3), (51, .return_, 1), (52, .aload_n 0, 1), (53, .iconst 1, 1), (54, .invokestatic 155, 3), (57, .iconst 0, 1), (58, .invokestatic 155, 3), (61, .invokevirtual 177, 3), (64, .aload_n 0, 1), (65, .iconst 2, 1), (66, .invokestatic 155, 3), (69, .bipush 12, 2), (71, .iload_n 2, 1), (72, .imul, 1), (73, .bipush 8, 2), (75, .iadd, 1), (76, .iload_n 3, 1), (77, .invokestatic 164, 3), (80, .bipush 12, 2), (82, .iload_n 3, 1), (83, .imul, 1), (84, .bipush 8, 2), (86, .iadd, 1), (87, .iload_n 2, 1), (88, .invokestatic 164, 3), (91, .invokevirtual 174, 3), (94, .aload_n 0, 1), (95, .iload_n 1, 1), (96, .invokestatic 161, 3), (99, .iconst 2, 1), (100, .invokestatic 155, 3), (103, .iconst 1, 1), (104, .invokestatic 155, 3), (107, .invokevirtual 158, 3), (110, .aload_n 0, 1), (111, .iconst 2, 1), (112, .invokestatic 155, 3), (115, .iload_n 2, 1), (116, .invokestatic 161, 3), (119, .bipush 12, 2), (121, .iload_n 3, 1), (122, .imul, 1), (123, .bipush 8, 2), (125, .iadd, 1), (126, .iload_n 3, 1), (127, .invokestatic 161, 3), (130, .bipush 12, 2), (132, .iload_n 2, 1), (133, .imul, 1), (134, .bipush 8, 2), (136, .iadd, 1), (137, .invokevirtual 174, 3), (140, .aload_n 0, 1), (141, .iload_n 1, 1), (142, .invokestatic 164, 3), (145, .iconst 2, 1), (146, .invokestatic 155, 3), (149, .iconst 1, 1), (150, .invokestatic 155, 3), (153, .invokevirtual 158, 3), (156, .return_, 1)],
  [(43, 3, 2, 1), (146, 3, 3, 1)],
  [],
  [(125, 63, 3, 3), (155, 85, 1, 99), (158, 78, 4, 3), (161, 83, 1, 99), (164, 84, 1, 99), (174, 87, 6, 3), (177, 79, 3, 3)],
  [],
  [], [])
def mp_M_meetLines_t : mm_T := (⟨"RootCompassModel", "meetLines", "(III)V"⟩, prog_5_method_46_code, 4, none, 0, mp_M_meetLines)
def mp_M_meetCircle : mm_P := ([(0, .aload_n 0, 1), (1, .getfield 26, 3), (4, .iconst 4, 1), (5, .iload_n 3, 1), (6, .imul, 1), (7, .iaload, 1), (8, .istore 5, 2), (10, .iload_n 2, 1), (11, .istore 6, 2), (13, .iload_n 2, 1), (14, .iconst 4, 1), (15, .iadd, 1), (16, .istore 7, 2), (18, .aload_n 0, 1), (19, .iconst 4, 1), (20, .invokestatic 155, 3), (23, .iload 6, 2), (25, .iload 6, 2), (27, .iload 7, 2), (29, .iload 7, 2), (31, .invokevirtual 167, 3), (34, .aload_n 0, 1), (35, .iconst 5, 1), (36, .invokestatic 155, 3), (39, .iload 6, 2), (41, .iload 5, 2), (43, .invokestatic 161, 3), (46, .iload 7, 2), (48, .iload 5, 2), (50, .invokestatic 164, 3), (53, .invokevirtual 167, 3), (56, .aload_n 0, 1), (57, .iconst 5, 1), (58, .invokestatic 155, 3), (61, .iload_n 2, 1), (62, .bipush 8, 2), (64, .iadd, 1), (65, .iconst 5, 1), (66, .invokestatic 155, 3), (69, .iconst 4, 1), (70, .invokevirtual 107, 3), (73, .aload_n 0, 1), (74, .bipush 6, 2), (76, .invokestatic 155, 3), (79, .iconst 4, 1), (80, .invokestatic 155, 3), (83, .invokevirtual 177, 3), (86, .aload_n 0, 1), (87, .bipush 7, 2), (89, .invokestatic 155, 3), (92, .bipush 12, 2), (94, .iload_n 3, 1), (95, .imul, 1), (96, .iconst 4, 1), (97, .invokestatic 155, 3), (100, .iconst 5, 1), (101, .invokestatic 155, 3), (104, .iconst 5, 1), (105, .invokestatic 155, 3), (108, .invokevirtual 174, 3), (111, .aload_n 0, 1), (112, .bipush 8, 2), (114, .invokestatic 155, 3), (117, .bipush 7, 2), (119, .invokestatic 155, 3), (122, .invokevirtual 180, 3), (125, .aload_n 0, 1), (126, .getfield 146, 3), (129, .ifCond .ne 10, 3), (132, .aload_n 0, 1), (133, .getfield 43, 3), (136, .ifCond .eq 4, 3), (139, .return_, 1), (140, .aload_n 0, 1), (141, .bipush 9, 2), (143, .invokestatic 155, 3), (146, .iconst 5, 1), (147, .invokestatic 155, 3), (150, .bipush 6, 2), (152, .invokestatic 155, 3), (155, .invokevirtual 158, 3), (158, .aload_n 0, 1), (159, .bipush 10, 2), (161, .invokestatic 155, 3), (164, .bipush 8, 2), (166, .invokestatic 155, 3), (169, .bipush 6, 2), (171, .invokestatic 155, 3), (174, .invokevirtual 158, 3), (177, .aload_n 0, 1), (178, .bipush 11, 2), (180, .invokestatic 155, 3), (183, .iload 7, 2), (185, .iconst 4, 1), (186, .invokevirtual 93, 3), (189, .aload_n 0, 1), (190, .bipush 12, 2), (192, .invokestatic 155, 3), (195, .iload 6, 2), (197, .bipush 9, 2), (199, .invokestatic 155, 3), (202, .invokevirtual 158, 3), (205, .aload_n 0, 1), (206, .bipush 12, 2), (208, .invokestatic 155, 3), (211, .iload 5, 2), (213, .invokestatic 161, 3), (216, .bipush 12, 2), (218, .invokestatic 155, 3), (221, .iconst 4, 1), (222, .invokevirtual 103, 3), (225, .aload_n 0, 1), (226, .bipush 13, 2), (228, .invokestatic 155, 3), (231, .bipush 11, 2), (233, .invokestatic 155, 3), (236, .bipush 10, 2), (238, .invokestatic 155, 3), (241, .invokevirtual 158, 3), (244, .aload_n 0, 1), (245, .bipush 14, 2), (247, .invokestatic 155, 3), (250, .iload 7, 2), (252, .bipush 9, 2), (254, .invokestatic 155, 3), (257, .invokevirtual 158, 3), (260, .aload_n 0, 1), (261, .bipush 14, 2), (263, .invokestatic 155, 3), (266, .iload 5, 2), (268, .invokestatic 164, 3), (271, .bipush 14, 2), (273, .invokestatic 155, 3), (276, .iconst 4, 1), (277, .invokevirtual 103, 3), (280, .aload_n 0, 1), (281, .bipush 15, 2), (283, .invokestatic 155, 3), (286, .iload 6, 2), (288, .bipush 10, 2), (290, .invokestatic 155, 3), (293, .invokevirtual 158, 3), (296, .iload 4, 2), (298, .ifCond .ne 44, 3), (301, .aload_n 0, 1), (302, .iload_n 1, 1), (303, .invokestatic 161, 3), (306, .bipush 12, 2), (308, .invokestatic 155, 3), (311, .bipush 13, 2), (313, .invokestatic 155, 3), (316, .iconst 4, 1), (317, .invokevirtual 107, 3), (320, .aload_n 0, 1), (321, .iload_n 1, 1), (322, .invokestatic 164, 3), (325, .bipush 14, 2), (327, .invokestatic 155, 3), (330, .bipush 15, 2), (332, .invokestatic 155, 3), (335, .iconst 4, 1), (336, .invokevirtual 107, 3), (339, .goto 41, 3), (342, .aload_n 0, 1), (343, .iload_n 1, 1), (344, .invokestatic 161, 3), (347, .bipush 12, 2), (349, .invokestatic 155, 3), (352, .bipush 13, 2), (354, .invokestatic 155, 3), (357, .iconst 4, 1), (358, .invokevirtual 103, 3), (361, .aload_n 0, 1), (362, .iload_n 1, 1), (363, .invokestatic 164, 3), (366, .bipush 14, 2), (368, .invokestatic 155, 3), (371, .bipush 15, 2), (373, .invokestatic 155, 3), (376, .iconst 4, 1), (377, .invokevirtual 103, 3), (380, .return_, 1)],
  [(26, 3, 10, 2), (43, 3, 2, 1), (146, 3, 3, 1)],
  [],
  [(93, 61, 4, 3), (103, 59, 5, 3), (107, 60, 5, 3), (155, 85, 1, 99), (158, 78, 4, 3), (161, 83, 1, 99), (164, 84, 1, 99), (167, 86, 6, 3), (174, 87, 6, 3), (177, 79, 3, 3), (180, 82, 3, 3)],
  [],
  [], [])
def mp_M_meetCircle_t : mm_T := (⟨"RootCompassModel", "meetCircle", "(IIII)V"⟩, prog_5_method_47_code, 8, none, 0, mp_M_meetCircle)
def mp_M_meetCircles : mm_P := ([(0, .aload_n 0, 1), (1, .getfield 26, 3), (4, .iconst 4, 1), (5, .iload_n 2, 1), (6, .imul, 1), (7, .iaload, 1), (8, .istore 5, 2), (10, .aload_n 0, 1), (11, .getfield 26, 3), (14, .iconst 4, 1), (15, .iload_n 3, 1), (16, .imul, 1), (17, .iaload, 1), (18, .istore 6, 2), (20, .aload_n 0, 1), (21, .iconst 0, 1), (22, .invokestatic 155, 3), (25, .iload 6, 2), (27, .invokestatic 161, 3), (30, .iload 5, 2), (32, .invokestatic 161, 3), (35, .iconst 4, 1), (36, .invokevirtual 107, 3), (39, .aload_n 0, 1), (40, .iconst 0, 1), (41, .invokestatic 155, 3), (44, .iconst 0, 1), (45, .invokestatic 155, 3), (48, .iconst 0, 1), (49, .invokestatic 155, 3), (52, .iconst 4, 1), (53, .invokevirtual 103, 3), (56, .aload_n 0, 1), (57, .iconst 1, 1), (58, .invokestatic 155, 3), (61, .iload 6, 2), (63, .invokestatic 164, 3), (66, .iload 5, 2), (68, .invokestatic 164, 3), (71, .iconst 4, 1), (72, .invokevirtual 107, 3), (75, .aload_n 0, 1), (76, .iconst 1, 1), (77, .invokestatic 155, 3), (80, .iconst 1, 1), (81, .invokestatic 155, 3), (84, .iconst 1, 1), (85, .invokestatic 155, 3), (88, .iconst 4, 1), (89, .invokevirtual 103, 3), (92, .aload_n 0, 1), (93, .iconst 2, 1), (94, .invokestatic 155, 3), (97, .iload 6, 2), (99, .invokestatic 161, 3), (102, .iload 6, 2), (104, .invokestatic 161, 3), (107, .iload 5, 2), (109, .invokestatic 161, 3), (112, .iload 5, 2), (114, .invokestatic 161, 3), (117, .invokevirtual 174, 3), (120, .aload_n 0, 1), (121, .iconst 3, 1), (122, .invokestatic 155, 3), (125, .iload 6, 2), (127, .invokestatic 164, 3), (130, .iload 6, 2), (132, .invokestatic 164, 3), (135, .iload 5, 2), (137, .invokestatic 164, 3), (140, .iload 5, 2), (142, .invokestatic 164, 3), (145, .invokevirtual 174, 3), (148, .aload_n 0, 1), (149, .iconst 2, 1), (150, .invokestatic 155, 3), (153, .iconst 2, 1), (154, .invokestatic 155, 3), (157, .iconst 3, 1), (158, .invokestatic 155, 3), (161, .iconst 4, 1), (162, .invokevirtual 103, 3), (165, .aload_n 0, 1), (166, .iconst 3, 1), (167, .invokestatic 155, 3), (170, .bipush 12, 2), (172, .iload_n 2, 1), (173, .imul, 1), (174, .bipush 12, 2), (176, .iload_n 3, 1), (177, .imul, 1), (178, .iconst 4, 1), (179, .invokevirtual 107, 3), (182, .aload_n 0, 1), (183, .iconst 2, 1), (184, .invokestatic 155, 3), (187, .iconst 3, 1), (188, .invokestatic 155, 3), (191, .iconst 2, 1), (192, .invokestatic 155, 3), (195, .iconst 4, 1), (196, .invokevirtual 103, 3), (199, .aload_n 0, 1), (200, .aload_n 0, 1), (201, .iconst 0, 1), (202, .invokestatic 155, 3), (205, .iconst 4, 1), (206, .invokevirtual 125, 3), (209, .ifCond .eq 19, 3), (212, .aload_n 0, 1), (213, .iconst 1, 1), (214, .invokestatic 155, 3), (217, .iconst 4, 1), (218, .invokevirtual 125, 3), (221, .ifCond .eq 7, 3), (224, .iconst 1, 1), (225, .goto 4, 3), (228, .iconst 0, 1), (229, .putfield 146, 3), (232, .aload_n 0, 1), (233, .getfield 146, 3), (236, .ifCond .ne 22, 3), (239, .aload_n 0, 1), (240, .getfield 43, 3), (243, .ifCond .ne 15, 3), (246, .aload_n 0, 1), (247, .iload_n 1, 1), (248, .iconst 0, 1), (249, .invokestatic 155, 3), (252, .iload_n 2, 1), (253, .iload 4, 2), (255, .invokevirtual 183, 3), (258, .return_, 1)],
  [(26, 3, 10, 2), (43, 3, 2, 1), (146, 3, 3, 1)],
  [],
  [(103, 59, 5, 3), (107, 60, 5, 3), (125, 63, 3, 3), (155, 85, 1, 99), (161, 83, 1, 99), (164, 84, 1, 99), (174, 87, 6, 3), (183, 92, 5, 3)],
  [],
  [], [])
def mp_M_meetCircles_t : mm_T := (⟨"RootCompassModel", "meetCircles", "(IIII)V"⟩, prog_5_method_48_code, 7, none, 0, mp_M_meetCircles)
def mp_M_makeMeeting : mm_P := ([(0, .aload_n 0, 1), (1, .getfield 22, 3), (4, .iload_n 2, 1), (5, .iaload, 1), (6, .iconst 1, 1), (7, .if_icmp .ne 23, 3), (10, .aload_n 0, 1), (11, .getfield 22, 3), (14, .iload_n 3, 1), (15, .iaload, 1), (16, .iconst 1, 1), (17, .if_icmp .ne 13, 3), (20, .aload_n 0, 1), (21, .iload_n 1, 1), (22, .iload_n 2, 1), (23, .iload_n 3, 1), (24, .invokevirtual 186, 3), (27, .goto 75, 3), (30, .aload_n 0, 1), (31, .getfield 22, 3), (34, .iload_n 2, 1), (35, .iaload, 1), (36, .iconst 2, 1), (37, .if_icmp .ne 25, 3), (40, .aload_n 0, 1), (41, .getfield 22, 3), (44, .iload_n 3, 1), (45, .iaload, 1), (46, .iconst 2, 1), (47, .if_icmp .ne 15, 3), (50, .aload_n 0, 1), (51, .iload_n 1, 1), (52, .iload_n 2, 1), (53, .iload_n 3, 1), (54, .iload 4, 2), (56, .invokevirtual 189, 3), (59, .goto 43, 3), (62, .aload_n 0, 1), (63, .iload_n 1, 1), (64, .bipush 12, 2), (66, .aload_n 0, 1), (67, .getfield 22, 3), (70, .iload_n 2, 1), (71, .iaload, 1), (72, .iconst 1, 1), (73, .if_icmp .ne 7, 3), (76, .iload_n 2, 1), (77, .goto 4, 3), (80, .iload_n 3, 1), (81, .imul, 1), (82, .aload_n 0, 1), (83, .getfield 22, 3), (86, .iload_n 2, 1), (87, .iaload, 1), (88, .iconst 1, 1), (89, .if_icmp .ne 7, 3), (92, .iload_n 3, 1), (93, .goto 4, 3), (96, .iload_n 2, 1), (97, .iload 4, 2), (99, .invokevirtual 183, 3), (102, .return_, 1)],
  [(22, 3, 9, 2)],
  [],
  [(183, 92, 5, 3), (186, 91, 4, 3), (189, 93, 5, 3)],
  [],
  [], [])
def mp_M_makeMeeting_t : mm_T := (⟨"RootCompassModel", "makeMeeting", "(IIII)V"⟩, prog_5_method_49_code, 5, none, 0, mp_M_makeMeeting)
def mp_M_make : mm_P := ([(0, .aload_n 0, 1), (1, .iconst 0, 1), (2, .putfield 146, 3), (5, .aload_n 0, 1), (6, .iconst 0, 1), (7, .putfield 43, 3), (10, .aload_n 0, 1), (11, .bipush 12, 2), (13, .iload_n 1, 1), (14, .imul, 1), (15, .iconst 0, 1), (16, .invokevirtual 128, 3), (19, .aload_n 0, 1), (20, .bipush 12, 2), (22, .iload_n 1, 1), (23, .imul, 1), (24, .iconst 4, 1), (25, .iadd, 1), (26, .iconst 0, 1), (27, .invokevirtual 128, 3), (30, .aload_n 0, 1), (31, .bipush 12, 2), (33, .iload_n 1, 1), (34, .imul, 1), (35, .bipush 8, 2), (37, .iadd, 1), (38, .iconst 0, 1), (39, .invokevirtual 128, 3), (42, .iconst 4, 1), (43, .iload_n 1, 1), (44, .imul, 1), (45, .istore_n 2, 1), (46, .aload_n 0, 1), (47, .getfield 22, 3), (50, .iload_n 1, 1), (51, .iaload, 1), (52, .tableswitch 171 0 3 #[32, 87, 109, 149], 32), (84, .aload_n 0, 1), (85, .bipush 12, 2), (87, .iload_n 1, 1), (88, .imul, 1), (89, .aload_n 0, 1), (90, .getfield 26, 3), (93, .iload_n 2, 1), (94, .iaload, 1), (95, .i2l, 1), (96, .aload_n 0, 1), (97, .getfield 26, 3), (100, .iload_n 2, 1), (101, .iconst 1, 1), (102, .iadd, 1), (103, .iaload, 1), (104, .i2l, 1), (105, .invokevirtual 47, 3), (108, .aload_n 0, 1), (109, .bipush 12, 2), (111, .iload_n 1, 1), (112, .imul, 1), (113, .iconst 4, 1), (114, .iadd, 1), (115, .aload_n 0, 1), (116, .getfield 26, 3), (119, .iload_n 2, 1), (120, .iconst 2, 1), (121, .iadd, 1), (122, .iaload, 1), (123, .i2l, 1), (124, .aload_n 0, 1), (125, .getfield 26, 3), (128, .iload_n 2, 1), (129, .iconst 3, 1), (130, .iadd, 1), (131, .iaload, 1), (132, .i2l, 1), (133, .invokevirtual 47, 3), (136, .goto 114, 3), (139, .aload_n 0, 1), (140, .iload_n 1, 1), (141, .aload_n 0, 1), (142, .getfield 26, 3), (145, .iload_n 2, 1), (146, .iaload, 1), (147, .aload_n 0, 1), (148, .getfield 26, 3), (151, .iload_n 2, 1), (152, .iconst 1, 1), (153, .iadd, 1), (154, .iaload, 1), (155, .invokevirtual 192, 3), (158, .goto 92, 3), (161, .aload_n 0, 1), (162, .bipush 12, 2), (164, .iload_n 1, 1), (165, .imul, 1), (166, .aload_n 0, 1), (167, .getfield 26, 3), (170, .iload_n 2, 1), (171, .iconst 1, 1), (172, .iadd, 1), (173, .iaload, 1), (174, .aload_n 0, 1), (175, .getfield 26, 3), (178, .iload_n 2, 1), (179, .iconst 2, 1), (180, .iadd, 1), (181, .iaload, 1), (182, .invokevirtual 195, 3), (185, .aload_n 0, 1), (186, .aload_n 0, 1), (187, .bipush 12, 2), (189, .iload_n 1, 1), (190, .imul, 1), (191, .iconst 4, 1), (192, .invokevirtual 125, 3), (195, .putfield 146, 3), (198, .goto 52, 3), (201, .aload_n 0, 1), (202, .iload_n 1, 1), (203, .aload_n 0, 1), (204, .getfield 26, 3), (207, .iload_n 2, 1), (208, .iaload, 1), (209, .aload_n 0, 1), (210, .getfield 26, 3), (213, .iload_n 2, 1), (214, .iconst 1, 1), (215, .iadd, 1), (216, .iaload, 1), (217, .invokevirtual 198, 3), (220, .goto 30, 3), (223, .aload_n 0, 1), (224, .iload_n 1, 1), (225, .aload_n 0, 1), (226, .getfield 26, 3), (229, .iload_n 2, 1), (230, .iaload, 1), (231, .aload_n 0, 1), (232, .getfield 26, 3), (235, .iload_n 2, 1), (236, .iconst 1, 1), (237, .iadd, 1), (238, .iaload, 1), (239, .aload_n 0, 1), (240, .getfield 26, 3), (243, .iload_n 2, 1), (244, .iconst 2, 1), (245, .iadd, 1), (246, .iaload, 1), (247, .invokevirtual 201, 3), (250, .aload_n 0, 1), (251, .getfield 146, 3), (254, .ifCond .ne 14, 3), (257, .aload_n 0, 1), (258, .getfield 43, 3), (261, .ifCond .ne 7, 3), (264, .iconst 1, 1), (265, .goto 4, 3), (268, .iconst 0, 1), (269, .ireturn, 1)],
  [(22, 3, 9, 2), (26, 3, 10, 2), (43, 3, 2, 1), (146, 3, 3, 1)],
  [],
  [(47, 49, 4, 3), (125, 63, 3, 3), (128, 65, 3, 3), (192, 89, 4, 3), (195, 88, 4, 3), (198, 90, 4, 3), (201, 94, 5, 3)],
  [],
  [], [])
def mp_M_make_t : mm_T := (⟨"RootCompassModel", "make", "(I)Z"⟩, prog_5_method_50_code, 3, (some .boolean), 0, mp_M_make)
def mp_M_redraw : mm_P := ([(0, .aload_n 0, 1), (1, .iconst 0, 1), (2, .putfield 134, 3), (5, .iconst 0, 1), (6, .istore_n 1, 1), (7, .iload_n 1, 1), (8, .aload_n 0, 1), (9, .getfield 204, 3), (12, .if_icmp .ge 19, 3), (15, .aload_n 0, 1), (16, .iload_n 1, 1), (17, .invokevirtual 207, 3), (20, .ifCond .ne 5, 3), (23, .iload_n 1, 1), (24, .ireturn, 1), (25, .iinc 1 1, 3), (28, .goto (-21), 3), (31, .iconst (-1), 1), (32, .ireturn, 1)],
  [(134, 3, 1, 0), (204, 3, 8, 0)],
  [],
  [(207, 95, 2, 3)],
  [],
  [], [])
def mp_M_redraw_t : mm_T := (⟨"RootCompassModel", "redraw", "()I"⟩, prog_5_method_51_code, 2, (some .int), 0, mp_M_redraw)
def mp_M_isPoint : mm_P := ([(0, .aload_n 0, 1), (1, .iload_n 1, 1), (2, .invokevirtual 211, 3), (5, .ifCond .ne 7, 3), (8, .iconst 1, 1), (9, .goto 4, 3), (12, .iconst 0, 1), (13, .ireturn, 1)],
  [],
  [],
  [(211, 98, 2, 3)],
  [],
  [], [])
def mp_M_isPoint_t : mm_T := (⟨"RootCompassModel", "isPoint", "(I)Z"⟩, prog_5_method_52_code, 2, (some .boolean), 0, mp_M_isPoint)
def mp_M_kindOf : mm_P := ([(0, .iload_n 1, 1), (1, .ifCond .lt 11, 3), (4, .iload_n 1, 1), (5, .aload_n 0, 1), (6, .getfield 204, 3), (9, .if_icmp .lt 7, 3), (12, .iconst (-1), 1), (13, .goto 57, 3), (16, .aload_n 0, 1), (17, .getfield 22, 3), (20, .iload_n 1, 1), (21, .ifCond .ge 7, 3), (24, .iconst 0, 1), (25, .goto 4, 3), (28, .iload_n 1, 1), (29, .iaload, 1), (30, .iconst 1, 1), (31, .if_icmp .eq 21, 3), (34, .aload_n 0, 1), (35, .getfield 22, 3), (38, .iload_n 1, 1), (39, .ifCond .ge 7, 3), (42, .iconst 0, 1), (43, .goto 4, 3), (46, .iload_n 1, 1), (47, .iaload, 1), (48, .iconst 2, 1), (49, .if_icmp .ne 20, 3), (52, .aload_n 0, 1), (53, .getfield 22, 3), (56, .iload_n 1, 1), (57, .ifCond .ge 7, 3), (60, .iconst 0, 1), (61, .goto 4, 3), (64, .iload_n 1, 1), (65, .iaload, 1), (66, .goto 4, 3), (69, .iconst 0, 1), (70, .ireturn, 1)],
  [(22, 3, 9, 2), (204, 3, 8, 0)],
  [],
  [],
  [],
  [], [])
def mp_M_kindOf_t : mm_T := (⟨"RootCompassModel", "kindOf", "(I)I"⟩, prog_5_method_53_code, 2, (some .int), 0, mp_M_kindOf)
def mp_M_fresh : mm_P := ([(0, .aload_n 0, 1), (1, .aload_n 0, 1), (2, .getfield 204, 3), (5, .bipush 24, 2), (7, .if_icmp .ne 7, 3), (10, .iconst 2, 1), (11, .goto 4, 3), (14, .iconst 0, 1), (15, .putfield 31, 3), (18, .aload_n 0, 1), (19, .getfield 31, 3), (22, .ifCond .le 5, 3), (25, .iconst 0, 1), (26, .ireturn, 1), (27, .aload_n 0, 1), (28, .getfield 22, 3), (31, .aload_n 0, 1), (32, .getfield 204, 3), (35, .iload_n 1, 1), (36, .iastore, 1), (37, .aload_n 0, 1), (38, .getfield 26, 3), (41, .iconst 4, 1), (42, .aload_n 0, 1), (43, .getfield 204, 3), (46, .imul, 1), (47, .iload_n 2, 1), (48, .iastore, 1), (49, .aload_n 0, 1), (50, .getfield 26, 3), (53, .iconst 4, 1), (54, .aload_n 0, 1), (55, .getfield 204, 3), (58, .imul, 1), (59, .iconst 1, 1), (60, .iadd, 1), (61, .iload_n 3, 1), (62, .iastore, 1), (63, .aload_n 0, 1), (64, .getfield 26, 3), (67, .iconst 4, 1), (68, .aload_n 0, 1), (69, .getfield 204, 3), (72, .imul, 1), (73, .iconst 2, 1), (74, .iadd, 1), (75, .iload 4, 2), (77, .iastore, 1), (78, .aload_n 0, 1), (79, .getfield 26, 3), (82, .iconst 4, 1), (83, .aload_n 0, 1), (84, .getfield 204, 3), (87, .imul, 1), (88, .iconst 3, 1), (89, .iadd, 1), (90, .iload 5, 2), (92, .iastore, 1), (93, .aload_n 0, 1), (94, .getfield 134, 3), (97, .istore 6, 2), (99, .aload_n 0, 1), (100, .aload_n 0, 1), (101, .getfield 204, 3), (104, .invokevirtual 207, 3), (107, .ifCond .ne 16, 3), (110, .aload_n 0, 1), (111, .iload 6, 2), (113, .putfield 134, 3), (116, .aload_n 0, 1), (117, .iconst 3, 1), (118, .putfield 31, 3), (121, .iconst 0, 1), (122, .ireturn, 1), (123, .aload_n 0, 1), (124, .dup, 1), (125, .getfield 204, 3), (128, .iconst 1, 1), (129, .iadd, 1), (130, .putfield 204, 3), (133, .aload_n 0, 1), (134, .getfield 204, 3), (137, .iconst 1, 1), (138, .isub, 1), (139, .ireturn, 1)],
  [(22, 3, 9, 2), (26, 3, 10, 2), (31, 3, 0, 0), (134, 3, 1, 0), (204, 3, 8, 0)],
  [],
  [(207, 95, 2, 3)],
  [],
  [], [])
def mp_M_fresh_t : mm_T := (⟨"RootCompassModel", "fresh", "(IIIII)I"⟩, prog_5_method_54_code, 7, (some .int), 0, mp_M_fresh)
def mp_M_isFraction : mm_P := ([(0, .iload_n 0, 1), (1, .sipush (-10000), 3), (4, .if_icmp .lt 26, 3), (7, .iload_n 0, 1), (8, .sipush 10000, 3), (11, .if_icmp .gt 19, 3), (14, .iload_n 1, 1), (15, .iconst 1, 1), (16, .if_icmp .lt 14, 3), (19, .iload_n 1, 1), (20, .sipush 10000, 3), (23, .if_icmp .gt 7, 3), (26, .iconst 1, 1), (27, .goto 4, 3), (30, .iconst 0, 1), (31, .ireturn, 1)],
  [],
  [],
  [],
  [],
  [], [])
def mp_M_isFraction_t : mm_T := (⟨"RootCompassModel", "isFraction", "(II)Z"⟩, prog_5_method_55_code, 2, (some .boolean), 0, mp_M_isFraction)
def mp_M_free : mm_P := ([(0, .aload_n 0, 1), (1, .iload_n 1, 1), (2, .iload_n 2, 1), (3, .invokestatic 214, 3), (6, .ifCond .eq 16, 3), (9, .iload_n 3, 1), (10, .iload 4, 2), (12, .invokestatic 214, 3), (15, .ifCond .eq 7, 3), (18, .iconst 0, 1), (19, .goto 4, 3), (22, .iconst 1, 1), (23, .putfield 31, 3), (26, .aload_n 0, 1), (27, .getfield 31, 3), (30, .ifCond .le 7, 3), (33, .iconst 0, 1), (34, .goto 13, 3), (37, .aload_n 0, 1), (38, .iconst 0, 1), (39, .iload_n 1, 1), (40, .iload_n 2, 1), (41, .iload_n 3, 1), (42, .iload 4, 2), (44, .invokevirtual 217, 3), (47, .ireturn, 1)],
  [(31, 3, 0, 0)],
  [],
  [(214, 100, 2, 99), (217, 99, 6, 3)],
  [],
  [], [])
def mp_M_free_t : mm_T := (⟨"RootCompassModel", "free", "(IIII)I"⟩, prog_5_method_56_code, 5, (some .int), 0, mp_M_free)
def mp_M_line : mm_P := ([(0, .aload_n 0, 1), (1, .aload_n 0, 1), (2, .iload_n 1, 1), (3, .invokevirtual 221, 3), (6, .ifCond .eq 15, 3), (9, .aload_n 0, 1), (10, .iload_n 2, 1), (11, .invokevirtual 221, 3), (14, .ifCond .eq 7, 3), (17, .iconst 0, 1), (18, .goto 4, 3), (21, .iconst 1, 1), (22, .putfield 31, 3), (25, .aload_n 0, 1), (26, .getfield 31, 3), (29, .ifCond .le 7, 3), (32, .iconst 0, 1), (33, .goto 12, 3), (36, .aload_n 0, 1), (37, .iconst 1, 1), (38, .iload_n 1, 1), (39, .iload_n 2, 1), (40, .iconst 0, 1), (41, .iconst 0, 1), (42, .invokevirtual 217, 3), (45, .ireturn, 1)],
  [(31, 3, 0, 0)],
  [],
  [(217, 99, 6, 3), (221, 97, 2, 3)],
  [],
  [], [])
def mp_M_line_t : mm_T := (⟨"RootCompassModel", "line", "(II)I"⟩, prog_5_method_57_code, 3, (some .int), 0, mp_M_line)
def mp_M_circle : mm_P := ([(0, .aload_n 0, 1), (1, .aload_n 0, 1), (2, .iload_n 1, 1), (3, .invokevirtual 221, 3), (6, .ifCond .eq 23, 3), (9, .aload_n 0, 1), (10, .iload_n 2, 1), (11, .invokevirtual 221, 3), (14, .ifCond .eq 15, 3), (17, .aload_n 0, 1), (18, .iload_n 3, 1), (19, .invokevirtual 221, 3), (22, .ifCond .eq 7, 3), (25, .iconst 0, 1), (26, .goto 4, 3), (29, .iconst 1, 1), (30, .putfield 31, 3), (33, .aload_n 0, 1), (34, .getfield 31, 3), (37, .ifCond .le 7, 3), (40, .iconst 0, 1), (41, .goto 12, 3), (44, .aload_n 0, 1), (45, .iconst 2, 1), (46, .iload_n 1, 1), (47, .iload_n 2, 1), (48, .iload_n 3, 1), (49, .iconst 0, 1), (50, .invokevirtual 217, 3), (53, .ireturn, 1)],
  [(31, 3, 0, 0)],
  [],
  [(217, 99, 6, 3), (221, 97, 2, 3)],
  [],
  [], [])
def mp_M_circle_t : mm_T := (⟨"RootCompassModel", "circle", "(III)I"⟩, prog_5_method_58_code, 4, (some .int), 0, mp_M_circle)
def mp_M_middle : mm_P := ([(0, .aload_n 0, 1), (1, .aload_n 0, 1), (2, .iload_n 1, 1), (3, .invokevirtual 221, 3), (6, .ifCond .eq 15, 3), (9, .aload_n 0, 1), (10, .iload_n 2, 1), (11, .invokevirtual 221, 3), (14, .ifCond .eq 7, 3), (17, .iconst 0, 1), (18, .goto 4, 3), (21, .iconst 1, 1), (22, .putfield 31, 3), (25, .aload_n 0, 1), (26, .getfield 31, 3), (29, .ifCond .le 7, 3), (32, .iconst 0, 1), (33, .goto 12, 3), (36, .aload_n 0, 1), (37, .iconst 3, 1), (38, .iload_n 1, 1), (39, .iload_n 2, 1), (40, .iconst 0, 1), (41, .iconst 0, 1), (42, .invokevirtual 217, 3), (45, .ireturn, 1)],
  [(31, 3, 0, 0)],
  [],
  [(217, 99, 6, 3), (221, 97, 2, 3)],
  [],
  [], [])
def mp_M_middle_t : mm_T := (⟨"RootCompassModel", "middle", "(II)I"⟩, prog_5_method_59_code, 3, (some .int), 0, mp_M_middle)
def mp_M_meet : mm_P := ([(0, .aload_n 0, 1), (1, .iload_n 1, 1), (2, .invokevirtual 211, 3), (5, .iconst 1, 1), (6, .if_icmp .ne 16, 3), (9, .aload_n 0, 1), (10, .iload_n 2, 1), (11, .invokevirtual 211, 3), (14, .iconst 1, 1), (15, .if_icmp .ne 7, 3), (18, .iconst 0, 1), (19, .goto 4, 3), (22, .iconst 1, 1), (23, .istore 4, 2), (25, .aload_n 0, 1), (26, .aload_n 0, 1), (27, .iload_n 1, 1), (28, .invokevirtual 211, 3), (31, .iconst 1, 1), (32, .if_icmp .lt 27, 3), (35, .aload_n 0, 1), (36, .iload_n 2, 1), (37, .invokevirtual 211, 3), (40, .iconst 1, 1), (41, .if_icmp .lt 18, 3), (44, .iload_n 1, 1), (45, .iload_n 2, 1), (46, .if_icmp .eq 13, 3), (49, .iload_n 3, 1), (50, .ifCond .lt 9, 3), (53, .iload_n 3, 1), (54, .iload 4, 2), (56, .if_icmp .le 7, 3), (59, .iconst 1, 1), (60, .goto 4, 3), (63, .iconst 0, 1), (64, .putfield 31, 3), (67, .aload_n 0, 1), (68, .getfield 31, 3), (71, .ifCond .le 7, 3), (74, .iconst 0, 1), (75, .goto 12, 3), (78, .aload_n 0, 1), (79, .iconst 4, 1), (80, .iload_n 1, 1), (81, .iload_n 2, 1), (82, .iload_n 3, 1), (83, .iconst 0, 1), (84, .invokevirtual 217, 3), (87, .ireturn, 1)],
  [(31, 3, 0, 0)],
  [],
  [(211, 98, 2, 3), (217, 99, 6, 3)],
  [],
  [], [])
def mp_M_meet_t : mm_T := (⟨"RootCompassModel", "meet", "(III)I"⟩, prog_5_method_60_code, 5, (some .int), 0, mp_M_meet)
def mp_M_move : mm_P := ([(0, .aload_n 0, 1), (1, .aload_n 0, 1), (2, .iload_n 1, 1), (3, .invokevirtual 221, 3), (6, .ifCond .eq 25, 3), (9, .iload_n 2, 1), (10, .iload_n 3, 1), (11, .invokestatic 214, 3), (14, .ifCond .eq 17, 3), (17, .iload 4, 2), (19, .iload 5, 2), (21, .invokestatic 214, 3), (24, .ifCond .eq 7, 3), (27, .iconst 0, 1), (28, .goto 4, 3), (31, .iconst 1, 1), (32, .putfield 31, 3), (35, .aload_n 0, 1), (36, .getfield 31, 3), (39, .ifCond .le 5, 3), (42, .iconst 0, 1), (43, .ireturn, 1), (44, .aload_n 0, 1), (45, .aload_n 0, 1), (46, .getfield 22, 3), (49, .iload_n 1, 1), (50, .iaload, 1), (51, .ifCond .ne 7, 3), (54, .iconst 0, 1), (55, .goto 4, 3), (58, .iconst 1, 1), (59, .putfield 31, 3), (62, .aload_n 0, 1), (63, .getfield 31, 3), (66, .ifCond .le 5, 3), (69, .iconst 0, 1), (70, .ireturn, 1), (71, .aload_n 0, 1), (72, .getfield 134, 3), (75, .istore 6, 2), (77, .aload_n 0, 1), (78, .getfield 26, 3), (81, .iconst 4, 1), (82, .iload_n 1, 1), (83, .imul, 1), (84, .iaload, 1), (85, .istore 7, 2), (87, .aload_n 0, 1), (88, .getfield 26, 3), (91, .iconst 4, 1), (92, .iload_n 1, 1), (93, .imul, 1), (94, .iconst 1, 1), (95, .iadd, 1), (96, .iaload, 1), (97, .istore 8, 2), (99, .aload_n 0, 1), (100, .getfield 26, 3), (103, .iconst 4, 1), (104, .iload_n 1, 1), (105, .imul, 1), (106, .iconst 2, 1), (107, .iadd, 1), (108, .iaload, 1), (109, .istore 9, 2), (111, .aload_n 0, 1), (112, .getfield 26, 3), (115, .iconst 4, 1), (116, .iload_n 1, 1), (117, .imul, 1), (118, .iconst 3, 1), (119, .iadd, 1), (120, .iaload, 1), (121, .istore 10, 2), (123, .iconst 0, 1), (124, .istore 11, 2), (126, .iload 11, 2), (128, .sipush 292, 3), (131, .if_icmp .ge 37, 3), (134, .aload_n 0, 1), (135, .getfield 16, 3), (138, .iload 11, 2), (140, .aload_n 0, 1), (141, .getfield 7, 3), (144, .iload 11, 2), (146, .laload, 1), (147, .lastore, 1), (148, .aload_n 0, 1), (149, .getfield 19, 3), (152, .iload 11, 2), (154, .aload_n 0, 1), (155, .getfield 13, 3), (158, .iload 11, 2), (160, .laload, 1), (161, .lastore, 1), (162, .iinc 11 1, 3), (165, .goto (-39), 3), (168, .aload_n 0, 1), (169, .iload_n 1, 1), (170, .iload_n 2, 1), (171, .iload_n 3, 1), (172, .iload 4, 2), (174, .iload 5, 2), (176, .invokevirtual 224, 3), (179, .aload_n 0, 1), (180, .invokevirtual 227, 3), (183, .istore 11, 2), (185, .iload 11, 2), (187, .ifCond .lt 67, 3), (190, .aload_n 0, 1), (191, .iload_n 1, 1), (192, .iload 7, 2), (194, .iload 8, 2), (196, .iload 9, 2), (198, .iload 10, 2), (200, .invokevirtual 224, 3), (203, .aload_n 0, 1), (204, .iload 6, 2), (206, .putfield 134, 3), (209, .iconst 0, 1), (210, .istore 12, 2), (212, .iload 12, 2), (214, .sipush 292, 3), (217, .if_icmp .ge 37, 3), (220, .aload_n 0, 1), (221, .getfield 7, 3), (224, .iload 12, 2), (226, .aload_n 0, 1), (227, .getfield 16, 3), (230, .iload 12, 2), (232, .laload, 1), (233, .lastore, 1), (234, .aload_n 0, 1), (235, .getfield 13, 3), (238, .iload 12, 2), (240, .aload_n 0, 1), (241, .getfield 19, 3), (244, .iload 12, 2), (246, .laload, 1), (247, .lastore, 1), (248, .iinc 12 1, 3), (251, .goto (-39), 3), (254, .iload 11, 2), (256, .ireturn, 1)],
  [(7, 3, 4, 2), (13, 3, 5, 2), (16, 3, 6, 2), (19, 3, 7, 2), (22, 3, 9, 2), (26, 3, 10, 2), (31, 3, 0, 0), (134, 3, 1, 0)],
  [],
  [(214, 100, 2, 99), (221, 97, 2, 3), (224, 107, 6, 3), (227, 96, 1, 3)],
  [],
  [], [])
def mp_M_move_t : mm_T := (⟨"RootCompassModel", "move", "(IIIII)I"⟩, prog_5_method_61_code, 13, (some .int), 0, mp_M_move)
def mp_M_become : mm_P := ([(0, .aload_n 0, 1), (1, .getfield 26, 3), (4, .iconst 4, 1), (5, .iload_n 1, 1), (6, .imul, 1), (7, .iload_n 2, 1), (8, .iastore, 1), (9, .aload_n 0, 1), (10, .getfield 26, 3), (13, .iconst 4, 1), (14, .iload_n 1, 1), (15, .imul, 1), (16, .iconst 1, 1), (17, .iadd, 1), (18, .iload_n 3, 1), (19, .iastore, 1), (20, .aload_n 0, 1), (21, .getfield 26, 3), (24, .iconst 4, 1), (25, .iload_n 1, 1), (26, .imul, 1), (27, .iconst 2, 1), (28, .iadd, 1), (29, .iload 4, 2), (31, .iastore, 1), (32, .aload_n 0, 1), (33, .getfield 26, 3), (36, .iconst 4, 1), (37, .iload_n 1, 1), (38, .imul, 1), (39, .iconst 3, 1), (40, .iadd, 1), (41, .iload 5, 2), (43, .iastore, 1), (44, .return_, 1)],
  [(26, 3, 10, 2)],
  [],
  [],
  [],
  [], [])
def mp_M_become_t : mm_T := (⟨"RootCompassModel", "become", "(IIIII)V"⟩, prog_5_method_62_code, 6, none, 0, mp_M_become)
def mp_M_undo : mm_P := ([(0, .aload_n 0, 1), (1, .iconst 0, 1), (2, .putfield 31, 3), (5, .aload_n 0, 1), (6, .getfield 204, 3), (9, .ifCond .ne 5, 3), (12, .iconst 0, 1), (13, .ireturn, 1), (14, .aload_n 0, 1), (15, .dup, 1), (16, .getfield 204, 3), (19, .iconst 1, 1), (20, .isub, 1), (21, .putfield 204, 3), (24, .aload_n 0, 1), (25, .invokevirtual 227, 3), (28, .istore_n 1, 1), (29, .iconst 1, 1), (30, .ireturn, 1)],
  [(31, 3, 0, 0), (204, 3, 8, 0)],
  [],
  [(227, 96, 1, 3)],
  [],
  [], [])
def mp_M_undo_t : mm_T := (⟨"RootCompassModel", "undo", "()Z"⟩, prog_5_method_63_code, 2, (some .boolean), 0, mp_M_undo)
def mp_M_told : mm_P := ([(0, .aload_n 0, 1), (1, .aload_n 0, 1), (2, .getfield 43, 3), (5, .ifCond .eq 7, 3), (8, .iconst 2, 1), (9, .goto 4, 3), (12, .iconst 0, 1), (13, .putfield 31, 3), (16, .iload_n 1, 1), (17, .ifCond .eq 14, 3), (20, .aload_n 0, 1), (21, .getfield 43, 3), (24, .ifCond .ne 7, 3), (27, .iconst 1, 1), (28, .goto 4, 3), (31, .iconst 0, 1), (32, .ireturn, 1)],
  [(31, 3, 0, 0), (43, 3, 2, 1)],
  [],
  [],
  [],
  [], [])
def mp_M_told_t : mm_T := (⟨"RootCompassModel", "told", "(Z)Z"⟩, prog_5_method_64_code, 2, (some .boolean), 0, mp_M_told)
def mp_M_on : mm_P := ([(0, .aload_n 0, 1), (1, .aload_n 0, 1), (2, .iload_n 1, 1), (3, .invokevirtual 221, 3), (6, .ifCond .eq 15, 3), (9, .aload_n 0, 1), (10, .iload_n 2, 1), (11, .invokevirtual 211, 3), (14, .ifCond .le 7, 3), (17, .iconst 0, 1), (18, .goto 4, 3), (21, .iconst 1, 1), (22, .putfield 31, 3), (25, .aload_n 0, 1), (26, .getfield 31, 3), (29, .ifCond .le 5, 3), (32, .iconst 0, 1), (33, .ireturn, 1), (34, .aload_n 0, 1), (35, .iconst 0, 1), (36, .putfield 43, 3), (39, .aload_n 0, 1), (40, .getfield 22, 3), (43, .iload_n 2, 1), (44, .iaload, 1), (45, .iconst 1, 1), (46, .if_icmp .ne 47, 3), (49, .aload_n 0, 1), (50, .iconst 0, 1), (51, .invokestatic 155, 3), (54, .iload_n 2, 1), (55, .invokestatic 161, 3), (58, .iload_n 1, 1), (59, .invokestatic 161, 3), (62, .iload_n 2, 1), (63, .invokestatic 164, 3), (66, .iload_n 1, 1), (67, .invokestatic 164, 3), (70, .invokevirtual 167, 3), (73, .aload_n 0, 1), (74, .aload_n 0, 1), (75, .iconst 0, 1), (76, .invokestatic 155, 3), (79, .bipush 12, 2), (81, .iload_n 2, 1), (82, .imul, 1), (83, .bipush 8, 2), (85, .iadd, 1), (86, .invokevirtual 171, 3), (89, .invokevirtual 231, 3), (92, .ireturn, 1), (93, .aload_n 0, 1), (94, .iconst 0, 1), (95, .invokestatic 155, 3), (98, .aload_n 0, 1), (99, .getfield 26, 3), (102, .iconst 4, 1), (103, .iload_n 2, 1), (104, .imul, 1), (105, .iaload, 1), (106, .iload_n 1, 1), (107, .invokevirtual 195, 3), (110, .aload_n 0, 1), (111, .aload_n 0, 1), (112, .iconst 0, 1), (113, .invokestatic 155, 3), (116, .bipush 12, 2), (118, .iload_n 2, 1), (119, .imul, 1), (120, .invokevirtual 171, 3), (123, .invokevirtual 231, 3), (126, .ireturn, 1)],
  [(22, 3, 9, 2), (26, 3, 10, 2), (31, 3, 0, 0), (43, 3, 2, 1)],
  [],
  [(155, 85, 1, 99), (161, 83, 1, 99), (164, 84, 1, 99), (167, 86, 6, 3), (171, 64, 3, 3), (195, 88, 4, 3), (211, 98, 2, 3), (221, 97, 2, 3), (231, 109, 2, 3)],
  [],
  [], [])
def mp_M_on_t : mm_T := (⟨"RootCompassModel", "on", "(II)Z"⟩, prog_5_method_65_code, 3, (some .boolean), 0, mp_M_on)
def mp_M_same : mm_P := ([(0, .aload_n 0, 1), (1, .aload_n 0, 1), (2, .iload_n 1, 1), (3, .invokevirtual 221, 3), (6, .ifCond .eq 15, 3), (9, .aload_n 0, 1), (10, .iload_n 2, 1), (11, .invokevirtual 221, 3), (14, .ifCond .eq 7, 3), (17, .iconst 0, 1), (18, .goto 4, 3), (21, .iconst 1, 1), (22, .putfield 31, 3), (25, .aload_n 0, 1), (26, .getfield 31, 3), (29, .ifCond .ne 37, 3), (32, .aload_n 0, 1), (33, .iload_n 1, 1), (34, .invokestatic 161, 3), (37, .iload_n 2, 1), (38, .invokestatic 161, 3), (41, .invokevirtual 171, 3), (44, .ifCond .eq 22, 3), (47, .aload_n 0, 1), (48, .iload_n 1, 1), (49, .invokestatic 164, 3), (52, .iload_n 2, 1), (53, .invokestatic 164, 3), (56, .invokevirtual 171, 3), (59, .ifCond .eq 7, 3), (62, .iconst 1, 1), (63, .goto 4, 3), (66, .iconst 0, 1), (67, .ireturn, 1)],
  [(31, 3, 0, 0)],
  [],
  [(161, 83, 1, 99), (164, 84, 1, 99), (171, 64, 3, 3), (221, 97, 2, 3)],
  [],
  [], [])
def mp_M_same_t : mm_T := (⟨"RootCompassModel", "same", "(II)Z"⟩, prog_5_method_66_code, 3, (some .boolean), 0, mp_M_same)
def mp_M_equal : mm_P := ([(0, .aload_n 0, 1), (1, .aload_n 0, 1), (2, .iload_n 1, 1), (3, .invokevirtual 221, 3), (6, .ifCond .eq 32, 3), (9, .aload_n 0, 1), (10, .iload_n 2, 1), (11, .invokevirtual 221, 3), (14, .ifCond .eq 24, 3), (17, .aload_n 0, 1), (18, .iload_n 3, 1), (19, .invokevirtual 221, 3), (22, .ifCond .eq 16, 3), (25, .aload_n 0, 1), (26, .iload 4, 2), (28, .invokevirtual 221, 3), (31, .ifCond .eq 7, 3), (34, .iconst 0, 1), (35, .goto 4, 3), (38, .iconst 1, 1), (39, .putfield 31, 3), (42, .aload_n 0, 1), (43, .getfield 31, 3), (46, .ifCond .le 5, 3), (49, .iconst 0, 1), (50, .ireturn, 1), (51, .aload_n 0, 1), (52, .iconst 0, 1), (53, .putfield 43, 3), (56, .aload_n 0, 1), (57, .iconst 0, 1), (58, .invokestatic 155, 3), (61, .iload_n 1, 1), (62, .iload_n 2, 1), (63, .invokevirtual 195, 3), (66, .aload_n 0, 1), (67, .iconst 1, 1), (68, .invokestatic 155, 3), (71, .iload_n 3, 1), (72, .iload 4, 2), (74, .invokevirtual 195, 3), (77, .aload_n 0, 1), (78, .aload_n 0, 1), (79, .iconst 0, 1), (80, .invokestatic 155, 3), (83, .iconst 1, 1), (84, .invokestatic 155, 3), (87, .invokevirtual 171, 3), (90, .invokevirtual 231, 3), (93, .ireturn, 1)],
  [(31, 3, 0, 0), (43, 3, 2, 1)],
  [],
  [(155, 85, 1, 99), (171, 64, 3, 3), (195, 88, 4, 3), (221, 97, 2, 3), (231, 109, 2, 3)],
  [],
  [], [])
def mp_M_equal_t : mm_T := (⟨"RootCompassModel", "equal", "(IIII)Z"⟩, prog_5_method_67_code, 5, (some .boolean), 0, mp_M_equal)
def mp_M_angle : mm_P := ([(0, .aload_n 0, 1), (1, .aload_n 0, 1), (2, .iload_n 1, 1), (3, .invokevirtual 211, 3), (6, .iconst 1, 1), (7, .if_icmp .ne 16, 3), (10, .aload_n 0, 1), (11, .iload_n 2, 1), (12, .invokevirtual 211, 3), (15, .iconst 1, 1), (16, .if_icmp .ne 7, 3), (19, .iconst 0, 1), (20, .goto 4, 3), (23, .iconst 1, 1), (24, .putfield 31, 3), (27, .aload_n 0, 1), (28, .getfield 31, 3), (31, .ifCond .le 5, 3), (34, .iconst 0, 1), (35, .ireturn, 1), (36, .aload_n 0, 1), (37, .iconst 0, 1), (38, .putfield 43, 3), (41, .aload_n 0, 1), (42, .iconst 0, 1), (43, .invokestatic 155, 3), (46, .iload_n 1, 1), (47, .invokestatic 161, 3), (50, .iload_n 2, 1), (51, .invokestatic 164, 3), (54, .iload_n 2, 1), (55, .invokestatic 161, 3), (58, .iload_n 1, 1), (59, .invokestatic 164, 3), (62, .invokevirtual 174, 3), (65, .aload_n 0, 1), (66, .iconst 0, 1), (67, .invokestatic 155, 3), (70, .iconst 4, 1), (71, .invokevirtual 125, 3), (74, .istore_n 3, 1), (75, .iload_n 3, 1), (76, .ifCond .ne 34, 3), (79, .aload_n 0, 1), (80, .getfield 43, 3), (83, .ifCond .ne 27, 3), (86, .aload_n 0, 1), (87, .iconst 0, 1), (88, .invokestatic 155, 3), (91, .iload_n 1, 1), (92, .invokestatic 161, 3), (95, .iload_n 2, 1), (96, .invokestatic 161, 3), (99, .iload_n 1, 1), (100, .invokestatic 164, 3), (103, .iload_n 2, 1), (104, .invokestatic 164, 3), (107, .invokevirtual 167, 3), (110, .iload_n 3, 1), (111, .ifCond .ne 19, 3), (114, .aload_n 0, 1), (115, .iconst 0, 1), (116, .invokestatic 155, 3), (119, .iconst 4, 1), (120, .invokevirtual 125, 3), (123, .ifCond .eq 7, 3), (126, .iconst 1, 1), (127, .goto 4, 3), (130, .iconst 0, 1), (131, .istore 4, 2), (133, .aload_n 0, 1), (134, .aload_n 0, 1), (135, .getfield 43, 3), (138, .ifCond .eq 7, 3), (141, .iconst 2, 1), (142, .goto 4, 3), (145, .iconst 0, 1), (146, .putfield 31, 3), (149, .aload_n 0, 1), (150, .getfield 43, 3), (153, .ifCond .eq 7, 3), (156, .iconst 0, 1), (157, .goto 21, 3), (160, .iload_n 3, 1), (161, .ifCond .eq 7, 3), (164, .iconst 1, 1), (165, .goto 13, 3), (168, .iload 4, 2), (170, .ifCond .eq 7, 3), (173, .iconst 2, 1), (174, .goto 4, 3), (177, .iconst 0, 1), (178, .ireturn, 1)],
  [(31, 3, 0, 0), (43, 3, 2, 1)],
  [],
  [(125, 63, 3, 3), (155, 85, 1, 99), (161, 83, 1, 99), (164, 84, 1, 99), (167, 86, 6, 3), (174, 87, 6, 3), (211, 98, 2, 3)],
  [],
  [], [])
def mp_M_angle_t : mm_T := (⟨"RootCompassModel", "angle", "(II)I"⟩, prog_5_method_68_code, 5, (some .int), 0, mp_M_angle)
def mp_M_side : mm_P := ([(0, .aload_n 0, 1), (1, .aload_n 0, 1), (2, .iload_n 1, 1), (3, .invokevirtual 221, 3), (6, .ifCond .eq 23, 3), (9, .aload_n 0, 1), (10, .iload_n 2, 1), (11, .invokevirtual 221, 3), (14, .ifCond .eq 15, 3), (17, .aload_n 0, 1), (18, .iload_n 3, 1), (19, .invokevirtual 221, 3), (22, .ifCond .eq 7, 3), (25, .iconst 0, 1), (26, .goto 4, 3), (29, .iconst 1, 1), (30, .putfield 31, 3), (33, .aload_n 0, 1), (34, .getfield 31, 3), (37, .ifCond .le 5, 3), (40, .iconst 0, 1), (41, .ireturn, 1), (42, .aload_n 0, 1), (43, .iconst 0, 1), (44, .putfield 43, 3), (47, .aload_n 0, 1), (48, .iconst 0, 1), (49, .invokestatic 155, 3), (52, .iload_n 2, 1), (53, .invokestatic 161, 3), (56, .iload_n 1, 1), (57, .invokestatic 161, 3), (60, .iconst 4, 1), (61, .invokevirtual 107, 3), (64, .aload_n 0, 1), (65, .iconst 1, 1), (66, .invokestatic 155, 3), (69, .iload_n 3, 1), (70, .invokestatic 164, 3), (73, .iload_n 1, 1), (74, .invokestatic 164, 3), (77, .iconst 4, 1), (78, .invokevirtual 107, 3), (81, .aload_n 0, 1), (82, .iconst 2, 1), (83, .invokestatic 155, 3), (86, .iload_n 2, 1), (87, .invokestatic 164, 3), (90, .iload_n 1, 1), (91, .invokestatic 164, 3), (94, .iconst 4, 1), (95, .invokevirtual 107, 3), (98, .aload_n 0, 1), (99, .iconst 3, 1), (100, .invokestatic 155, 3), (103, .iload_n 3, 1), (104, .invokestatic 161, 3), (107, .iload_n 1, 1), (108, .invokestatic 161, 3), (111, .iconst 4, 1), (112, .invokevirtual 107, 3), (115, .aload_n 0, 1), (116, .iconst 4, 1), (117, .invokestatic 155, 3), (120, .iconst 0, 1), (121, .invokestatic 155, 3), (124, .iconst 1, 1), (125, .invokestatic 155, 3), (128, .iconst 2, 1), (129, .invokestatic 155, 3), (132, .iconst 3, 1), (133, .invokestatic 155, 3), (136, .invokevirtual 174, 3), (139, .aload_n 0, 1), (140, .iconst 4, 1), (141, .invokestatic 155, 3), (144, .invokevirtual 149, 3), (147, .istore 4, 2), (149, .aload_n 0, 1), (150, .aload_n 0, 1), (151, .getfield 43, 3), (154, .ifCond .eq 7, 3), (157, .iconst 2, 1), (158, .goto 4, 3), (161, .iconst 0, 1), (162, .putfield 31, 3), (165, .aload_n 0, 1), (166, .getfield 43, 3), (169, .ifCond .eq 7, 3), (172, .iconst 0, 1), (173, .goto 5, 3), (176, .iload 4, 2), (178, .ireturn, 1)],
  [(31, 3, 0, 0), (43, 3, 2, 1)],
  [],
  [(107, 60, 5, 3), (149, 80, 2, 3), (155, 85, 1, 99), (161, 83, 1, 99), (164, 84, 1, 99), (174, 87, 6, 3), (221, 97, 2, 3)],
  [],
  [], [])
def mp_M_side_t : mm_T := (⟨"RootCompassModel", "side", "(III)I"⟩, prog_5_method_69_code, 5, (some .int), 0, mp_M_side)
def mp_M_sign : mm_P := ([(0, .aload_n 0, 1), (1, .aload_n 0, 1), (2, .iload_n 1, 1), (3, .invokevirtual 221, 3), (6, .ifCond .eq 19, 3), (9, .iload_n 3, 1), (10, .ldc 235, 2), (12, .if_icmp .lt 13, 3), (15, .iload_n 3, 1), (16, .ldc 236, 2), (18, .if_icmp .gt 7, 3), (21, .iconst 0, 1), (22, .goto 4, 3), (25, .iconst 1, 1), (26, .putfield 31, 3), (29, .aload_n 0, 1), (30, .getfield 31, 3), (33, .ifCond .le 5, 3), (36, .iconst 0, 1), (37, .ireturn, 1), (38, .aload_n 0, 1), (39, .iconst 0, 1), (40, .putfield 43, 3), (43, .aload_n 0, 1), (44, .iconst 0, 1), (45, .invokestatic 155, 3), (48, .iconst 0, 1), (49, .invokevirtual 128, 3), (52, .aload_n 0, 1), (53, .getfield 7, 3), (56, .iconst 0, 1), (57, .invokestatic 155, 3), (60, .iload_n 3, 1), (61, .i2l, 1), (62, .lastore, 1), (63, .aload_n 0, 1), (64, .iconst 1, 1), (65, .invokestatic 155, 3), (68, .iload_n 2, 1), (69, .ifCond .eq 10, 3), (72, .iload_n 1, 1), (73, .invokestatic 164, 3), (76, .goto 7, 3), (79, .iload_n 1, 1), (80, .invokestatic 161, 3), (83, .iconst 0, 1), (84, .invokestatic 155, 3), (87, .iconst 4, 1), (88, .invokevirtual 107, 3), (91, .aload_n 0, 1), (92, .iconst 1, 1), (93, .invokestatic 155, 3), (96, .invokevirtual 149, 3), (99, .istore 4, 2), (101, .aload_n 0, 1), (102, .aload_n 0, 1), (103, .getfield 43, 3), (106, .ifCond .eq 7, 3), (109, .iconst 2, 1), (110, .goto 4, 3), (113, .iconst 0, 1), (114, .putfield 31, 3), (117, .aload_n 0, 1), (118, .getfield 43, 3), (121, .ifCond .eq 7, 3), (124, .iconst 0, 1), (125, .goto 5, 3), (128, .iload 4, 2), (130, .ireturn, 1)],
  [(7, 3, 4, 2), (31, 3, 0, 0), (43, 3, 2, 1)],
  [(235, .int (-1000000)), (236, .int 1000000)],
  [(107, 60, 5, 3), (128, 65, 3, 3), (149, 80, 2, 3), (155, 85, 1, 99), (161, 83, 1, 99), (164, 84, 1, 99), (221, 97, 2, 3)],
  [],
  [], [])
def mp_M_sign_t : mm_T := (⟨"RootCompassModel", "sign", "(IZI)I"⟩, prog_5_method_70_code, 5, (some .int), 0, mp_M_sign)
def mp_M_part : mm_P := ([(0, .aload_n 0, 1), (1, .aload_n 0, 1), (2, .iload_n 1, 1), (3, .invokevirtual 221, 3), (6, .ifCond .eq 16, 3), (9, .iload_n 3, 1), (10, .ifCond .lt 12, 3), (13, .iload_n 3, 1), (14, .iconst 4, 1), (15, .if_icmp .ge 7, 3), (18, .iconst 0, 1), (19, .goto 4, 3), (22, .iconst 1, 1), (23, .putfield 31, 3), (26, .aload_n 0, 1), (27, .getfield 31, 3), (30, .ifCond .le 5, 3), (33, .iconst 0, 1), (34, .ireturn, 1), (35, .iload_n 2, 1), (36, .ifCond .eq 10, 3), (39, .iload_n 1, 1), (40, .invokestatic 164, 3), (43, .goto 7, 3), (46, .iload_n 1, 1), (47, .invokestatic 161, 3), (50, .iload_n 3, 1), (51, .iadd, 1), (52, .istore 5, 2), (54, .iload 4, 2), (56, .ifCond .eq 13, 3), (59, .aload_n 0, 1), (60, .getfield 13, 3), (63, .iload 5, 2), (65, .laload, 1), (66, .goto 10, 3), (69, .aload_n 0, 1), (70, .getfield 7, 3), (73, .iload 5, 2), (75, .laload, 1), (76, .l2i, 1), (77, .ireturn, 1)],
  [(7, 3, 4, 2), (13, 3, 5, 2), (31, 3, 0, 0)],
  [],
  [(161, 83, 1, 99), (164, 84, 1, 99), (221, 97, 2, 3)],
  [],
  [], [])
def mp_M_part_t : mm_T := (⟨"RootCompassModel", "part", "(IZIZ)I"⟩, prog_5_method_71_code, 6, (some .int), 0, mp_M_part)
def mp_M_radicand : mm_P := ([(0, .aload_n 0, 1), (1, .iload_n 1, 1), (2, .iconst 1, 1), (3, .if_icmp .lt 20, 3), (6, .iload_n 1, 1), (7, .aload_n 0, 1), (8, .getfield 134, 3), (11, .if_icmp .gt 12, 3), (14, .iload_n 2, 1), (15, .ifCond .lt 8, 3), (18, .iload_n 2, 1), (19, .iconst 3, 1), (20, .if_icmp .le 7, 3), (23, .iconst 1, 1), (24, .goto 4, 3), (27, .iconst 0, 1), (28, .putfield 31, 3), (31, .aload_n 0, 1), (32, .getfield 31, 3), (35, .ifCond .le 5, 3), (38, .iconst 0, 1), (39, .ireturn, 1), (40, .iload_n 2, 1), (41, .iload_n 1, 1), (42, .if_icmp .lt 13, 3), (45, .iload_n 3, 1), (46, .ifCond .eq 7, 3), (49, .iconst 1, 1), (50, .goto 4, 3), (53, .iconst 0, 1), (54, .ireturn, 1), (55, .iload_n 1, 1), (56, .iconst 1, 1), (57, .if_icmp .ne 9, 3), (60, .sipush 288, 3), (63, .goto 8, 3), (66, .sipush 289, 3), (69, .iload_n 2, 1), (70, .iadd, 1), (71, .istore 4, 2), (73, .iload_n 3, 1), (74, .ifCond .eq 13, 3), (77, .aload_n 0, 1), (78, .getfield 13, 3), (81, .iload 4, 2), (83, .laload, 1), (84, .goto 10, 3), (87, .aload_n 0, 1), (88, .getfield 7, 3), (91, .iload 4, 2), (93, .laload, 1), (94, .l2i, 1), (95, .ireturn, 1)],
  [(7, 3, 4, 2), (13, 3, 5, 2), (31, 3, 0, 0), (134, 3, 1, 0)],
  [],
  [],
  [],
  [], [])
def mp_M_radicand_t : mm_T := (⟨"RootCompassModel", "radicand", "(IIZ)I"⟩, prog_5_method_72_code, 5, (some .int), 0, mp_M_radicand)
def mp_M_kind : mm_P := ([(0, .aload_n 0, 1), (1, .iconst 0, 1), (2, .putfield 31, 3), (5, .aload_n 0, 1), (6, .iload_n 1, 1), (7, .invokevirtual 211, 3), (10, .ireturn, 1)],
  [(31, 3, 0, 0)],
  [],
  [(211, 98, 2, 3)],
  [],
  [], [])
def mp_M_kind_t : mm_T := (⟨"RootCompassModel", "kind", "(I)I"⟩, prog_5_method_73_code, 2, (some .int), 0, mp_M_kind)
def mp_M_look : mm_P := ([(0, .aload_n 0, 1), (1, .iconst 0, 1), (2, .putfield 31, 3), (5, .iconst 0, 1), (6, .istore_n 2, 1), (7, .iconst 0, 1), (8, .istore_n 3, 1), (9, .iload_n 3, 1), (10, .aload_n 0, 1), (11, .getfield 204, 3), (14, .if_icmp .ge 26, 3), (17, .iload_n 2, 1), (18, .aload_n 0, 1), (19, .getfield 22, 3), (22, .iload_n 3, 1), (23, .iaload, 1), (24, .ifCond .ne 7, 3), (27, .iconst 1, 1), (28, .goto 4, 3), (31, .iconst 0, 1), (32, .iadd, 1), (33, .istore_n 2, 1), (34, .iinc 3 1, 3), (37, .goto (-28), 3), (40, .iload_n 1, 1), (41, .ifCond .ne 10, 3), (44, .aload_n 0, 1), (45, .getfield 204, 3), (48, .goto 25, 3), (51, .iload_n 1, 1), (52, .iconst 1, 1), (53, .if_icmp .ne 10, 3), (56, .aload_n 0, 1), (57, .getfield 134, 3), (60, .goto 13, 3), (63, .iload_n 1, 1), (64, .iconst 2, 1), (65, .if_icmp .ne 7, 3), (68, .iload_n 2, 1), (69, .goto 4, 3), (72, .iconst (-1), 1), (73, .ireturn, 1)],
  [(22, 3, 9, 2), (31, 3, 0, 0), (134, 3, 1, 0), (204, 3, 8, 0)],
  [],
  [],
  [],
  [], [])
def mp_M_look_t : mm_T := (⟨"RootCompassModel", "look", "(I)I"⟩, prog_5_method_74_code, 4, (some .int), 0, mp_M_look)
def mp_N_radicandOf : mm_P := ([(0, .iload_n 0, 1), (1, .iconst 1, 1), (2, .isub, 1), (3, .iconst 4, 1), (4, .imul, 1), (5, .ireturn, 1)],
  [],
  [],
  [],
  [],
  [], [])
def mp_N_radicandOf_t : mm_T := (⟨"RootCompass$Numbers", "radicandOf", "(I)I"⟩, prog_3_method_2_code, 1, (some .int), 0, mp_N_radicandOf)
def mp_N_home : mm_P := ([(0, .iconst 2, 1), (1, .iload_n 0, 1), (2, .iadd, 1), (3, .iconst 4, 1), (4, .imul, 1), (5, .ireturn, 1)],
  [],
  [],
  [],
  [],
  [], [])
def mp_N_home_t : mm_T := (⟨"RootCompass$Numbers", "home", "(I)I"⟩, prog_3_method_3_code, 1, (some .int), 0, mp_N_home)
def mp_N_begin : mm_P := ([(0, .aload_n 0, 1), (1, .aload_n 0, 1), (2, .getfield 11, 3), (5, .putfield 22, 3), (8, .aload_n 0, 1), (9, .iconst 0, 1), (10, .putfield 25, 3), (13, .return_, 1)],
  [(11, 1, 2, 2), (22, 1, 3, 0), (25, 1, 5, 1)],
  [],
  [],
  [],
  [], [])
def mp_N_begin_t : mm_T := (⟨"RootCompass$Numbers", "begin", "()V"⟩, prog_3_method_4_code, 1, none, 0, mp_N_begin)
def mp_N_read : mm_P := ([(0, .iload_n 2, 1), (1, .ifCond .eq 12, 3), (4, .aload_n 0, 1), (5, .getfield 19, 3), (8, .iload_n 1, 1), (9, .iaload, 1), (10, .goto 9, 3), (13, .aload_n 0, 1), (14, .getfield 15, 3), (17, .iload_n 1, 1), (18, .iaload, 1), (19, .ireturn, 1)],
  [(15, 1, 0, 2), (19, 1, 1, 2)],
  [],
  [],
  [],
  [], [])
def mp_N_read_t : mm_T := (⟨"RootCompass$Numbers", "read", "(IZ)I"⟩, prog_3_method_5_code, 3, (some .int), 0, mp_N_read)
def mp_N_copy : mm_P := ([(0, .aload_n 0, 1), (1, .getfield 15, 3), (4, .iload_n 1, 1), (5, .aload_n 0, 1), (6, .getfield 15, 3), (9, .iload_n 2, 1), (10, .iconst 4, 1), (11, .invokestatic 29, 3), (14, .aload_n 0, 1), (15, .getfield 19, 3), (18, .iload_n 1, 1), (19, .aload_n 0, 1), (20, .getfield 19, 3), (23, .iload_n 2, 1), (24, .iconst 4, 1), (25, .invokestatic 29, 3), (28, .return_, 1)],
  [(15, 1, 0, 2), (19, 1, 1, 2)],
  [],
  [(29, 0, 5, 98)],
  [],
  [], [])
def mp_N_copy_t : mm_T := (⟨"RootCompass$Numbers", "copy", "(II)V"⟩, prog_3_method_6_code, 3, none, 0, mp_N_copy)
def mp_N_alike : mm_P := ([(0, .iconst 0, 1), (1, .istore_n 3, 1), (2, .iload_n 3, 1), (3, .iconst 4, 1), (4, .if_icmp .ge 49, 3), (7, .aload_n 0, 1), (8, .getfield 15, 3), (11, .iload_n 1, 1), (12, .iload_n 3, 1), (13, .iadd, 1), (14, .iaload, 1), (15, .aload_n 0, 1), (16, .getfield 15, 3), (19, .iload_n 2, 1), (20, .iload_n 3, 1), (21, .iadd, 1), (22, .iaload, 1), (23, .if_icmp .ne 22, 3), (26, .aload_n 0, 1), (27, .getfield 19, 3), (30, .iload_n 1, 1), (31, .iload_n 3, 1), (32, .iadd, 1), (33, .iaload, 1), (34, .aload_n 0, 1), (35, .getfield 19, 3), (38, .iload_n 2, 1), (39, .iload_n 3, 1), (40, .iadd, 1), (41, .iaload, 1), (42, .if_icmp .eq 5, 3), (45, .iconst 0, 1), (46, .ireturn, 1), (47, .iinc 3 1, 3), (50, .goto (-48), 3), (53, .iconst 1, 1), (54, .ireturn, 1)],
  [(15, 1, 0, 2), (19, 1, 1, 2)],
  [],
  [],
  [],
  [], [])
def mp_N_alike_t : mm_T := (⟨"RootCompass$Numbers", "alike", "(II)Z"⟩, prog_3_method_7_code, 4, (some .boolean), 0, mp_N_alike)
def mp_N_isNought : mm_P := ([(0, .aload_n 0, 1), (1, .iconst 2, 1), (2, .iload_n 1, 1), (3, .invokevirtual 35, 3), (6, .ireturn, 1)],
  [],
  [],
  [(35, 141, 3, 1)],
  [],
  [], [])
def mp_N_isNought_t : mm_T := (⟨"RootCompass$Numbers", "isNought", "(I)Z"⟩, prog_3_method_8_code, 2, (some .boolean), 0, mp_N_isNought)
def mp_N_whole : mm_P := ([(0, .aload_n 0, 1), (1, .iload_n 1, 1), (2, .iconst 1, 1), (3, .invokevirtual 39, 3), (6, .ireturn, 1)],
  [],
  [],
  [(39, 128, 3, 1)],
  [],
  [], [])
def mp_N_whole_t : mm_T := (⟨"RootCompass$Numbers", "whole", "(I)I"⟩, prog_3_method_9_code, 2, (some .int), 0, mp_N_whole)
def mp_N_quotient : mm_P := ([(0, .aload_n 0, 1), (1, .invokevirtual 43, 3), (4, .istore_n 3, 1), (5, .aload_n 0, 1), (6, .iload_n 3, 1), (7, .iload_n 1, 1), (8, .i2l, 1), (9, .iload_n 2, 1), (10, .i2l, 1), (11, .invokevirtual 47, 3), (14, .iload_n 3, 1), (15, .ireturn, 1)],
  [],
  [],
  [(43, 138, 1, 1), (47, 139, 4, 1)],
  [],
  [], [])
def mp_N_quotient_t : mm_T := (⟨"RootCompass$Numbers", "quotient", "(II)I"⟩, prog_3_method_10_code, 4, (some .int), 0, mp_N_quotient)
def mp_N_plus : mm_P := ([(0, .aload_n 0, 1), (1, .aload_n 0, 1), (2, .getfield 51, 3), (5, .iload_n 1, 1), (6, .iload_n 2, 1), (7, .invokevirtual 54, 3), (10, .ireturn, 1)],
  [(51, 1, 4, 0)],
  [],
  [(54, 142, 4, 1)],
  [],
  [], [])
def mp_N_plus_t : mm_T := (⟨"RootCompass$Numbers", "plus", "(II)I"⟩, prog_3_method_11_code, 3, (some .int), 0, mp_N_plus)
def mp_N_minus : mm_P := ([(0, .aload_n 0, 1), (1, .aload_n 0, 1), (2, .getfield 51, 3), (5, .iload_n 1, 1), (6, .aload_n 0, 1), (7, .aload_n 0, 1), (8, .getfield 51, 3), (11, .iload_n 2, 1), (12, .invokevirtual 58, 3), (15, .invokevirtual 54, 3), (18, .ireturn, 1)],
  [(51, 1, 4, 0)],
  [],
  [(54, 142, 4, 1), (58, 143, 3, 1)],
  [],
  [], [])
def mp_N_minus_t : mm_T := (⟨"RootCompass$Numbers", "minus", "(II)I"⟩, prog_3_method_12_code, 3, (some .int), 0, mp_N_minus)
def mp_N_times : mm_P := ([(0, .aload_n 0, 1), (1, .aload_n 0, 1), (2, .getfield 51, 3), (5, .iload_n 1, 1), (6, .iload_n 2, 1), (7, .invokevirtual 61, 3), (10, .ireturn, 1)],
  [(51, 1, 4, 0)],
  [],
  [(61, 145, 4, 1)],
  [],
  [], [])
def mp_N_times_t : mm_T := (⟨"RootCompass$Numbers", "times", "(II)I"⟩, prog_3_method_13_code, 3, (some .int), 0, mp_N_times)
def mp_N_negated : mm_P := ([(0, .aload_n 0, 1), (1, .aload_n 0, 1), (2, .getfield 51, 3), (5, .iload_n 1, 1), (6, .invokevirtual 58, 3), (9, .ireturn, 1)],
  [(51, 1, 4, 0)],
  [],
  [(58, 143, 3, 1)],
  [],
  [], [])
def mp_N_negated_t : mm_T := (⟨"RootCompass$Numbers", "negated", "(I)I"⟩, prog_3_method_14_code, 2, (some .int), 0, mp_N_negated)
def mp_N_halved : mm_P := ([(0, .aload_n 0, 1), (1, .aload_n 0, 1), (2, .getfield 51, 3), (5, .iload_n 1, 1), (6, .invokevirtual 64, 3), (9, .ireturn, 1)],
  [(51, 1, 4, 0)],
  [],
  [(64, 144, 3, 1)],
  [],
  [], [])
def mp_N_halved_t : mm_T := (⟨"RootCompass$Numbers", "halved", "(I)I"⟩, prog_3_method_15_code, 2, (some .int), 0, mp_N_halved)
def mp_N_inverted : mm_P := ([(0, .aload_n 0, 1), (1, .aload_n 0, 1), (2, .getfield 51, 3), (5, .iload_n 1, 1), (6, .invokevirtual 67, 3), (9, .ireturn, 1)],
  [(51, 1, 4, 0)],
  [],
  [(67, 146, 3, 1)],
  [],
  [], [])
def mp_N_inverted_t : mm_T := (⟨"RootCompass$Numbers", "inverted", "(I)I"⟩, prog_3_method_16_code, 2, (some .int), 0, mp_N_inverted)
def mp_N_signum : mm_P := ([(0, .aload_n 0, 1), (1, .aload_n 0, 1), (2, .getfield 51, 3), (5, .iload_n 1, 1), (6, .invokevirtual 70, 3), (9, .ireturn, 1)],
  [(51, 1, 4, 0)],
  [],
  [(70, 147, 3, 1)],
  [],
  [], [])
def mp_N_signum_t : mm_T := (⟨"RootCompass$Numbers", "signum", "(I)I"⟩, prog_3_method_17_code, 2, (some .int), 0, mp_N_signum)
def mp_N_takeRoot : mm_P := ([(0, .aload_n 0, 1), (1, .aload_n 0, 1), (2, .getfield 51, 3), (5, .iload_n 1, 1), (6, .invokevirtual 70, 3), (9, .ifCond .ge 8, 3), (12, .aload_n 0, 1), (13, .iconst 1, 1), (14, .putfield 25, 3), (17, .aload_n 0, 1), (18, .getfield 25, 3), (21, .ifCond .eq 7, 3), (24, .iconst (-1), 1), (25, .goto 12, 3), (28, .aload_n 0, 1), (29, .aload_n 0, 1), (30, .getfield 51, 3), (33, .iload_n 1, 1), (34, .invokevirtual 73, 3), (37, .istore_n 2, 1), (38, .iload_n 2, 1), (39, .iconst (-1), 1), (40, .if_icmp .eq 5, 3), (43, .iload_n 2, 1), (44, .ireturn, 1), (45, .aload_n 0, 1), (46, .getfield 51, 3), (49, .iconst 2, 1), (50, .if_icmp .ne 8, 3), (53, .aload_n 0, 1), (54, .iconst 1, 1), (55, .putfield 25, 3), (58, .aload_n 0, 1), (59, .getfield 25, 3), (62, .ifCond .eq 10, 3), (65, .aload_n 0, 1), (66, .invokevirtual 43, 3), (69, .goto 8, 3), (72, .aload_n 0, 1), (73, .iload_n 1, 1), (74, .invokevirtual 76, 3), (77, .ireturn, 1)],
  [(25, 1, 5, 1), (51, 1, 4, 0)],
  [],
  [(43, 138, 1, 1), (70, 147, 3, 1), (73, 148, 3, 1), (76, 137, 2, 1)],
  [],
  [], [])
def mp_N_takeRoot_t : mm_T := (⟨"RootCompass$Numbers", "takeRoot", "(I)I"⟩, prog_3_method_18_code, 3, (some .int), 0, mp_N_takeRoot)
def mp_N_newLevel : mm_P := ([(0, .aload_n 0, 1), (1, .iload_n 1, 1), (2, .aload_n 0, 1), (3, .getfield 51, 3), (6, .iconst 1, 1), (7, .iadd, 1), (8, .invokestatic 80, 3), (11, .invokevirtual 83, 3), (14, .aload_n 0, 1), (15, .invokevirtual 43, 3), (18, .istore_n 2, 1), (19, .aload_n 0, 1), (20, .getfield 15, 3), (23, .iload_n 2, 1), (24, .iconst 1, 1), (25, .aload_n 0, 1), (26, .getfield 51, 3), (29, .ishl, 1), (30, .iadd, 1), (31, .iconst 1, 1), (32, .iastore, 1), (33, .aload_n 0, 1), (34, .dup, 1), (35, .getfield 51, 3), (38, .iconst 1, 1), (39, .iadd, 1), (40, .putfield 51, 3), (43, .iload_n 2, 1), (44, .ireturn, 1)],
  [(15, 1, 0, 2), (51, 1, 4, 0)],
  [],
  [(43, 138, 1, 1), (80, 120, 1, 99), (83, 124, 3, 1)],
  [],
  [], [])
def mp_N_newLevel_t : mm_T := (⟨"RootCompass$Numbers", "newLevel", "(I)I"⟩, prog_3_method_19_code, 3, (some .int), 0, mp_N_newLevel)
def mp_N_reserve : mm_P := ([(0, .aload_n 0, 1), (1, .getfield 22, 3), (4, .iconst 4, 1), (5, .iadd, 1), (6, .aload_n 0, 1), (7, .getfield 15, 3), (10, .arraylength, 1), (11, .if_icmp .le 16, 3), (14, .aload_n 0, 1), (15, .iconst 1, 1), (16, .putfield 25, 3), (19, .aload_n 0, 1), (20, .aload_n 0, 1), (21, .getfield 11, 3), (24, .putfield 22, 3), (27, .aload_n 0, 1), (28, .getfield 22, 3), (31, .istore_n 1, 1), (32, .aload_n 0, 1), (33, .dup, 1), (34, .getfield 22, 3), (37, .iconst 4, 1), (38, .iadd, 1), (39, .putfield 22, 3), (42, .iload_n 1, 1), (43, .istore_n 2, 1), (44, .iload_n 2, 1), (45, .aload_n 0, 1), (46, .getfield 22, 3), (49, .if_icmp .ge 23, 3), (52, .aload_n 0, 1), (53, .getfield 15, 3), (56, .iload_n 2, 1), (57, .iconst 0, 1), (58, .iastore, 1), (59, .aload_n 0, 1), (60, .getfield 19, 3), (63, .iload_n 2, 1), (64, .iconst 1, 1), (65, .iastore, 1), (66, .iinc 2 1, 3), (69, .goto (-25), 3), (72, .iload_n 1, 1), (73, .ireturn, 1)],
  [(11, 1, 2, 2), (15, 1, 0, 2), (19, 1, 1, 2), (22, 1, 3, 0), (25, 1, 5, 1)],
  [],
  [],
  [],
  [], [])
def mp_N_reserve_t : mm_T := (⟨"RootCompass$Numbers", "reserve", "()I"⟩, prog_3_method_20_code, 3, (some .int), 0, mp_N_reserve)
def mp_N_put : mm_P := ([(0, .lload_n 2, 1), (1, .lconst 0, 1), (2, .lcmp, 1), (3, .ifCond .eq 10, 3), (6, .aload_n 0, 1), (7, .getfield 25, 3), (10, .ifCond .eq 4, 3), (13, .return_, 1), (14, .lload_n 2, 1), (15, .lconst 0, 1), (16, .lcmp, 1), (17, .ifCond .ge 8, 3), (20, .lload_n 2, 1), (21, .lneg, 1), (22, .goto 4, 3), (25, .lload_n 2, 1), (26, .lstore 6, 2), (28, .lload 4, 2), (30, .lstore 8, 2), (32, .iconst 0, 1), (33, .istore 10, 2), (35, .iload 10, 2), (37, .bipush 100, 2), (39, .if_icmp .ge 31, 3), (42, .lload 8, 2), (44, .lconst 0, 1), (45, .lcmp, 1), (46, .ifCond .eq 24, 3), (49, .lload 6, 2), (51, .lload 8, 2), (53, .lrem, 1), (54, .lstore 11, 2), (56, .lload 8, 2), (58, .lstore 6, 2), (60, .lload 11, 2), (62, .lstore 8, 2), (64, .iinc 10 1, 3), (67, .goto (-32), 3), (70, .lload 6, 2), (72, .lconst 0, 1), (73, .lcmp, 1), (74, .ifCond .ne 4, 3), (77, .return_, 1), (78, .lload_n 2, 1), (79, .lload 6, 2), (81, .ldiv, 1), (82, .lstore 10, 2), (84, .lload 4, 2), (86, .lload 6, 2), (88, .ldiv, 1), (89, .lstore 12, 2), (91, .lload 10, 2), (93, .ldc2_w 87, 3), (96, .lcmp, 1), (97, .ifCond .gt 21, 3), (100, .lload 10, 2), (102, .ldc2_w 89, 3), (105, .lcmp, 1), (106, .ifCond .lt 12, 3), (109, .lload 12, 2), (111, .ldc2_w 87, 3), (114, .lcmp, 1), (115, .ifCond .le 9, 3), (118, .aload_n 0, 1), (119, .iconst 1, 1), (120, .putfield 25, 3), (123, .return_, 1), (124, .aload_n 0, 1), (125, .getfield 15, 3), (128, .iload_n 1, 1), (129, .lload 10, 2), (131, .l2i, 1), (132, .iastore, 1), (133, .aload_n 0, 1), (134, .getfield 19, 3), (137, .iload_n 1, 1), (138, .lload 12, 2), (140, .l2i, 1), (141, .iastore, 1), (142, .return_, 1)],
  [(15, 1, 0, 2), (19, 1, 1, 2), (25, 1, 5, 1)],
  [(87, .long 2147483647), (89, .long (-2147483647))],
  [],
  [],
  [], [])
def mp_N_put_t : mm_T := (⟨"RootCompass$Numbers", "put", "(IJJ)V"⟩, prog_3_method_21_code, 14, none, 0, mp_N_put)
def mp_N_pair : mm_P := ([(0, .iconst 1, 1), (1, .iload_n 1, 1), (2, .ishl, 1), (3, .istore 5, 2), (5, .aload_n 0, 1), (6, .getfield 15, 3), (9, .iload_n 3, 1), (10, .aload_n 0, 1), (11, .getfield 15, 3), (14, .iload_n 2, 1), (15, .iload 5, 2), (17, .invokestatic 29, 3), (20, .aload_n 0, 1), (21, .getfield 19, 3), (24, .iload_n 3, 1), (25, .aload_n 0, 1), (26, .getfield 19, 3), (29, .iload_n 2, 1), (30, .iload 5, 2), (32, .invokestatic 29, 3), (35, .aload_n 0, 1), (36, .getfield 15, 3), (39, .iload 4, 2), (41, .aload_n 0, 1), (42, .getfield 15, 3), (45, .iload_n 2, 1), (46, .iload 5, 2), (48, .iadd, 1), (49, .iload 5, 2), (51, .invokestatic 29, 3), (54, .aload_n 0, 1), (55, .getfield 19, 3), (58, .iload 4, 2), (60, .aload_n 0, 1), (61, .getfield 19, 3), (64, .iload_n 2, 1), (65, .iload 5, 2), (67, .iadd, 1), (68, .iload 5, 2), (70, .invokestatic 29, 3), (73, .aload_n 0, 1), (74, .iload_n 2, 1), (75, .iconst 4, 1), (76, .iadd, 1), (77, .putfield 22, 3), (80, .iload_n 2, 1), (81, .ireturn, 1)],
  [(15, 1, 0, 2), (19, 1, 1, 2), (22, 1, 3, 0)],
  [],
  [(29, 0, 5, 98)],
  [],
  [], [])
def mp_N_pair_t : mm_T := (⟨"RootCompass$Numbers", "pair", "(IIII)I"⟩, prog_3_method_22_code, 6, (some .int), 0, mp_N_pair)
def mp_N_isZero : mm_P := ([(0, .iconst 0, 1), (1, .istore_n 3, 1), (2, .iload_n 3, 1), (3, .iconst 1, 1), (4, .iload_n 1, 1), (5, .ishl, 1), (6, .if_icmp .ge 22, 3), (9, .aload_n 0, 1), (10, .getfield 15, 3), (13, .iload_n 2, 1), (14, .iload_n 3, 1), (15, .iadd, 1), (16, .iaload, 1), (17, .ifCond .eq 5, 3), (20, .iconst 0, 1), (21, .ireturn, 1), (22, .iinc 3 1, 3), (25, .goto (-23), 3), (28, .iconst 1, 1), (29, .ireturn, 1)],
  [(15, 1, 0, 2)],
  [],
  [],
  [],
  [], [])
def mp_N_isZero_t : mm_T := (⟨"RootCompass$Numbers", "isZero", "(II)Z"⟩, prog_3_method_23_code, 4, (some .boolean), 0, mp_N_isZero)
def mp_N_sum : mm_P := ([(0, .aload_n 0, 1), (1, .invokevirtual 43, 3), (4, .istore 4, 2), (6, .iconst 0, 1), (7, .istore 5, 2), (9, .iload 5, 2), (11, .iconst 1, 1), (12, .iload_n 1, 1), (13, .ishl, 1), (14, .if_icmp .ge 90, 3), (17, .aload_n 0, 1), (18, .getfield 15, 3), (21, .iload_n 2, 1), (22, .iload 5, 2), (24, .iadd, 1), (25, .iaload, 1), (26, .i2l, 1), (27, .aload_n 0, 1), (28, .getfield 19, 3), (31, .iload_n 3, 1), (32, .iload 5, 2), (34, .iadd, 1), (35, .iaload, 1), (36, .i2l, 1), (37, .lmul, 1), (38, .lstore 6, 2), (40, .aload_n 0, 1), (41, .getfield 15, 3), (44, .iload_n 3, 1), (45, .iload 5, 2), (47, .iadd, 1), (48, .iaload, 1), (49, .i2l, 1), (50, .aload_n 0, 1), (51, .getfield 19, 3), (54, .iload_n 2, 1), (55, .iload 5, 2), (57, .iadd, 1), (58, .iaload, 1), (59, .i2l, 1), (60, .lmul, 1), (61, .lstore 8, 2), (63, .aload_n 0, 1), (64, .iload 4, 2), (66, .iload 5, 2), (68, .iadd, 1), (69, .lload 6, 2), (71, .lload 8, 2), (73, .ladd, 1), (74, .aload_n 0, 1), (75, .getfield 19, 3), (78, .iload_n 2, 1), (79, .iload 5, 2), (81, .iadd, 1), (82, .iaload, 1), (83, .i2l, 1), (84, .aload_n 0, 1), (85, .getfield 19, 3), (88, .iload_n 3, 1), (89, .iload 5, 2), (91, .iadd, 1), (92, .iaload, 1), (93, .i2l, 1), (94, .lmul, 1), (95, .invokevirtual 47, 3), (98, .iinc 5 1, 3), (101, .goto (-92), 3), (104, .iload 4, 2), (106, .ireturn, 1)],
  [(15, 1, 0, 2), (19, 1, 1, 2)],
  [],
  [(43, 138, 1, 1), (47, 139, 4, 1)],
  [],
  [], [])
def mp_N_sum_t : mm_T := (⟨"RootCompass$Numbers", "sum", "(III)I"⟩, prog_3_method_24_code, 10, (some .int), 0, mp_N_sum)
def mp_N_negative : mm_P := ([(0, .aload_n 0, 1), (1, .invokevirtual 43, 3), (4, .istore_n 3, 1), (5, .iconst 0, 1), (6, .istore 4, 2), (8, .iload 4, 2), (10, .iconst 1, 1), (11, .iload_n 1, 1), (12, .ishl, 1), (13, .if_icmp .ge 46, 3), (16, .aload_n 0, 1), (17, .getfield 15, 3), (20, .iload_n 3, 1), (21, .iload 4, 2), (23, .iadd, 1), (24, .aload_n 0, 1), (25, .getfield 15, 3), (28, .iload_n 2, 1), (29, .iload 4, 2), (31, .iadd, 1), (32, .iaload, 1), (33, .ineg, 1), (34, .iastore, 1), (35, .aload_n 0, 1), (36, .getfield 19, 3), (39, .iload_n 3, 1), (40, .iload 4, 2), (42, .iadd, 1), (43, .aload_n 0, 1), (44, .getfield 19, 3), (47, .iload_n 2, 1), (48, .iload 4, 2), (50, .iadd, 1), (51, .iaload, 1), (52, .iastore, 1), (53, .iinc 4 1, 3), (56, .goto (-48), 3), (59, .iload_n 3, 1), (60, .ireturn, 1)],
  [(15, 1, 0, 2), (19, 1, 1, 2)],
  [],
  [(43, 138, 1, 1)],
  [],
  [], [])
def mp_N_negative_t : mm_T := (⟨"RootCompass$Numbers", "negative", "(II)I"⟩, prog_3_method_25_code, 5, (some .int), 0, mp_N_negative)
def mp_N_half : mm_P := ([(0, .aload_n 0, 1), (1, .invokevirtual 43, 3), (4, .istore_n 3, 1), (5, .iconst 0, 1), (6, .istore 4, 2), (8, .iload 4, 2), (10, .iconst 1, 1), (11, .iload_n 1, 1), (12, .ishl, 1), (13, .if_icmp .ge 41, 3), (16, .aload_n 0, 1), (17, .iload_n 3, 1), (18, .iload 4, 2), (20, .iadd, 1), (21, .aload_n 0, 1), (22, .getfield 15, 3), (25, .iload_n 2, 1), (26, .iload 4, 2), (28, .iadd, 1), (29, .iaload, 1), (30, .i2l, 1), (31, .ldc2_w 91, 3), (34, .aload_n 0, 1), (35, .getfield 19, 3), (38, .iload_n 2, 1), (39, .iload 4, 2), (41, .iadd, 1), (42, .iaload, 1), (43, .i2l, 1), (44, .lmul, 1), (45, .invokevirtual 47, 3), (48, .iinc 4 1, 3), (51, .goto (-43), 3), (54, .iload_n 3, 1), (55, .ireturn, 1)],
  [(15, 1, 0, 2), (19, 1, 1, 2)],
  [(91, .long 2)],
  [(43, 138, 1, 1), (47, 139, 4, 1)],
  [],
  [], [])
def mp_N_half_t : mm_T := (⟨"RootCompass$Numbers", "half", "(II)I"⟩, prog_3_method_26_code, 5, (some .int), 0, mp_N_half)
def mp_N_product : mm_P := ([(0, .aload_n 0, 1), (1, .invokevirtual 43, 3), (4, .istore 4, 2), (6, .aload_n 0, 1), (7, .iload_n 1, 1), (8, .iload_n 2, 1), (9, .invokevirtual 35, 3), (12, .ifCond .ne 12, 3), (15, .aload_n 0, 1), (16, .iload_n 1, 1), (17, .iload_n 3, 1), (18, .invokevirtual 35, 3), (21, .ifCond .eq 6, 3), (24, .iload 4, 2), (26, .ireturn, 1), (27, .iload_n 1, 1), (28, .ifCond .gt 42, 3), (31, .aload_n 0, 1), (32, .iload 4, 2), (34, .aload_n 0, 1), (35, .getfield 15, 3), (38, .iload_n 2, 1), (39, .iaload, 1), (40, .i2l, 1), (41, .aload_n 0, 1), (42, .getfield 15, 3), (45, .iload_n 3, 1), (46, .iaload, 1), (47, .i2l, 1), (48, .lmul, 1), (49, .aload_n 0, 1), (50, .getfield 19, 3), (53, .iload_n 2, 1), (54, .iaload, 1), (55, .i2l, 1), (56, .aload_n 0, 1), (57, .getfield 19, 3), (60, .iload_n 3, 1), (61, .iaload, 1), (62, .i2l, 1), (63, .lmul, 1), (64, .invokevirtual 47, 3), (67, .iload 4, 2), (69, .ireturn, 1), (70, .iload_n 1, 1), (71, .iconst 1, 1), (72, .isub, 1), (73, .istore 5, 2), (75, .iload_n 2, 1), (76, .iconst 1, 1), (77, .iload 5, 2), (79, .ishl, 1), (80, .iadd, 1), (81, .istore 6, 2), (83, .iload_n 3, 1), (84, .iconst 1, 1), (85, .iload 5, 2), (87, .ishl, 1), (88, .iadd, 1), (89, .istore 7, 2), (91, .aload_n 0, 1), (92, .iload 5, 2), (94, .aload_n 0, 1), (95, .iload 5, 2), (97, .iload 6, 2), (99, .iload 7, 2), (101, .invokevirtual 61, 3), (104, .iload_n 1, 1), (105, .invokestatic 80, 3), (108, .invokevirtual 61, 3), (111, .istore 8, 2), (113, .aload_n 0, 1), (114, .iload 5, 2), (116, .aload_n 0, 1), (117, .iload 5, 2), (119, .iload_n 2, 1), (120, .iload_n 3, 1), (121, .invokevirtual 61, 3), (124, .iload 8, 2), (126, .invokevirtual 54, 3), (129, .istore 9, 2), (131, .aload_n 0, 1), (132, .iload 5, 2), (134, .aload_n 0, 1), (135, .iload 5, 2), (137, .iload_n 2, 1), (138, .iload 7, 2), (140, .invokevirtual 61, 3), (143, .aload_n 0, 1), (144, .iload 5, 2), (146, .iload 6, 2), (148, .iload_n 3, 1), (149, .invokevirtual 61, 3), (152, .invokevirtual 54, 3), (155, .istore 10, 2), (157, .aload_n 0, 1), (158, .iload 5, 2), (160, .iload 4, 2), (162, .iload 9, 2), (164, .iload 10, 2), (166, .invokevirtual 93, 3), (169, .ireturn, 1)],
  [(15, 1, 0, 2), (19, 1, 1, 2)],
  [],
  [(35, 141, 3, 1), (43, 138, 1, 1), (47, 139, 4, 1), (54, 142, 4, 1), (61, 145, 4, 1), (80, 120, 1, 99), (93, 140, 5, 1)],
  [],
  [], [])
def mp_N_product_t : mm_T := (⟨"RootCompass$Numbers", "product", "(III)I"⟩, prog_3_method_27_code, 11, (some .int), 0, mp_N_product)
def mp_N_inverse : mm_P := ([(0, .aload_n 0, 1), (1, .invokevirtual 43, 3), (4, .istore_n 3, 1), (5, .aload_n 0, 1), (6, .iload_n 1, 1), (7, .iload_n 2, 1), (8, .invokevirtual 35, 3), (11, .ifCond .eq 10, 3), (14, .aload_n 0, 1), (15, .iconst 1, 1), (16, .putfield 25, 3), (19, .iload_n 3, 1), (20, .ireturn, 1), (21, .iload_n 1, 1), (22, .ifCond .gt 67, 3), (25, .aload_n 0, 1), (26, .getfield 15, 3), (29, .iload_n 3, 1), (30, .aload_n 0, 1), (31, .getfield 15, 3), (34, .iload_n 2, 1), (35, .iaload, 1), (36, .ifCond .ge 13, 3), (39, .aload_n 0, 1), (40, .getfield 19, 3), (43, .iload_n 2, 1), (44, .iaload, 1), (45, .ineg, 1), (46, .goto 9, 3), (49, .aload_n 0, 1), (50, .getfield 19, 3), (53, .iload_n 2, 1), (54, .iaload, 1), (55, .iastore, 1), (56, .aload_n 0, 1), (57, .getfield 19, 3), (60, .iload_n 3, 1), (61, .aload_n 0, 1), (62, .getfield 15, 3), (65, .iload_n 2, 1), (66, .iaload, 1), (67, .ifCond .ge 13, 3), (70, .aload_n 0, 1), (71, .getfield 15, 3), (74, .iload_n 2, 1), (75, .iaload, 1), (76, .ineg, 1), (77, .goto 9, 3), (80, .aload_n 0, 1), (81, .getfield 15, 3), (84, .iload_n 2, 1), (85, .iaload, 1), (86, .iastore, 1), (87, .iload_n 3, 1), (88, .ireturn, 1), (89, .iload_n 1, 1), (90, .iconst 1, 1), (91, .isub, 1), (92, .istore 4, 2), (94, .iload_n 2, 1), (95, .iconst 1, 1), (96, .iload 4, 2), (98, .ishl, 1), (99, .iadd, 1), (100, .istore 5, 2), (102, .aload_n 0, 1), (103, .iload 4, 2), (105, .aload_n 0, 1), (106, .iload 4, 2), (108, .iload 5, 2), (110, .iload 5, 2), (112, .invokevirtual 61, 3), (115, .iload_n 1, 1), (116, .invokestatic 80, 3), (119, .invokevirtual 61, 3), (122, .istore 6, 2), (124, .aload_n 0, 1), (125, .iload 4, 2), (127, .aload_n 0, 1), (128, .iload 4, 2), (130, .aload_n 0, 1), (131, .iload 4, 2), (133, .iload_n 2, 1), (134, .iload_n 2, 1), (135, .invokevirtual 61, 3), (138, .aload_n 0, 1), (139, .iload 4, 2), (141, .iload 6, 2), (143, .invokevirtual 58, 3), (146, .invokevirtual 54, 3), (149, .invokevirtual 67, 3), (152, .istore 7, 2), (154, .aload_n 0, 1), (155, .iload 4, 2), (157, .iload_n 3, 1), (158, .aload_n 0, 1), (159, .iload 4, 2), (161, .iload_n 2, 1), (162, .iload 7, 2), (164, .invokevirtual 61, 3), (167, .aload_n 0, 1), (168, .iload 4, 2), (170, .aload_n 0, 1), (171, .iload 4, 2), (173, .iload 5, 2), (175, .invokevirtual 58, 3), (178, .iload 7, 2), (180, .invokevirtual 61, 3), (183, .invokevirtual 93, 3), (186, .ireturn, 1)],
  [(15, 1, 0, 2), (19, 1, 1, 2), (25, 1, 5, 1)],
  [],
  [(35, 141, 3, 1), (43, 138, 1, 1), (54, 142, 4, 1), (58, 143, 3, 1), (61, 145, 4, 1), (67, 146, 3, 1), (80, 120, 1, 99), (93, 140, 5, 1)],
  [],
  [], [])
def mp_N_inverse_t : mm_T := (⟨"RootCompass$Numbers", "inverse", "(II)I"⟩, prog_3_method_28_code, 8, (some .int), 0, mp_N_inverse)
def mp_N_signOf : mm_P := ([(0, .iload_n 1, 1), (1, .ifCond .gt 14, 3), (4, .aload_n 0, 1), (5, .getfield 15, 3), (8, .iload_n 2, 1), (9, .iaload, 1), (10, .iconst 0, 1), (11, .invokestatic 97, 3), (14, .ireturn, 1), (15, .iload_n 1, 1), (16, .iconst 1, 1), (17, .isub, 1), (18, .istore_n 3, 1), (19, .iload_n 2, 1), (20, .iconst 1, 1), (21, .iload_n 3, 1), (22, .ishl, 1), (23, .iadd, 1), (24, .istore 4, 2), (26, .aload_n 0, 1), (27, .iload_n 3, 1), (28, .iload_n 2, 1), (29, .invokevirtual 70, 3), (32, .istore 5, 2), (34, .aload_n 0, 1), (35, .iload_n 3, 1), (36, .iload 4, 2), (38, .invokevirtual 70, 3), (41, .istore 6, 2), (43, .iload 6, 2), (45, .ifCond .eq 10, 3), (48, .iload 6, 2), (50, .iload 5, 2), (52, .if_icmp .ne 6, 3), (55, .iload 5, 2), (57, .ireturn, 1), (58, .iload 5, 2), (60, .ifCond .ne 6, 3), (63, .iload 6, 2), (65, .ireturn, 1), (66, .aload_n 0, 1), (67, .iload_n 3, 1), (68, .aload_n 0, 1), (69, .iload_n 3, 1), (70, .iload 4, 2), (72, .iload 4, 2), (74, .invokevirtual 61, 3), (77, .iload_n 1, 1), (78, .invokestatic 80, 3), (81, .invokevirtual 61, 3), (84, .istore 7, 2), (86, .iload 5, 2), (88, .aload_n 0, 1), (89, .iload_n 3, 1), (90, .aload_n 0, 1), (91, .iload_n 3, 1), (92, .aload_n 0, 1), (93, .iload_n 3, 1), (94, .iload_n 2, 1), (95, .iload_n 2, 1), (96, .invokevirtual 61, 3), (99, .aload_n 0, 1), (100, .iload_n 3, 1), (101, .iload 7, 2), (103, .invokevirtual 58, 3), (106, .invokevirtual 54, 3), (109, .invokevirtual 70, 3), (112, .imul, 1), (113, .ireturn, 1)],
  [(15, 1, 0, 2)],
  [],
  [(54, 142, 4, 1), (58, 143, 3, 1), (61, 145, 4, 1), (70, 147, 3, 1), (80, 120, 1, 99), (97, 165, 2, 99)],
  [],
  [], [])
def mp_N_signOf_t : mm_T := (⟨"RootCompass$Numbers", "signOf", "(II)I"⟩, prog_3_method_29_code, 8, (some .int), 0, mp_N_signOf)
def mp_N_root : mm_P := ([(0, .iload_n 1, 1), (1, .ifCond .gt 9, 3), (4, .aload_n 0, 1), (5, .iload_n 2, 1), (6, .invokevirtual 102, 3), (9, .ireturn, 1), (10, .iload_n 1, 1), (11, .iconst 1, 1), (12, .isub, 1), (13, .istore_n 3, 1), (14, .iload_n 2, 1), (15, .iconst 1, 1), (16, .iload_n 3, 1), (17, .ishl, 1), (18, .iadd, 1), (19, .istore 4, 2), (21, .aload_n 0, 1), (22, .iload_n 3, 1), (23, .iload 4, 2), (25, .invokevirtual 35, 3), (28, .ifCond .eq 81, 3), (31, .aload_n 0, 1), (32, .iload_n 3, 1), (33, .iload_n 2, 1), (34, .invokevirtual 73, 3), (37, .istore 5, 2), (39, .iload 5, 2), (41, .iconst (-1), 1), (42, .if_icmp .eq 19, 3), (45, .aload_n 0, 1), (46, .iload_n 3, 1), (47, .aload_n 0, 1), (48, .invokevirtual 43, 3), (51, .iload 5, 2), (53, .aload_n 0, 1), (54, .invokevirtual 43, 3), (57, .invokevirtual 93, 3), (60, .ireturn, 1), (61, .aload_n 0, 1), (62, .iload_n 3, 1), (63, .aload_n 0, 1), (64, .iload_n 3, 1), (65, .iload_n 2, 1), (66, .aload_n 0, 1), (67, .iload_n 3, 1), (68, .iload_n 1, 1), (69, .invokestatic 80, 3), (72, .invokevirtual 67, 3), (75, .invokevirtual 61, 3), (78, .invokevirtual 73, 3), (81, .istore 6, 2), (83, .iload 6, 2), (85, .iconst (-1), 1), (86, .if_icmp .ne 7, 3), (89, .iconst (-1), 1), (90, .goto 18, 3), (93, .aload_n 0, 1), (94, .iload_n 3, 1), (95, .aload_n 0, 1), (96, .invokevirtual 43, 3), (99, .aload_n 0, 1), (100, .invokevirtual 43, 3), (103, .iload 6, 2), (105, .invokevirtual 93, 3), (108, .ireturn, 1), (109, .aload_n 0, 1), (110, .iload_n 3, 1), (111, .aload_n 0, 1), (112, .iload_n 3, 1), (113, .iload 4, 2), (115, .iload 4, 2), (117, .invokevirtual 61, 3), (120, .iload_n 1, 1), (121, .invokestatic 80, 3), (124, .invokevirtual 61, 3), (127, .istore 5, 2), (129, .aload_n 0, 1), (130, .iload_n 3, 1), (131, .aload_n 0, 1), (132, .iload_n 3, 1), (133, .iload_n 2, 1), (134, .iload_n 2, 1), (135, .invokevirtual 61, 3), (138, .aload_n 0, 1), (139, .iload_n 3, 1), (140, .iload 5, 2), (142, .invokevirtual 58, 3), (145, .invokevirtual 54, 3), (148, .istore 6, 2), (150, .aload_n 0, 1), (151, .iload_n 3, 1), (152, .iload 6, 2), (154, .invokevirtual 70, 3), (157, .ifCond .ge 7, 3), (160, .iconst (-1), 1), (161, .goto 10, 3), (164, .aload_n 0, 1), (165, .iload_n 3, 1), (166, .iload 6, 2), (168, .invokevirtual 73, 3), (171, .istore 7, 2), (173, .iload 7, 2), (175, .iconst (-1), 1), (176, .if_icmp .ne 5, 3), (179, .iconst (-1), 1), (180, .ireturn, 1), (181, .iconst 0, 1), (182, .istore 8, 2), (184, .iload 8, 2), (186, .iconst 2, 1), (187, .if_icmp .ge 129, 3), (190, .aload_n 0, 1), (191, .iload_n 3, 1), (192, .aload_n 0, 1), (193, .iload_n 3, 1), (194, .iload_n 2, 1), (195, .iload 8, 2), (197, .ifCond .ne 8, 3), (200, .iload 7, 2), (202, .goto 10, 3), (205, .aload_n 0, 1), (206, .iload_n 3, 1), (207, .iload 7, 2), (209, .invokevirtual 58, 3), (212, .invokevirtual 54, 3), (215, .invokevirtual 64, 3), (218, .istore 9, 2), (220, .aload_n 0, 1), (221, .iload_n 3, 1), (222, .iload 9, 2), (224, .invokevirtual 70, 3), (227, .ifCond .le 13, 3), (230, .aload_n 0, 1), (231, .iload_n 3, 1), (232, .iload 9, 2), (234, .invokevirtual 73, 3), (237, .goto 4, 3), (240, .iconst (-1), 1), (241, .istore 10, 2), (243, .iload 10, 2), (245, .iconst (-1), 1), (246, .if_icmp .eq 64, 3), (249, .aload_n 0, 1), (250, .iload_n 3, 1), (251, .iload 4, 2), (253, .aload_n 0, 1), (254, .iload_n 3, 1), (255, .aload_n 0, 1), (256, .iload_n 3, 1), (257, .iload 10, 2), (259, .iload 10, 2), (261, .invokevirtual 54, 3), (264, .invokevirtual 67, 3), (267, .invokevirtual 61, 3), (270, .istore 11, 2), (272, .aload_n 0, 1), (273, .iload_n 3, 1), (274, .aload_n 0, 1), (275, .invokevirtual 43, 3), (278, .iload 10, 2), (280, .iload 11, 2), (282, .invokevirtual 93, 3), (285, .istore 12, 2), (287, .aload_n 0, 1), (288, .iload_n 1, 1), (289, .iload 12, 2), (291, .invokevirtual 70, 3), (294, .ifCond .ge 13, 3), (297, .aload_n 0, 1), (298, .iload_n 1, 1), (299, .iload 12, 2), (301, .invokevirtual 58, 3), (304, .goto 5, 3), (307, .iload 12, 2), (309, .ireturn, 1), (310, .iinc 8 1, 3), (313, .goto (-129), 3), (316, .iconst (-1), 1), (317, .ireturn, 1)],
  [],
  [],
  [(35, 141, 3, 1), (43, 138, 1, 1), (54, 142, 4, 1), (58, 143, 3, 1), (61, 145, 4, 1), (64, 144, 3, 1), (67, 146, 3, 1), (70, 147, 3, 1), (73, 148, 3, 1), (80, 120, 1, 99), (93, 140, 5, 1), (102, 149, 2, 1)],
  [],
  [], [])
def mp_N_root_t : mm_T := (⟨"RootCompass$Numbers", "root", "(II)I"⟩, prog_3_method_30_code, 13, (some .int), 0, mp_N_root)
def mp_N_rootOfFraction : mm_P := ([(0, .aload_n 0, 1), (1, .getfield 15, 3), (4, .iload_n 1, 1), (5, .iaload, 1), (6, .invokestatic 105, 3), (9, .istore_n 2, 1), (10, .aload_n 0, 1), (11, .getfield 19, 3), (14, .iload_n 1, 1), (15, .iaload, 1), (16, .invokestatic 105, 3), (19, .istore_n 3, 1), (20, .iload_n 2, 1), (21, .iconst (-1), 1), (22, .if_icmp .eq 8, 3), (25, .iload_n 3, 1), (26, .iconst (-1), 1), (27, .if_icmp .ne 5, 3), (30, .iconst (-1), 1), (31, .ireturn, 1), (32, .aload_n 0, 1), (33, .invokevirtual 43, 3), (36, .istore 4, 2), (38, .aload_n 0, 1), (39, .getfield 15, 3), (42, .iload 4, 2), (44, .iload_n 2, 1), (45, .iastore, 1), (46, .aload_n 0, 1), (47, .getfield 19, 3), (50, .iload 4, 2), (52, .iload_n 3, 1), (53, .iastore, 1), (54, .iload 4, 2), (56, .ireturn, 1)],
  [(15, 1, 0, 2), (19, 1, 1, 2)],
  [],
  [(43, 138, 1, 1), (105, 150, 1, 99)],
  [],
  [], [])
def mp_N_rootOfFraction_t : mm_T := (⟨"RootCompass$Numbers", "rootOfFraction", "(I)I"⟩, prog_3_method_31_code, 5, (some .int), 0, mp_N_rootOfFraction)
def mp_N_rootOfWhole : mm_P := ([(0, .iconst 0, 1), (1, .istore_n 1, 1), (2, .ldc 108, 2), (4, .istore_n 2, 1), (5, .iload_n 2, 1), (6, .ifCond .le 28, 3), (9, .iload_n 1, 1), (10, .iload_n 2, 1), (11, .iadd, 1), (12, .i2l, 1), (13, .lstore_n 3, 1), (14, .lload_n 3, 1), (15, .lload_n 3, 1), (16, .lmul, 1), (17, .iload_n 0, 1), (18, .i2l, 1), (19, .lcmp, 1), (20, .ifCond .gt 7, 3), (23, .iload_n 1, 1), (24, .iload_n 2, 1), (25, .iadd, 1), (26, .istore_n 1, 1), (27, .iload_n 2, 1), (28, .iconst 1, 1), (29, .ishr, 1), (30, .istore_n 2, 1), (31, .goto (-26), 3), (34, .iload_n 1, 1), (35, .iload_n 1, 1), (36, .imul, 1), (37, .iload_n 0, 1), (38, .if_icmp .ne 7, 3), (41, .iload_n 1, 1), (42, .goto 4, 3), (45, .iconst (-1), 1), (46, .ireturn, 1)],
  [],
  [(108, .int 32768)],
  [],
  [],
  [], [])
def mp_N_rootOfWhole_t : mm_T := (⟨"RootCompass$Numbers", "rootOfWhole", "(I)I"⟩, prog_3_method_32_code, 5, (some .int), 0, mp_N_rootOfWhole)
def mp_L_free : mm_P := ([(0, .aload 5, 2), (2, .iconst 0, 1), (3, .aload_n 0, 1), (4, .iload_n 1, 1), (5, .iload_n 2, 1), (6, .iload_n 3, 1), (7, .iload 4, 2), (9, .invokevirtual 7, 3), (12, .i2l, 1), (13, .lastore, 1), (14, .goto 11, 3), (19, .iconst 1, 1), (20, .ireturn, 1), (23, .iconst 2, 1), (24, .ireturn, 1), (25, .iconst 0, 1), (26, .ireturn, 1)],
  [],
  [],
  [(7, 0, 5, 2)],
  [],
  [(0, 14, 17, 13, "java/lang/IllegalArgumentException", 19, 6), (0, 14, 21, 15, "java/lang/IllegalStateException", 23, 6)], [])
def mp_L_free_t : mm_T := (⟨"RootCompassLaw", "free", "(LRootCompass;IIII[J)I"⟩, method_3_code, 7, (some .int), 4, mp_L_free)
def mp_L_line : mm_P := ([(0, .aload_n 3, 1), (1, .iconst 0, 1), (2, .aload_n 0, 1), (3, .iload_n 1, 1), (4, .iload_n 2, 1), (5, .invokevirtual 17, 3), (8, .i2l, 1), (9, .lastore, 1), (10, .goto 15, 3), (15, .iconst 1, 1), (16, .ireturn, 1), (19, .iconst 2, 1), (20, .ireturn, 1), (23, .iconst 3, 1), (24, .ireturn, 1), (25, .iconst 0, 1), (26, .ireturn, 1)],
  [],
  [],
  [(17, 1, 3, 2)],
  [],
  [(0, 10, 13, 13, "java/lang/IllegalArgumentException", 15, 4), (0, 10, 17, 15, "java/lang/IllegalStateException", 19, 4), (0, 10, 21, 21, "java/lang/UnsupportedOperationException", 23, 4)], [])
def mp_L_line_t : mm_T := (⟨"RootCompassLaw", "line", "(LRootCompass;II[J)I"⟩, method_4_code, 5, (some .int), 4, mp_L_line)
def mp_L_circle : mm_P := ([(0, .aload 4, 2), (2, .iconst 0, 1), (3, .aload_n 0, 1), (4, .iload_n 1, 1), (5, .iload_n 2, 1), (6, .iload_n 3, 1), (7, .invokevirtual 23, 3), (10, .i2l, 1), (11, .lastore, 1), (12, .goto 15, 3), (17, .iconst 1, 1), (18, .ireturn, 1), (21, .iconst 2, 1), (22, .ireturn, 1), (25, .iconst 3, 1), (26, .ireturn, 1), (27, .iconst 0, 1), (28, .ireturn, 1)],
  [],
  [],
  [(23, 2, 4, 2)],
  [],
  [(0, 12, 15, 13, "java/lang/IllegalArgumentException", 17, 5), (0, 12, 19, 15, "java/lang/IllegalStateException", 21, 5), (0, 12, 23, 21, "java/lang/UnsupportedOperationException", 25, 5)], [])
def mp_L_circle_t : mm_T := (⟨"RootCompassLaw", "circle", "(LRootCompass;III[J)I"⟩, method_5_code, 6, (some .int), 4, mp_L_circle)
def mp_L_middle : mm_P := ([(0, .aload_n 3, 1), (1, .iconst 0, 1), (2, .aload_n 0, 1), (3, .iload_n 1, 1), (4, .iload_n 2, 1), (5, .invokevirtual 27, 3), (8, .i2l, 1), (9, .lastore, 1), (10, .goto 15, 3), (15, .iconst 1, 1), (16, .ireturn, 1), (19, .iconst 2, 1), (20, .ireturn, 1), (23, .iconst 3, 1), (24, .ireturn, 1), (25, .iconst 0, 1), (26, .ireturn, 1)],
  [],
  [],
  [(27, 3, 3, 2)],
  [],
  [(0, 10, 13, 13, "java/lang/IllegalArgumentException", 15, 4), (0, 10, 17, 15, "java/lang/IllegalStateException", 19, 4), (0, 10, 21, 21, "java/lang/UnsupportedOperationException", 23, 4)], [])
def mp_L_middle_t : mm_T := (⟨"RootCompassLaw", "middle", "(LRootCompass;II[J)I"⟩, method_6_code, 5, (some .int), 4, mp_L_middle)
def mp_L_meet : mm_P := ([(0, .aload 4, 2), (2, .iconst 0, 1), (3, .aload_n 0, 1), (4, .iload_n 1, 1), (5, .iload_n 2, 1), (6, .iload_n 3, 1), (7, .invokevirtual 30, 3), (10, .i2l, 1), (11, .lastore, 1), (12, .goto 15, 3), (17, .iconst 1, 1), (18, .ireturn, 1), (21, .iconst 2, 1), (22, .ireturn, 1), (25, .iconst 3, 1), (26, .ireturn, 1), (27, .iconst 0, 1), (28, .ireturn, 1)],
  [],
  [],
  [(30, 4, 4, 2)],
  [],
  [(0, 12, 15, 13, "java/lang/IllegalArgumentException", 17, 5), (0, 12, 19, 15, "java/lang/IllegalStateException", 21, 5), (0, 12, 23, 21, "java/lang/UnsupportedOperationException", 25, 5)], [])
def mp_L_meet_t : mm_T := (⟨"RootCompassLaw", "meet", "(LRootCompass;III[J)I"⟩, method_7_code, 6, (some .int), 4, mp_L_meet)
def mp_L_move : mm_P := ([(0, .aload 6, 2), (2, .iconst 0, 1), (3, .aload_n 0, 1), (4, .iload_n 1, 1), (5, .iload_n 2, 1), (6, .iload_n 3, 1), (7, .iload 4, 2), (9, .iload 5, 2), (11, .invokevirtual 33, 3), (14, .i2l, 1), (15, .lastore, 1), (16, .goto 7, 3), (21, .iconst 1, 1), (22, .ireturn, 1), (23, .iconst 0, 1), (24, .ireturn, 1)],
  [],
  [],
  [(33, 5, 6, 2)],
  [],
  [(0, 16, 19, 13, "java/lang/IllegalArgumentException", 21, 7)], [])
def mp_L_move_t : mm_T := (⟨"RootCompassLaw", "move", "(LRootCompass;IIIII[J)I"⟩, method_8_code, 8, (some .int), 4, mp_L_move)
def mp_L_on : mm_P := ([(0, .aload_n 3, 1), (1, .iconst 0, 1), (2, .aload_n 0, 1), (3, .iload_n 1, 1), (4, .iload_n 2, 1), (5, .invokevirtual 37, 3), (8, .ifCond .eq 7, 3), (11, .lconst 1, 1), (12, .goto 4, 3), (15, .lconst 0, 1), (16, .lastore, 1), (17, .goto 11, 3), (22, .iconst 1, 1), (23, .ireturn, 1), (26, .iconst 2, 1), (27, .ireturn, 1), (28, .iconst 0, 1), (29, .ireturn, 1)],
  [],
  [],
  [(37, 7, 3, 2)],
  [],
  [(0, 17, 20, 13, "java/lang/IllegalArgumentException", 22, 4), (0, 17, 24, 21, "java/lang/UnsupportedOperationException", 26, 4)], [])
def mp_L_on_t : mm_T := (⟨"RootCompassLaw", "on", "(LRootCompass;II[J)I"⟩, method_9_code, 5, (some .int), 4, mp_L_on)
def mp_L_same : mm_P := ([(0, .aload_n 3, 1), (1, .iconst 0, 1), (2, .aload_n 0, 1), (3, .iload_n 1, 1), (4, .iload_n 2, 1), (5, .invokevirtual 41, 3), (8, .ifCond .eq 7, 3), (11, .lconst 1, 1), (12, .goto 4, 3), (15, .lconst 0, 1), (16, .lastore, 1), (17, .goto 7, 3), (22, .iconst 1, 1), (23, .ireturn, 1), (24, .iconst 0, 1), (25, .ireturn, 1)],
  [],
  [],
  [(41, 8, 3, 2)],
  [],
  [(0, 17, 20, 13, "java/lang/IllegalArgumentException", 22, 4)], [])
def mp_L_same_t : mm_T := (⟨"RootCompassLaw", "same", "(LRootCompass;II[J)I"⟩, method_10_code, 5, (some .int), 4, mp_L_same)
def mp_L_equal : mm_P := ([(0, .aload 5, 2), (2, .iconst 0, 1), (3, .aload_n 0, 1), (4, .iload_n 1, 1), (5, .iload_n 2, 1), (6, .iload_n 3, 1), (7, .iload 4, 2), (9, .invokevirtual 44, 3), (12, .ifCond .eq 7, 3), (15, .lconst 1, 1), (16, .goto 4, 3), (19, .lconst 0, 1), (20, .lastore, 1), (21, .goto 11, 3), (26, .iconst 1, 1), (27, .ireturn, 1), (30, .iconst 2, 1), (31, .ireturn, 1), (32, .iconst 0, 1), (33, .ireturn, 1)],
  [],
  [],
  [(44, 9, 5, 2)],
  [],
  [(0, 21, 24, 13, "java/lang/IllegalArgumentException", 26, 6), (0, 21, 28, 21, "java/lang/UnsupportedOperationException", 30, 6)], [])
def mp_L_equal_t : mm_T := (⟨"RootCompassLaw", "equal", "(LRootCompass;IIII[J)I"⟩, method_11_code, 7, (some .int), 4, mp_L_equal)
def mp_L_angle : mm_P := ([(0, .aload_n 3, 1), (1, .iconst 0, 1), (2, .aload_n 0, 1), (3, .iload_n 1, 1), (4, .iload_n 2, 1), (5, .invokevirtual 48, 3), (8, .i2l, 1), (9, .lastore, 1), (10, .goto 11, 3), (15, .iconst 1, 1), (16, .ireturn, 1), (19, .iconst 2, 1), (20, .ireturn, 1), (21, .iconst 0, 1), (22, .ireturn, 1)],
  [],
  [],
  [(48, 10, 3, 2)],
  [],
  [(0, 10, 13, 13, "java/lang/IllegalArgumentException", 15, 4), (0, 10, 17, 21, "java/lang/UnsupportedOperationException", 19, 4)], [])
def mp_L_angle_t : mm_T := (⟨"RootCompassLaw", "angle", "(LRootCompass;II[J)I"⟩, method_12_code, 5, (some .int), 4, mp_L_angle)
def mp_L_side : mm_P := ([(0, .aload 4, 2), (2, .iconst 0, 1), (3, .aload_n 0, 1), (4, .iload_n 1, 1), (5, .iload_n 2, 1), (6, .iload_n 3, 1), (7, .invokevirtual 51, 3), (10, .i2l, 1), (11, .lastore, 1), (12, .goto 11, 3), (17, .iconst 1, 1), (18, .ireturn, 1), (21, .iconst 2, 1), (22, .ireturn, 1), (23, .iconst 0, 1), (24, .ireturn, 1)],
  [],
  [],
  [(51, 11, 4, 2)],
  [],
  [(0, 12, 15, 13, "java/lang/IllegalArgumentException", 17, 5), (0, 12, 19, 21, "java/lang/UnsupportedOperationException", 21, 5)], [])
def mp_L_side_t : mm_T := (⟨"RootCompassLaw", "side", "(LRootCompass;III[J)I"⟩, method_13_code, 6, (some .int), 4, mp_L_side)
def mp_L_sign : mm_P := ([(0, .aload 4, 2), (2, .iconst 0, 1), (3, .aload_n 0, 1), (4, .iload_n 1, 1), (5, .iload_n 2, 1), (6, .iload_n 3, 1), (7, .invokevirtual 54, 3), (10, .i2l, 1), (11, .lastore, 1), (12, .goto 11, 3), (17, .iconst 1, 1), (18, .ireturn, 1), (21, .iconst 2, 1), (22, .ireturn, 1), (23, .iconst 0, 1), (24, .ireturn, 1)],
  [],
  [],
  [(54, 12, 4, 2)],
  [],
  [(0, 12, 15, 13, "java/lang/IllegalArgumentException", 17, 5), (0, 12, 19, 21, "java/lang/UnsupportedOperationException", 21, 5)], [])
def mp_L_sign_t : mm_T := (⟨"RootCompassLaw", "sign", "(LRootCompass;IZI[J)I"⟩, method_14_code, 6, (some .int), 4, mp_L_sign)
def mp_L_part : mm_P := ([(0, .aload 5, 2), (2, .iconst 0, 1), (3, .aload_n 0, 1), (4, .iload_n 1, 1), (5, .iload_n 2, 1), (6, .iload_n 3, 1), (7, .iload 4, 2), (9, .invokevirtual 58, 3), (12, .i2l, 1), (13, .lastore, 1), (14, .goto 7, 3), (19, .iconst 1, 1), (20, .ireturn, 1), (21, .iconst 0, 1), (22, .ireturn, 1)],
  [],
  [],
  [(58, 13, 5, 2)],
  [],
  [(0, 14, 17, 13, "java/lang/IllegalArgumentException", 19, 6)], [])
def mp_L_part_t : mm_T := (⟨"RootCompassLaw", "part", "(LRootCompass;IZIZ[J)I"⟩, method_15_code, 7, (some .int), 4, mp_L_part)
def mp_L_radicand : mm_P := ([(0, .aload 4, 2), (2, .iconst 0, 1), (3, .aload_n 0, 1), (4, .iload_n 1, 1), (5, .iload_n 2, 1), (6, .iload_n 3, 1), (7, .invokevirtual 62, 3), (10, .i2l, 1), (11, .lastore, 1), (12, .goto 7, 3), (17, .iconst 1, 1), (18, .ireturn, 1), (19, .iconst 0, 1), (20, .ireturn, 1)],
  [],
  [],
  [(62, 14, 4, 2)],
  [],
  [(0, 12, 15, 66, "java/lang/IndexOutOfBoundsException", 17, 5)], [])
def mp_L_radicand_t : mm_T := (⟨"RootCompassLaw", "radicand", "(LRootCompass;IIZ[J)I"⟩, method_16_code, 6, (some .int), 4, mp_L_radicand)
def mp_J_compare : mm_P := ([(0, .iload_n 0, 1), (1, .iload_n 1, 1), (2, .if_icmp .ge 7, 3), (5, .iconst (-1), 1), (6, .goto 13, 3), (9, .iload_n 0, 1), (10, .iload_n 1, 1), (11, .if_icmp .ne 7, 3), (14, .iconst 0, 1), (15, .goto 4, 3), (18, .iconst 1, 1), (19, .ireturn, 1)],
  [],
  [],
  [],
  [],
  [], [])
def mp_J_compare_t : mm_T := (⟨"java/lang/Integer", "compare", "(II)I"⟩, prog_10_method_40_code, 2, (some .int), 0, mp_J_compare)
def mm_T0 : List mm_T := [mp_C_free_t, mp_C_line_t, mp_C_circle_t, mp_C_middle_t, mp_C_meet_t, mp_C_move_t, mp_C_undo_t, mp_C_on_t, mp_C_same_t, mp_C_equal_t, mp_C_angle_t, mp_C_side_t, mp_C_sign_t, mp_C_part_t, mp_C_radicand_t, mp_C_kind_t, mp_C_look_t, mp_C_countFreePoints_t, mp_C_isPoint_t, mp_C_isLine_t]
def mm_T1 : List mm_T := [mp_C_isCircle_t, mp_C_isCurve_t, mp_C_isPlace_t, mp_C_isInput_t, mp_C_addStep_t, mp_C_settle_t, mp_C_refuseTooWide_t, mp_C_redraw_t, mp_C_drawLine_t, mp_C_drawCircle_t, mp_C_drawMiddle_t, mp_C_drawMeetingOfLines_t, mp_C_takeLine_t, mp_C_takeCommonLine_t, mp_C_measureCut_t, mp_C_drawCut_t, mp_C_liesOnLine_t, mp_C_coincide_t, mp_C_squareOfDistance_t, mp_C_place_t]
def mm_T2 : List mm_T := [mp_C_copyPlace_t, mp_C_xOf_t, mp_C_yOf_t, mp_C_lineA_t, mp_C_lineB_t, mp_C_lineC_t, mp_C_squareOf_t, mp_M_thrown_t, mp_M_divisor_t, mp_M_put_t, mp_M_add0_t, mp_M_sub0_t, mp_M_mul0_t, mp_M_neg0_t, mp_M_inv0_t, mp_M_sign0_t, mp_M_square_t, mp_M_root0_t, mp_M_set_t, mp_M_add_t]
def mm_T3 : List mm_T := [mp_M_sub_t, mp_M_neg_t, mp_M_halve_t, mp_M_isZero_t, mp_M_alike_t, mp_M_clear_t, mp_M_mul1_t, mp_M_norm1_t, mp_M_inv1_t, mp_M_sign1_t, mp_M_half1_t, mp_M_root1_t, mp_M_mul2_t, mp_M_norm2_t, mp_M_inv2_t, mp_M_sign2_t, mp_M_half2_t, mp_M_root2_t, mp_M_mul_t, mp_M_inv_t]
def mm_T4 : List mm_T := [mp_M_signOf_t, mp_M_root_t, mp_M_takeRoot_t, mp_M_xOf_t, mp_M_yOf_t, mp_M_work_t, mp_M_products_t, mp_M_cross_t, mp_M_squared_t, mp_M_makeLine_t, mp_M_makeMiddle_t, mp_M_meetLines_t, mp_M_meetCircle_t, mp_M_meetCircles_t, mp_M_makeMeeting_t, mp_M_make_t, mp_M_redraw_t, mp_M_isPoint_t, mp_M_kindOf_t, mp_M_fresh_t]
def mm_T5 : List mm_T := [mp_M_isFraction_t, mp_M_free_t, mp_M_line_t, mp_M_circle_t, mp_M_middle_t, mp_M_meet_t, mp_M_move_t, mp_M_become_t, mp_M_undo_t, mp_M_told_t, mp_M_on_t, mp_M_same_t, mp_M_equal_t, mp_M_angle_t, mp_M_side_t, mp_M_sign_t, mp_M_part_t, mp_M_radicand_t, mp_M_kind_t, mp_M_look_t]
def mm_T6 : List mm_T := [mp_N_radicandOf_t, mp_N_home_t, mp_N_begin_t, mp_N_read_t, mp_N_copy_t, mp_N_alike_t, mp_N_isNought_t, mp_N_whole_t, mp_N_quotient_t, mp_N_plus_t, mp_N_minus_t, mp_N_times_t, mp_N_negated_t, mp_N_halved_t, mp_N_inverted_t, mp_N_signum_t, mp_N_takeRoot_t, mp_N_newLevel_t, mp_N_reserve_t, mp_N_put_t]
def mm_T7 : List mm_T := [mp_N_pair_t, mp_N_isZero_t, mp_N_sum_t, mp_N_negative_t, mp_N_half_t, mp_N_product_t, mp_N_inverse_t, mp_N_signOf_t, mp_N_root_t, mp_N_rootOfFraction_t, mp_N_rootOfWhole_t, mp_L_free_t, mp_L_line_t, mp_L_circle_t, mp_L_middle_t, mp_L_meet_t, mp_L_move_t, mp_L_on_t, mp_L_same_t, mp_L_equal_t]
def mm_T8 : List mm_T := [mp_L_angle_t, mp_L_side_t, mp_L_sign_t, mp_L_part_t, mp_L_radicand_t, mp_J_compare_t]
def mm_Tb : List mm_T := mm_T0 ++ (mm_T1 ++ (mm_T2 ++ (mm_T3 ++ (mm_T4 ++ (mm_T5 ++ (mm_T6 ++ (mm_T7 ++ (mm_T8))))))))
theorem mt_0 : mm_Tb[0]? = some mp_C_free_t := rfl
theorem mt_1 : mm_Tb[1]? = some mp_C_line_t := rfl
theorem mt_2 : mm_Tb[2]? = some mp_C_circle_t := rfl
theorem mt_3 : mm_Tb[3]? = some mp_C_middle_t := rfl
theorem mt_4 : mm_Tb[4]? = some mp_C_meet_t := rfl
theorem mt_5 : mm_Tb[5]? = some mp_C_move_t := rfl
theorem mt_6 : mm_Tb[6]? = some mp_C_undo_t := rfl
theorem mt_7 : mm_Tb[7]? = some mp_C_on_t := rfl
theorem mt_8 : mm_Tb[8]? = some mp_C_same_t := rfl
theorem mt_9 : mm_Tb[9]? = some mp_C_equal_t := rfl
theorem mt_10 : mm_Tb[10]? = some mp_C_angle_t := rfl
theorem mt_11 : mm_Tb[11]? = some mp_C_side_t := rfl
theorem mt_12 : mm_Tb[12]? = some mp_C_sign_t := rfl
theorem mt_13 : mm_Tb[13]? = some mp_C_part_t := rfl
theorem mt_14 : mm_Tb[14]? = some mp_C_radicand_t := rfl
theorem mt_15 : mm_Tb[15]? = some mp_C_kind_t := rfl
theorem mt_16 : mm_Tb[16]? = some mp_C_look_t := rfl
theorem mt_17 : mm_Tb[17]? = some mp_C_countFreePoints_t := rfl
theorem mt_18 : mm_Tb[18]? = some mp_C_isPoint_t := rfl
theorem mt_19 : mm_Tb[19]? = some mp_C_isLine_t := rfl
theorem mt_20 : mm_Tb[20]? = some mp_C_isCircle_t := rfl
theorem mt_21 : mm_Tb[21]? = some mp_C_isCurve_t := rfl
theorem mt_22 : mm_Tb[22]? = some mp_C_isPlace_t := rfl
theorem mt_23 : mm_Tb[23]? = some mp_C_isInput_t := rfl
theorem mt_24 : mm_Tb[24]? = some mp_C_addStep_t := rfl
theorem mt_25 : mm_Tb[25]? = some mp_C_settle_t := rfl
theorem mt_26 : mm_Tb[26]? = some mp_C_refuseTooWide_t := rfl
theorem mt_27 : mm_Tb[27]? = some mp_C_redraw_t := rfl
theorem mt_28 : mm_Tb[28]? = some mp_C_drawLine_t := rfl
theorem mt_29 : mm_Tb[29]? = some mp_C_drawCircle_t := rfl
theorem mt_30 : mm_Tb[30]? = some mp_C_drawMiddle_t := rfl
theorem mt_31 : mm_Tb[31]? = some mp_C_drawMeetingOfLines_t := rfl
theorem mt_32 : mm_Tb[32]? = some mp_C_takeLine_t := rfl
theorem mt_33 : mm_Tb[33]? = some mp_C_takeCommonLine_t := rfl
theorem mt_34 : mm_Tb[34]? = some mp_C_measureCut_t := rfl
theorem mt_35 : mm_Tb[35]? = some mp_C_drawCut_t := rfl
theorem mt_36 : mm_Tb[36]? = some mp_C_liesOnLine_t := rfl
theorem mt_37 : mm_Tb[37]? = some mp_C_coincide_t := rfl
theorem mt_38 : mm_Tb[38]? = some mp_C_squareOfDistance_t := rfl
theorem mt_39 : mm_Tb[39]? = some mp_C_place_t := rfl
theorem mt_40 : mm_Tb[40]? = some mp_C_copyPlace_t := rfl
theorem mt_41 : mm_Tb[41]? = some mp_C_xOf_t := rfl
theorem mt_42 : mm_Tb[42]? = some mp_C_yOf_t := rfl
theorem mt_43 : mm_Tb[43]? = some mp_C_lineA_t := rfl
theorem mt_44 : mm_Tb[44]? = some mp_C_lineB_t := rfl
theorem mt_45 : mm_Tb[45]? = some mp_C_lineC_t := rfl
theorem mt_46 : mm_Tb[46]? = some mp_C_squareOf_t := rfl
theorem mt_47 : mm_Tb[47]? = some mp_M_thrown_t := rfl
theorem mt_48 : mm_Tb[48]? = some mp_M_divisor_t := rfl
theorem mt_49 : mm_Tb[49]? = some mp_M_put_t := rfl
theorem mt_50 : mm_Tb[50]? = some mp_M_add0_t := rfl
theorem mt_51 : mm_Tb[51]? = some mp_M_sub0_t := rfl
theorem mt_52 : mm_Tb[52]? = some mp_M_mul0_t := rfl
theorem mt_53 : mm_Tb[53]? = some mp_M_neg0_t := rfl
theorem mt_54 : mm_Tb[54]? = some mp_M_inv0_t := rfl
theorem mt_55 : mm_Tb[55]? = some mp_M_sign0_t := rfl
theorem mt_56 : mm_Tb[56]? = some mp_M_square_t := rfl
theorem mt_57 : mm_Tb[57]? = some mp_M_root0_t := rfl
theorem mt_58 : mm_Tb[58]? = some mp_M_set_t := rfl
theorem mt_59 : mm_Tb[59]? = some mp_M_add_t := rfl
theorem mt_60 : mm_Tb[60]? = some mp_M_sub_t := rfl
theorem mt_61 : mm_Tb[61]? = some mp_M_neg_t := rfl
theorem mt_62 : mm_Tb[62]? = some mp_M_halve_t := rfl
theorem mt_63 : mm_Tb[63]? = some mp_M_isZero_t := rfl
theorem mt_64 : mm_Tb[64]? = some mp_M_alike_t := rfl
theorem mt_65 : mm_Tb[65]? = some mp_M_clear_t := rfl
theorem mt_66 : mm_Tb[66]? = some mp_M_mul1_t := rfl
theorem mt_67 : mm_Tb[67]? = some mp_M_norm1_t := rfl
theorem mt_68 : mm_Tb[68]? = some mp_M_inv1_t := rfl
theorem mt_69 : mm_Tb[69]? = some mp_M_sign1_t := rfl
theorem mt_70 : mm_Tb[70]? = some mp_M_half1_t := rfl
theorem mt_71 : mm_Tb[71]? = some mp_M_root1_t := rfl
theorem mt_72 : mm_Tb[72]? = some mp_M_mul2_t := rfl
theorem mt_73 : mm_Tb[73]? = some mp_M_norm2_t := rfl
theorem mt_74 : mm_Tb[74]? = some mp_M_inv2_t := rfl
theorem mt_75 : mm_Tb[75]? = some mp_M_sign2_t := rfl
theorem mt_76 : mm_Tb[76]? = some mp_M_half2_t := rfl
theorem mt_77 : mm_Tb[77]? = some mp_M_root2_t := rfl
theorem mt_78 : mm_Tb[78]? = some mp_M_mul_t := rfl
theorem mt_79 : mm_Tb[79]? = some mp_M_inv_t := rfl
theorem mt_80 : mm_Tb[80]? = some mp_M_signOf_t := rfl
theorem mt_81 : mm_Tb[81]? = some mp_M_root_t := rfl
theorem mt_82 : mm_Tb[82]? = some mp_M_takeRoot_t := rfl
theorem mt_83 : mm_Tb[83]? = some mp_M_xOf_t := rfl
theorem mt_84 : mm_Tb[84]? = some mp_M_yOf_t := rfl
theorem mt_85 : mm_Tb[85]? = some mp_M_work_t := rfl
theorem mt_86 : mm_Tb[86]? = some mp_M_products_t := rfl
theorem mt_87 : mm_Tb[87]? = some mp_M_cross_t := rfl
theorem mt_88 : mm_Tb[88]? = some mp_M_squared_t := rfl
theorem mt_89 : mm_Tb[89]? = some mp_M_makeLine_t := rfl
theorem mt_90 : mm_Tb[90]? = some mp_M_makeMiddle_t := rfl
theorem mt_91 : mm_Tb[91]? = some mp_M_meetLines_t := rfl
theorem mt_92 : mm_Tb[92]? = some mp_M_meetCircle_t := rfl
theorem mt_93 : mm_Tb[93]? = some mp_M_meetCircles_t := rfl
theorem mt_94 : mm_Tb[94]? = some mp_M_makeMeeting_t := rfl
theorem mt_95 : mm_Tb[95]? = some mp_M_make_t := rfl
theorem mt_96 : mm_Tb[96]? = some mp_M_redraw_t := rfl
theorem mt_97 : mm_Tb[97]? = some mp_M_isPoint_t := rfl
theorem mt_98 : mm_Tb[98]? = some mp_M_kindOf_t := rfl
theorem mt_99 : mm_Tb[99]? = some mp_M_fresh_t := rfl
theorem mt_100 : mm_Tb[100]? = some mp_M_isFraction_t := rfl
theorem mt_101 : mm_Tb[101]? = some mp_M_free_t := rfl
theorem mt_102 : mm_Tb[102]? = some mp_M_line_t := rfl
theorem mt_103 : mm_Tb[103]? = some mp_M_circle_t := rfl
theorem mt_104 : mm_Tb[104]? = some mp_M_middle_t := rfl
theorem mt_105 : mm_Tb[105]? = some mp_M_meet_t := rfl
theorem mt_106 : mm_Tb[106]? = some mp_M_move_t := rfl
theorem mt_107 : mm_Tb[107]? = some mp_M_become_t := rfl
theorem mt_108 : mm_Tb[108]? = some mp_M_undo_t := rfl
theorem mt_109 : mm_Tb[109]? = some mp_M_told_t := rfl
theorem mt_110 : mm_Tb[110]? = some mp_M_on_t := rfl
theorem mt_111 : mm_Tb[111]? = some mp_M_same_t := rfl
theorem mt_112 : mm_Tb[112]? = some mp_M_equal_t := rfl
theorem mt_113 : mm_Tb[113]? = some mp_M_angle_t := rfl
theorem mt_114 : mm_Tb[114]? = some mp_M_side_t := rfl
theorem mt_115 : mm_Tb[115]? = some mp_M_sign_t := rfl
theorem mt_116 : mm_Tb[116]? = some mp_M_part_t := rfl
theorem mt_117 : mm_Tb[117]? = some mp_M_radicand_t := rfl
theorem mt_118 : mm_Tb[118]? = some mp_M_kind_t := rfl
theorem mt_119 : mm_Tb[119]? = some mp_M_look_t := rfl
theorem mt_120 : mm_Tb[120]? = some mp_N_radicandOf_t := rfl
theorem mt_121 : mm_Tb[121]? = some mp_N_home_t := rfl
theorem mt_122 : mm_Tb[122]? = some mp_N_begin_t := rfl
theorem mt_123 : mm_Tb[123]? = some mp_N_read_t := rfl
theorem mt_124 : mm_Tb[124]? = some mp_N_copy_t := rfl
theorem mt_125 : mm_Tb[125]? = some mp_N_alike_t := rfl
theorem mt_126 : mm_Tb[126]? = some mp_N_isNought_t := rfl
theorem mt_127 : mm_Tb[127]? = some mp_N_whole_t := rfl
theorem mt_128 : mm_Tb[128]? = some mp_N_quotient_t := rfl
theorem mt_129 : mm_Tb[129]? = some mp_N_plus_t := rfl
theorem mt_130 : mm_Tb[130]? = some mp_N_minus_t := rfl
theorem mt_131 : mm_Tb[131]? = some mp_N_times_t := rfl
theorem mt_132 : mm_Tb[132]? = some mp_N_negated_t := rfl
theorem mt_133 : mm_Tb[133]? = some mp_N_halved_t := rfl
theorem mt_134 : mm_Tb[134]? = some mp_N_inverted_t := rfl
theorem mt_135 : mm_Tb[135]? = some mp_N_signum_t := rfl
theorem mt_136 : mm_Tb[136]? = some mp_N_takeRoot_t := rfl
theorem mt_137 : mm_Tb[137]? = some mp_N_newLevel_t := rfl
theorem mt_138 : mm_Tb[138]? = some mp_N_reserve_t := rfl
theorem mt_139 : mm_Tb[139]? = some mp_N_put_t := rfl
theorem mt_140 : mm_Tb[140]? = some mp_N_pair_t := rfl
theorem mt_141 : mm_Tb[141]? = some mp_N_isZero_t := rfl
theorem mt_142 : mm_Tb[142]? = some mp_N_sum_t := rfl
theorem mt_143 : mm_Tb[143]? = some mp_N_negative_t := rfl
theorem mt_144 : mm_Tb[144]? = some mp_N_half_t := rfl
theorem mt_145 : mm_Tb[145]? = some mp_N_product_t := rfl
theorem mt_146 : mm_Tb[146]? = some mp_N_inverse_t := rfl
theorem mt_147 : mm_Tb[147]? = some mp_N_signOf_t := rfl
theorem mt_148 : mm_Tb[148]? = some mp_N_root_t := rfl
theorem mt_149 : mm_Tb[149]? = some mp_N_rootOfFraction_t := rfl
theorem mt_150 : mm_Tb[150]? = some mp_N_rootOfWhole_t := rfl
theorem mt_151 : mm_Tb[151]? = some mp_L_free_t := rfl
theorem mt_152 : mm_Tb[152]? = some mp_L_line_t := rfl
theorem mt_153 : mm_Tb[153]? = some mp_L_circle_t := rfl
theorem mt_154 : mm_Tb[154]? = some mp_L_middle_t := rfl
theorem mt_155 : mm_Tb[155]? = some mp_L_meet_t := rfl
theorem mt_156 : mm_Tb[156]? = some mp_L_move_t := rfl
theorem mt_157 : mm_Tb[157]? = some mp_L_on_t := rfl
theorem mt_158 : mm_Tb[158]? = some mp_L_same_t := rfl
theorem mt_159 : mm_Tb[159]? = some mp_L_equal_t := rfl
theorem mt_160 : mm_Tb[160]? = some mp_L_angle_t := rfl
theorem mt_161 : mm_Tb[161]? = some mp_L_side_t := rfl
theorem mt_162 : mm_Tb[162]? = some mp_L_sign_t := rfl
theorem mt_163 : mm_Tb[163]? = some mp_L_part_t := rfl
theorem mt_164 : mm_Tb[164]? = some mp_L_radicand_t := rfl
theorem mt_165 : mm_Tb[165]? = some mp_J_compare_t := rfl
