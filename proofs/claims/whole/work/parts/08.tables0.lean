/-! code tables 0, by program -/
def ltX0_init : List (Nat × pm_E) := [(0, .aload_n 0, 1, 0, 0, 0, 0, []), (4, .aload_n 0, 5, 0, 0, 0, 0, []), (5, .bipush 6, 7, 0, 0, 0, 6, []), (13, .iconst 0, 14, 0, 0, 0, 0, []), (14, .istore_n 1, 15, 0, 0, 0, 0, []), (15, .iload_n 1, 16, 0, 0, 0, 0, []), (16, .bipush 6, 18, 0, 0, 0, 6, []), (18, .if_icmp .ge 22, 21, 40, 0, 0, 0, []), (21, .aload_n 0, 22, 0, 0, 0, 0, []), (22, .getfield 11, 25, 0, 0, 0, 0, [(0, 0)]), (25, .iload_n 1, 26, 0, 0, 0, 0, []), (29, .dup, 30, 0, 0, 0, 0, []), (34, .iinc 1 1, 37, 0, 0, 0, 1, []), (37, .goto (-22), 40, 15, 0, 0, 0, []), (40, .aload_n 0, 41, 0, 0, 0, 0, []), (41, .bipush 16, 43, 0, 0, 0, 16, []), (49, .iconst 0, 50, 0, 0, 0, 0, []), (50, .istore_n 1, 51, 0, 0, 0, 0, []), (51, .iload_n 1, 52, 0, 0, 0, 0, []), (52, .bipush 16, 54, 0, 0, 0, 16, []), (54, .if_icmp .ge 22, 57, 76, 0, 0, 0, []), (57, .aload_n 0, 58, 0, 0, 0, 0, []), (58, .getfield 20, 61, 0, 1, 0, 0, [(0, 0)]), (61, .iload_n 1, 62, 0, 0, 0, 0, []), (65, .dup, 66, 0, 0, 0, 0, []), (70, .iinc 1 1, 73, 0, 0, 0, 1, []), (73, .goto (-22), 76, 51, 0, 0, 0, []), (76, .aload_n 0, 77, 0, 0, 0, 0, []), (80, .dup, 81, 0, 0, 0, 0, []), (87, .aload_n 0, 88, 0, 0, 0, 0, []), (91, .dup, 92, 0, 0, 0, 0, []), (98, .aload_n 0, 99, 0, 0, 0, 0, []), (99, .bipush 6, 101, 0, 0, 0, 6, []), (106, .aload_n 0, 107, 0, 0, 0, 0, []), (107, .getfield 11, 110, 0, 0, 0, 0, [(0, 0)]), (110, .iconst 0, 111, 0, 0, 0, 0, []), (111, .aaload, 112, 0, 0, 0, 0, []), (112, .iconst (-1), 113, 0, 0, 0, -1, []), (113, .putfield 39, 116, 4, 1, 0, 0, []), (116, .aload_n 0, 117, 0, 0, 0, 0, []), (117, .getfield 11, 120, 0, 0, 0, 0, [(0, 0)]), (120, .iconst 0, 121, 0, 0, 0, 0, []), (121, .aaload, 122, 0, 0, 0, 0, []), (122, .iconst 1, 123, 0, 0, 0, 1, []), (123, .putfield 43, 126, 4, 3, 0, 0, []), (126, .aload_n 0, 127, 0, 0, 0, 0, []), (127, .iconst 1, 128, 0, 0, 0, 1, []), (128, .putfield 46, 131, 0, 2, 0, 0, []), (131, .aload_n 0, 132, 0, 0, 0, 0, []), (132, .iconst 3, 133, 0, 0, 0, 3, []), (133, .putfield 49, 136, 0, 7, 0, 0, []), (136, .return_, 137, 0, 0, 0, 0, [])]
def tbX0_init : Nat → pm_E := pm_lk ltX0_init
theorem okX0_init : ∀ pc, (tbX0_init pc).1 = .nop ∨ pm_ok mX0_init pw_Ms pc (tbX0_init pc) := pm_lk_ok (by decide +kernel)
theorem nr_X0_init : mX0_init.2.2.2 = none := rfl
theorem tX0_init_0 : tbX0_init 0 = (.aload_n 0, 1, 0, 0, 0, 0, []) := rfl
theorem tX0_init_4 : tbX0_init 4 = (.aload_n 0, 5, 0, 0, 0, 0, []) := rfl
theorem tX0_init_5 : tbX0_init 5 = (.bipush 6, 7, 0, 0, 0, 6, []) := rfl
theorem tX0_init_13 : tbX0_init 13 = (.iconst 0, 14, 0, 0, 0, 0, []) := rfl
theorem tX0_init_14 : tbX0_init 14 = (.istore_n 1, 15, 0, 0, 0, 0, []) := rfl
theorem tX0_init_15 : tbX0_init 15 = (.iload_n 1, 16, 0, 0, 0, 0, []) := rfl
theorem tX0_init_16 : tbX0_init 16 = (.bipush 6, 18, 0, 0, 0, 6, []) := rfl
theorem tX0_init_18 : tbX0_init 18 = (.if_icmp .ge 22, 21, 40, 0, 0, 0, []) := rfl
theorem tX0_init_21 : tbX0_init 21 = (.aload_n 0, 22, 0, 0, 0, 0, []) := rfl
theorem tX0_init_22 : tbX0_init 22 = (.getfield 11, 25, 0, 0, 0, 0, [(0, 0)]) := rfl
theorem tX0_init_25 : tbX0_init 25 = (.iload_n 1, 26, 0, 0, 0, 0, []) := rfl
theorem tX0_init_29 : tbX0_init 29 = (.dup, 30, 0, 0, 0, 0, []) := rfl
theorem tX0_init_34 : tbX0_init 34 = (.iinc 1 1, 37, 0, 0, 0, 1, []) := rfl
theorem tX0_init_37 : tbX0_init 37 = (.goto (-22), 40, 15, 0, 0, 0, []) := rfl
theorem tX0_init_40 : tbX0_init 40 = (.aload_n 0, 41, 0, 0, 0, 0, []) := rfl
theorem tX0_init_41 : tbX0_init 41 = (.bipush 16, 43, 0, 0, 0, 16, []) := rfl
theorem tX0_init_49 : tbX0_init 49 = (.iconst 0, 50, 0, 0, 0, 0, []) := rfl
theorem tX0_init_50 : tbX0_init 50 = (.istore_n 1, 51, 0, 0, 0, 0, []) := rfl
theorem tX0_init_51 : tbX0_init 51 = (.iload_n 1, 52, 0, 0, 0, 0, []) := rfl
theorem tX0_init_52 : tbX0_init 52 = (.bipush 16, 54, 0, 0, 0, 16, []) := rfl
theorem tX0_init_54 : tbX0_init 54 = (.if_icmp .ge 22, 57, 76, 0, 0, 0, []) := rfl
theorem tX0_init_57 : tbX0_init 57 = (.aload_n 0, 58, 0, 0, 0, 0, []) := rfl
theorem tX0_init_58 : tbX0_init 58 = (.getfield 20, 61, 0, 1, 0, 0, [(0, 0)]) := rfl
theorem tX0_init_61 : tbX0_init 61 = (.iload_n 1, 62, 0, 0, 0, 0, []) := rfl
theorem tX0_init_65 : tbX0_init 65 = (.dup, 66, 0, 0, 0, 0, []) := rfl
theorem tX0_init_70 : tbX0_init 70 = (.iinc 1 1, 73, 0, 0, 0, 1, []) := rfl
theorem tX0_init_73 : tbX0_init 73 = (.goto (-22), 76, 51, 0, 0, 0, []) := rfl
theorem tX0_init_76 : tbX0_init 76 = (.aload_n 0, 77, 0, 0, 0, 0, []) := rfl
theorem tX0_init_80 : tbX0_init 80 = (.dup, 81, 0, 0, 0, 0, []) := rfl
theorem tX0_init_87 : tbX0_init 87 = (.aload_n 0, 88, 0, 0, 0, 0, []) := rfl
theorem tX0_init_91 : tbX0_init 91 = (.dup, 92, 0, 0, 0, 0, []) := rfl
theorem tX0_init_98 : tbX0_init 98 = (.aload_n 0, 99, 0, 0, 0, 0, []) := rfl
theorem tX0_init_99 : tbX0_init 99 = (.bipush 6, 101, 0, 0, 0, 6, []) := rfl
theorem tX0_init_106 : tbX0_init 106 = (.aload_n 0, 107, 0, 0, 0, 0, []) := rfl
theorem tX0_init_107 : tbX0_init 107 = (.getfield 11, 110, 0, 0, 0, 0, [(0, 0)]) := rfl
theorem tX0_init_110 : tbX0_init 110 = (.iconst 0, 111, 0, 0, 0, 0, []) := rfl
theorem tX0_init_111 : tbX0_init 111 = (.aaload, 112, 0, 0, 0, 0, []) := rfl
theorem tX0_init_112 : tbX0_init 112 = (.iconst (-1), 113, 0, 0, 0, -1, []) := rfl
theorem tX0_init_113 : tbX0_init 113 = (.putfield 39, 116, 4, 1, 0, 0, []) := rfl
theorem tX0_init_116 : tbX0_init 116 = (.aload_n 0, 117, 0, 0, 0, 0, []) := rfl
theorem tX0_init_117 : tbX0_init 117 = (.getfield 11, 120, 0, 0, 0, 0, [(0, 0)]) := rfl
theorem tX0_init_120 : tbX0_init 120 = (.iconst 0, 121, 0, 0, 0, 0, []) := rfl
theorem tX0_init_121 : tbX0_init 121 = (.aaload, 122, 0, 0, 0, 0, []) := rfl
theorem tX0_init_122 : tbX0_init 122 = (.iconst 1, 123, 0, 0, 0, 1, []) := rfl
theorem tX0_init_123 : tbX0_init 123 = (.putfield 43, 126, 4, 3, 0, 0, []) := rfl
theorem tX0_init_126 : tbX0_init 126 = (.aload_n 0, 127, 0, 0, 0, 0, []) := rfl
theorem tX0_init_127 : tbX0_init 127 = (.iconst 1, 128, 0, 0, 0, 1, []) := rfl
theorem tX0_init_128 : tbX0_init 128 = (.putfield 46, 131, 0, 2, 0, 0, []) := rfl
theorem tX0_init_131 : tbX0_init 131 = (.aload_n 0, 132, 0, 0, 0, 0, []) := rfl
theorem tX0_init_132 : tbX0_init 132 = (.iconst 3, 133, 0, 0, 0, 3, []) := rfl
theorem tX0_init_133 : tbX0_init 133 = (.putfield 49, 136, 0, 7, 0, 0, []) := rfl
theorem tX0_init_136 : tbX0_init 136 = (.return_, 137, 0, 0, 0, 0, []) := rfl
def ltX0_copyFrom : List (Nat × pm_E) := [(0, .iconst 0, 1, 0, 0, 0, 0, []), (1, .istore_n 2, 2, 0, 0, 0, 0, []), (2, .iload_n 2, 3, 0, 0, 0, 0, []), (3, .bipush 6, 5, 0, 0, 0, 6, []), (5, .if_icmp .ge 24, 8, 29, 0, 0, 0, []), (8, .aload_n 0, 9, 0, 0, 0, 0, []), (9, .getfield 11, 12, 0, 0, 0, 0, [(0, 0)]), (12, .iload_n 2, 13, 0, 0, 0, 0, []), (13, .aaload, 14, 0, 0, 0, 0, []), (14, .aload_n 1, 15, 0, 0, 0, 0, []), (15, .getfield 11, 18, 0, 0, 0, 0, [(0, 0)]), (18, .iload_n 2, 19, 0, 0, 0, 0, []), (19, .aaload, 20, 0, 0, 0, 0, []), (20, .invokevirtual 52, 23, 58, 1, 4, 0, []), (23, .iinc 2 1, 26, 0, 0, 0, 1, []), (26, .goto (-24), 29, 2, 0, 0, 0, []), (29, .iconst 0, 30, 0, 0, 0, 0, []), (30, .istore_n 2, 31, 0, 0, 0, 0, []), (31, .iload_n 2, 32, 0, 0, 0, 0, []), (32, .bipush 16, 34, 0, 0, 0, 16, []), (34, .if_icmp .ge 24, 37, 58, 0, 0, 0, []), (37, .aload_n 0, 38, 0, 0, 0, 0, []), (38, .getfield 20, 41, 0, 1, 0, 0, [(0, 0)]), (41, .iload_n 2, 42, 0, 0, 0, 0, []), (42, .aaload, 43, 0, 0, 0, 0, []), (43, .aload_n 1, 44, 0, 0, 0, 0, []), (44, .getfield 20, 47, 0, 1, 0, 0, [(0, 0)]), (47, .iload_n 2, 48, 0, 0, 0, 0, []), (48, .aaload, 49, 0, 0, 0, 0, []), (49, .invokevirtual 56, 52, 56, 1, 3, 0, []), (52, .iinc 2 1, 55, 0, 0, 0, 1, []), (55, .goto (-24), 58, 31, 0, 0, 0, []), (58, .aload_n 0, 59, 0, 0, 0, 0, []), (59, .aload_n 1, 60, 0, 0, 0, 0, []), (60, .getfield 46, 63, 0, 2, 0, 0, []), (63, .putfield 46, 66, 0, 2, 0, 0, []), (66, .aload_n 0, 67, 0, 0, 0, 0, []), (67, .aload_n 1, 68, 0, 0, 0, 0, []), (68, .getfield 59, 71, 0, 3, 0, 0, []), (71, .putfield 59, 74, 0, 3, 0, 0, []), (74, .aload_n 0, 75, 0, 0, 0, 0, []), (75, .aload_n 1, 76, 0, 0, 0, 0, []), (76, .getfield 62, 79, 0, 4, 0, 0, []), (79, .putfield 62, 82, 0, 4, 0, 0, []), (82, .aload_n 0, 83, 0, 0, 0, 0, []), (83, .aload_n 1, 84, 0, 0, 0, 0, []), (84, .getfield 65, 87, 0, 5, 0, 0, []), (87, .putfield 65, 90, 0, 5, 0, 0, []), (90, .aload_n 0, 91, 0, 0, 0, 0, []), (91, .aload_n 1, 92, 0, 0, 0, 0, []), (92, .getfield 68, 95, 0, 6, 0, 0, []), (95, .putfield 68, 98, 0, 6, 0, 0, []), (98, .aload_n 0, 99, 0, 0, 0, 0, []), (99, .aload_n 1, 100, 0, 0, 0, 0, []), (100, .getfield 49, 103, 0, 7, 0, 0, []), (103, .putfield 49, 106, 0, 7, 0, 0, []), (106, .aload_n 0, 107, 0, 0, 0, 0, []), (107, .aload_n 1, 108, 0, 0, 0, 0, []), (108, .getfield 71, 111, 0, 8, 0, 0, []), (111, .putfield 71, 114, 0, 8, 0, 0, []), (114, .aload_n 0, 115, 0, 0, 0, 0, []), (115, .getfield 28, 118, 0, 9, 0, 0, [(0, 0)]), (118, .aload_n 1, 119, 0, 0, 0, 0, []), (119, .getfield 28, 122, 0, 9, 0, 0, [(0, 0)]), (122, .invokevirtual 74, 125, 64, 1, 5, 0, []), (125, .aload_n 0, 126, 0, 0, 0, 0, []), (126, .getfield 32, 129, 0, 10, 0, 0, [(0, 0)]), (129, .aload_n 1, 130, 0, 0, 0, 0, []), (130, .getfield 32, 133, 0, 10, 0, 0, [(0, 0)]), (133, .invokevirtual 74, 136, 64, 1, 5, 0, []), (136, .return_, 137, 0, 0, 0, 0, [])]
def tbX0_copyFrom : Nat → pm_E := pm_lk ltX0_copyFrom
theorem okX0_copyFrom : ∀ pc, (tbX0_copyFrom pc).1 = .nop ∨ pm_ok mX0_copyFrom pw_Ms pc (tbX0_copyFrom pc) := pm_lk_ok (by decide +kernel)
theorem nr_X0_copyFrom : mX0_copyFrom.2.2.2 = none := rfl
theorem tX0_copyFrom_0 : tbX0_copyFrom 0 = (.iconst 0, 1, 0, 0, 0, 0, []) := rfl
theorem tX0_copyFrom_1 : tbX0_copyFrom 1 = (.istore_n 2, 2, 0, 0, 0, 0, []) := rfl
theorem tX0_copyFrom_2 : tbX0_copyFrom 2 = (.iload_n 2, 3, 0, 0, 0, 0, []) := rfl
theorem tX0_copyFrom_3 : tbX0_copyFrom 3 = (.bipush 6, 5, 0, 0, 0, 6, []) := rfl
theorem tX0_copyFrom_5 : tbX0_copyFrom 5 = (.if_icmp .ge 24, 8, 29, 0, 0, 0, []) := rfl
theorem tX0_copyFrom_8 : tbX0_copyFrom 8 = (.aload_n 0, 9, 0, 0, 0, 0, []) := rfl
theorem tX0_copyFrom_9 : tbX0_copyFrom 9 = (.getfield 11, 12, 0, 0, 0, 0, [(0, 0)]) := rfl
theorem tX0_copyFrom_12 : tbX0_copyFrom 12 = (.iload_n 2, 13, 0, 0, 0, 0, []) := rfl
theorem tX0_copyFrom_13 : tbX0_copyFrom 13 = (.aaload, 14, 0, 0, 0, 0, []) := rfl
theorem tX0_copyFrom_14 : tbX0_copyFrom 14 = (.aload_n 1, 15, 0, 0, 0, 0, []) := rfl
theorem tX0_copyFrom_15 : tbX0_copyFrom 15 = (.getfield 11, 18, 0, 0, 0, 0, [(0, 0)]) := rfl
theorem tX0_copyFrom_18 : tbX0_copyFrom 18 = (.iload_n 2, 19, 0, 0, 0, 0, []) := rfl
theorem tX0_copyFrom_19 : tbX0_copyFrom 19 = (.aaload, 20, 0, 0, 0, 0, []) := rfl
theorem tX0_copyFrom_20 : tbX0_copyFrom 20 = (.invokevirtual 52, 23, 58, 1, 4, 0, []) := rfl
theorem tX0_copyFrom_23 : tbX0_copyFrom 23 = (.iinc 2 1, 26, 0, 0, 0, 1, []) := rfl
theorem tX0_copyFrom_26 : tbX0_copyFrom 26 = (.goto (-24), 29, 2, 0, 0, 0, []) := rfl
theorem tX0_copyFrom_29 : tbX0_copyFrom 29 = (.iconst 0, 30, 0, 0, 0, 0, []) := rfl
theorem tX0_copyFrom_30 : tbX0_copyFrom 30 = (.istore_n 2, 31, 0, 0, 0, 0, []) := rfl
theorem tX0_copyFrom_31 : tbX0_copyFrom 31 = (.iload_n 2, 32, 0, 0, 0, 0, []) := rfl
theorem tX0_copyFrom_32 : tbX0_copyFrom 32 = (.bipush 16, 34, 0, 0, 0, 16, []) := rfl
theorem tX0_copyFrom_34 : tbX0_copyFrom 34 = (.if_icmp .ge 24, 37, 58, 0, 0, 0, []) := rfl
theorem tX0_copyFrom_37 : tbX0_copyFrom 37 = (.aload_n 0, 38, 0, 0, 0, 0, []) := rfl
theorem tX0_copyFrom_38 : tbX0_copyFrom 38 = (.getfield 20, 41, 0, 1, 0, 0, [(0, 0)]) := rfl
theorem tX0_copyFrom_41 : tbX0_copyFrom 41 = (.iload_n 2, 42, 0, 0, 0, 0, []) := rfl
theorem tX0_copyFrom_42 : tbX0_copyFrom 42 = (.aaload, 43, 0, 0, 0, 0, []) := rfl
theorem tX0_copyFrom_43 : tbX0_copyFrom 43 = (.aload_n 1, 44, 0, 0, 0, 0, []) := rfl
theorem tX0_copyFrom_44 : tbX0_copyFrom 44 = (.getfield 20, 47, 0, 1, 0, 0, [(0, 0)]) := rfl
theorem tX0_copyFrom_47 : tbX0_copyFrom 47 = (.iload_n 2, 48, 0, 0, 0, 0, []) := rfl
theorem tX0_copyFrom_48 : tbX0_copyFrom 48 = (.aaload, 49, 0, 0, 0, 0, []) := rfl
theorem tX0_copyFrom_49 : tbX0_copyFrom 49 = (.invokevirtual 56, 52, 56, 1, 3, 0, []) := rfl
theorem tX0_copyFrom_52 : tbX0_copyFrom 52 = (.iinc 2 1, 55, 0, 0, 0, 1, []) := rfl
theorem tX0_copyFrom_55 : tbX0_copyFrom 55 = (.goto (-24), 58, 31, 0, 0, 0, []) := rfl
theorem tX0_copyFrom_58 : tbX0_copyFrom 58 = (.aload_n 0, 59, 0, 0, 0, 0, []) := rfl
theorem tX0_copyFrom_59 : tbX0_copyFrom 59 = (.aload_n 1, 60, 0, 0, 0, 0, []) := rfl
theorem tX0_copyFrom_60 : tbX0_copyFrom 60 = (.getfield 46, 63, 0, 2, 0, 0, []) := rfl
theorem tX0_copyFrom_63 : tbX0_copyFrom 63 = (.putfield 46, 66, 0, 2, 0, 0, []) := rfl
theorem tX0_copyFrom_66 : tbX0_copyFrom 66 = (.aload_n 0, 67, 0, 0, 0, 0, []) := rfl
theorem tX0_copyFrom_67 : tbX0_copyFrom 67 = (.aload_n 1, 68, 0, 0, 0, 0, []) := rfl
theorem tX0_copyFrom_68 : tbX0_copyFrom 68 = (.getfield 59, 71, 0, 3, 0, 0, []) := rfl
theorem tX0_copyFrom_71 : tbX0_copyFrom 71 = (.putfield 59, 74, 0, 3, 0, 0, []) := rfl
theorem tX0_copyFrom_74 : tbX0_copyFrom 74 = (.aload_n 0, 75, 0, 0, 0, 0, []) := rfl
theorem tX0_copyFrom_75 : tbX0_copyFrom 75 = (.aload_n 1, 76, 0, 0, 0, 0, []) := rfl
theorem tX0_copyFrom_76 : tbX0_copyFrom 76 = (.getfield 62, 79, 0, 4, 0, 0, []) := rfl
theorem tX0_copyFrom_79 : tbX0_copyFrom 79 = (.putfield 62, 82, 0, 4, 0, 0, []) := rfl
theorem tX0_copyFrom_82 : tbX0_copyFrom 82 = (.aload_n 0, 83, 0, 0, 0, 0, []) := rfl
theorem tX0_copyFrom_83 : tbX0_copyFrom 83 = (.aload_n 1, 84, 0, 0, 0, 0, []) := rfl
theorem tX0_copyFrom_84 : tbX0_copyFrom 84 = (.getfield 65, 87, 0, 5, 0, 0, []) := rfl
theorem tX0_copyFrom_87 : tbX0_copyFrom 87 = (.putfield 65, 90, 0, 5, 0, 0, []) := rfl
theorem tX0_copyFrom_90 : tbX0_copyFrom 90 = (.aload_n 0, 91, 0, 0, 0, 0, []) := rfl
theorem tX0_copyFrom_91 : tbX0_copyFrom 91 = (.aload_n 1, 92, 0, 0, 0, 0, []) := rfl
theorem tX0_copyFrom_92 : tbX0_copyFrom 92 = (.getfield 68, 95, 0, 6, 0, 0, []) := rfl
theorem tX0_copyFrom_95 : tbX0_copyFrom 95 = (.putfield 68, 98, 0, 6, 0, 0, []) := rfl
theorem tX0_copyFrom_98 : tbX0_copyFrom 98 = (.aload_n 0, 99, 0, 0, 0, 0, []) := rfl
theorem tX0_copyFrom_99 : tbX0_copyFrom 99 = (.aload_n 1, 100, 0, 0, 0, 0, []) := rfl
theorem tX0_copyFrom_100 : tbX0_copyFrom 100 = (.getfield 49, 103, 0, 7, 0, 0, []) := rfl
theorem tX0_copyFrom_103 : tbX0_copyFrom 103 = (.putfield 49, 106, 0, 7, 0, 0, []) := rfl
theorem tX0_copyFrom_106 : tbX0_copyFrom 106 = (.aload_n 0, 107, 0, 0, 0, 0, []) := rfl
theorem tX0_copyFrom_107 : tbX0_copyFrom 107 = (.aload_n 1, 108, 0, 0, 0, 0, []) := rfl
theorem tX0_copyFrom_108 : tbX0_copyFrom 108 = (.getfield 71, 111, 0, 8, 0, 0, []) := rfl
theorem tX0_copyFrom_111 : tbX0_copyFrom 111 = (.putfield 71, 114, 0, 8, 0, 0, []) := rfl
theorem tX0_copyFrom_114 : tbX0_copyFrom 114 = (.aload_n 0, 115, 0, 0, 0, 0, []) := rfl
theorem tX0_copyFrom_115 : tbX0_copyFrom 115 = (.getfield 28, 118, 0, 9, 0, 0, [(0, 0)]) := rfl
theorem tX0_copyFrom_118 : tbX0_copyFrom 118 = (.aload_n 1, 119, 0, 0, 0, 0, []) := rfl
theorem tX0_copyFrom_119 : tbX0_copyFrom 119 = (.getfield 28, 122, 0, 9, 0, 0, [(0, 0)]) := rfl
theorem tX0_copyFrom_122 : tbX0_copyFrom 122 = (.invokevirtual 74, 125, 64, 1, 5, 0, []) := rfl
theorem tX0_copyFrom_125 : tbX0_copyFrom 125 = (.aload_n 0, 126, 0, 0, 0, 0, []) := rfl
theorem tX0_copyFrom_126 : tbX0_copyFrom 126 = (.getfield 32, 129, 0, 10, 0, 0, [(0, 0)]) := rfl
theorem tX0_copyFrom_129 : tbX0_copyFrom 129 = (.aload_n 1, 130, 0, 0, 0, 0, []) := rfl
theorem tX0_copyFrom_130 : tbX0_copyFrom 130 = (.getfield 32, 133, 0, 10, 0, 0, [(0, 0)]) := rfl
theorem tX0_copyFrom_133 : tbX0_copyFrom 133 = (.invokevirtual 74, 136, 64, 1, 5, 0, []) := rfl
theorem tX0_copyFrom_136 : tbX0_copyFrom 136 = (.return_, 137, 0, 0, 0, 0, []) := rfl
def ltX0_hasNode : List (Nat × pm_E) := [(0, .iload_n 1, 1, 0, 0, 0, 0, []), (1, .ifCond .lt 15, 4, 16, 0, 0, 0, []), (4, .iload_n 1, 5, 0, 0, 0, 0, []), (5, .aload_n 0, 6, 0, 0, 0, 0, []), (6, .getfield 46, 9, 0, 2, 0, 0, []), (9, .if_icmp .ge 7, 12, 16, 0, 0, 0, []), (12, .iconst 1, 13, 0, 0, 0, 1, []), (13, .goto 4, 16, 17, 0, 0, 0, []), (16, .iconst 0, 17, 0, 0, 0, 0, []), (17, .ireturn, 18, 0, 0, 0, 0, [])]
def tbX0_hasNode : Nat → pm_E := pm_lk ltX0_hasNode
theorem okX0_hasNode : ∀ pc, (tbX0_hasNode pc).1 = .nop ∨ pm_ok mX0_hasNode pw_Ms pc (tbX0_hasNode pc) := pm_lk_ok (by decide +kernel)
theorem nr_X0_hasNode : mX0_hasNode.2.2.2 = (some .boolean) := rfl
theorem tX0_hasNode_0 : tbX0_hasNode 0 = (.iload_n 1, 1, 0, 0, 0, 0, []) := rfl
theorem tX0_hasNode_1 : tbX0_hasNode 1 = (.ifCond .lt 15, 4, 16, 0, 0, 0, []) := rfl
theorem tX0_hasNode_4 : tbX0_hasNode 4 = (.iload_n 1, 5, 0, 0, 0, 0, []) := rfl
theorem tX0_hasNode_5 : tbX0_hasNode 5 = (.aload_n 0, 6, 0, 0, 0, 0, []) := rfl
theorem tX0_hasNode_6 : tbX0_hasNode 6 = (.getfield 46, 9, 0, 2, 0, 0, []) := rfl
theorem tX0_hasNode_9 : tbX0_hasNode 9 = (.if_icmp .ge 7, 12, 16, 0, 0, 0, []) := rfl
theorem tX0_hasNode_12 : tbX0_hasNode 12 = (.iconst 1, 13, 0, 0, 0, 1, []) := rfl
theorem tX0_hasNode_13 : tbX0_hasNode 13 = (.goto 4, 16, 17, 0, 0, 0, []) := rfl
theorem tX0_hasNode_16 : tbX0_hasNode 16 = (.iconst 0, 17, 0, 0, 0, 0, []) := rfl
theorem tX0_hasNode_17 : tbX0_hasNode 17 = (.ireturn, 18, 0, 0, 0, 0, []) := rfl
def ltX0_hasLine : List (Nat × pm_E) := [(0, .iload_n 1, 1, 0, 0, 0, 0, []), (1, .ifCond .lt 15, 4, 16, 0, 0, 0, []), (4, .iload_n 1, 5, 0, 0, 0, 0, []), (5, .aload_n 0, 6, 0, 0, 0, 0, []), (6, .getfield 59, 9, 0, 3, 0, 0, []), (9, .if_icmp .ge 7, 12, 16, 0, 0, 0, []), (12, .iconst 1, 13, 0, 0, 0, 1, []), (13, .goto 4, 16, 17, 0, 0, 0, []), (16, .iconst 0, 17, 0, 0, 0, 0, []), (17, .ireturn, 18, 0, 0, 0, 0, [])]
def tbX0_hasLine : Nat → pm_E := pm_lk ltX0_hasLine
theorem okX0_hasLine : ∀ pc, (tbX0_hasLine pc).1 = .nop ∨ pm_ok mX0_hasLine pw_Ms pc (tbX0_hasLine pc) := pm_lk_ok (by decide +kernel)
theorem nr_X0_hasLine : mX0_hasLine.2.2.2 = (some .boolean) := rfl
theorem tX0_hasLine_0 : tbX0_hasLine 0 = (.iload_n 1, 1, 0, 0, 0, 0, []) := rfl
theorem tX0_hasLine_1 : tbX0_hasLine 1 = (.ifCond .lt 15, 4, 16, 0, 0, 0, []) := rfl
theorem tX0_hasLine_4 : tbX0_hasLine 4 = (.iload_n 1, 5, 0, 0, 0, 0, []) := rfl
theorem tX0_hasLine_5 : tbX0_hasLine 5 = (.aload_n 0, 6, 0, 0, 0, 0, []) := rfl
theorem tX0_hasLine_6 : tbX0_hasLine 6 = (.getfield 59, 9, 0, 3, 0, 0, []) := rfl
theorem tX0_hasLine_9 : tbX0_hasLine 9 = (.if_icmp .ge 7, 12, 16, 0, 0, 0, []) := rfl
theorem tX0_hasLine_12 : tbX0_hasLine 12 = (.iconst 1, 13, 0, 0, 0, 1, []) := rfl
theorem tX0_hasLine_13 : tbX0_hasLine 13 = (.goto 4, 16, 17, 0, 0, 0, []) := rfl
theorem tX0_hasLine_16 : tbX0_hasLine 16 = (.iconst 0, 17, 0, 0, 0, 0, []) := rfl
theorem tX0_hasLine_17 : tbX0_hasLine 17 = (.ireturn, 18, 0, 0, 0, 0, []) := rfl
def ltX0_addNode : List (Nat × pm_E) := [(0, .aload_n 0, 1, 0, 0, 0, 0, []), (1, .iload_n 1, 2, 0, 0, 0, 0, []), (2, .invokevirtual 77, 5, 2, 1, 0, 0, []), (5, .ifCond .eq 10, 8, 15, 0, 0, 0, []), (8, .iload_n 2, 9, 0, 0, 0, 0, []), (9, .invokestatic 81, 12, 91, 1, 0, 0, []), (12, .ifCond .ne 5, 15, 17, 0, 0, 0, []), (15, .iconst (-1), 16, 0, 0, 0, -1, []), (16, .ireturn, 17, 0, 0, 0, 0, []), (17, .aload_n 0, 18, 0, 0, 0, 0, []), (18, .getfield 46, 21, 0, 2, 0, 0, []), (21, .bipush 6, 23, 0, 0, 0, 6, []), (23, .if_icmp .lt 6, 26, 29, 0, 0, 0, []), (26, .bipush (-3), 28, 0, 0, 0, -3, []), (28, .ireturn, 29, 0, 0, 0, 0, []), (29, .aload_n 0, 30, 0, 0, 0, 0, []), (30, .getfield 46, 33, 0, 2, 0, 0, []), (33, .istore_n 3, 34, 0, 0, 0, 0, []), (34, .aload_n 0, 35, 0, 0, 0, 0, []), (35, .getfield 11, 38, 0, 0, 0, 0, [(0, 0)]), (38, .iload_n 3, 39, 0, 0, 0, 0, []), (39, .aaload, 40, 0, 0, 0, 0, []), (40, .astore 4, 42, 0, 0, 0, 0, []), (42, .aload 4, 44, 0, 0, 0, 0, []), (44, .iload_n 1, 45, 0, 0, 0, 0, []), (45, .putfield 39, 48, 4, 1, 0, 0, []), (48, .aload 4, 50, 0, 0, 0, 0, []), (50, .iload_n 2, 51, 0, 0, 0, 0, []), (51, .iconst 1, 52, 0, 0, 0, 1, []), (52, .if_icmp .ne 7, 55, 59, 0, 0, 0, []), (55, .iconst 1, 56, 0, 0, 0, 1, []), (56, .goto 4, 59, 60, 0, 0, 0, []), (59, .iconst 0, 60, 0, 0, 0, 0, []), (60, .putfield 84, 63, 4, 2, 0, 0, [(0, 0)]), (63, .aload 4, 65, 0, 0, 0, 0, []), (65, .aload_n 0, 66, 0, 0, 0, 0, []), (66, .getfield 11, 69, 0, 0, 0, 0, [(0, 0)]), (69, .iload_n 1, 70, 0, 0, 0, 0, []), (70, .aaload, 71, 0, 0, 0, 0, []), (71, .getfield 43, 74, 4, 3, 0, 0, []), (74, .iconst 1, 75, 0, 0, 0, 1, []), (75, .iload_n 3, 76, 0, 0, 0, 0, []), (76, .ishl, 77, 0, 0, 0, 0, []), (77, .ior, 78, 0, 0, 0, 0, []), (78, .putfield 43, 81, 4, 3, 0, 0, []), (81, .aload_n 0, 82, 0, 0, 0, 0, []), (82, .getfield 11, 85, 0, 0, 0, 0, [(0, 0)]), (85, .iload_n 1, 86, 0, 0, 0, 0, []), (86, .aaload, 87, 0, 0, 0, 0, []), (87, .getfield 88, 90, 4, 0, 0, 0, [(0, 0)]), (90, .astore 5, 92, 0, 0, 0, 0, []), (92, .aload 5, 94, 0, 0, 0, 0, []), (94, .aload 5, 96, 0, 0, 0, 0, []), (96, .getfield 91, 99, 5, 1, 0, 0, []), (99, .bipush 100, 101, 0, 0, 0, 100, []), (101, .iload_n 3, 102, 0, 0, 0, 0, []), (102, .iadd, 103, 0, 0, 0, 0, []), (103, .invokevirtual 94, 106, 61, 2, 5, 0, []), (106, .aload_n 0, 107, 0, 0, 0, 0, []), (107, .dup, 108, 0, 0, 0, 0, []), (108, .getfield 46, 111, 0, 2, 0, 0, []), (111, .iconst 1, 112, 0, 0, 0, 1, []), (112, .iadd, 113, 0, 0, 0, 0, []), (113, .putfield 46, 116, 0, 2, 0, 0, []), (116, .iload_n 3, 117, 0, 0, 0, 0, []), (117, .ireturn, 118, 0, 0, 0, 0, [])]
def tbX0_addNode : Nat → pm_E := pm_lk ltX0_addNode
theorem okX0_addNode : ∀ pc, (tbX0_addNode pc).1 = .nop ∨ pm_ok mX0_addNode pw_Ms pc (tbX0_addNode pc) := pm_lk_ok (by decide +kernel)
theorem nr_X0_addNode : mX0_addNode.2.2.2 = (some .int) := rfl
theorem tX0_addNode_0 : tbX0_addNode 0 = (.aload_n 0, 1, 0, 0, 0, 0, []) := rfl
theorem tX0_addNode_1 : tbX0_addNode 1 = (.iload_n 1, 2, 0, 0, 0, 0, []) := rfl
theorem tX0_addNode_2 : tbX0_addNode 2 = (.invokevirtual 77, 5, 2, 1, 0, 0, []) := rfl
theorem tX0_addNode_5 : tbX0_addNode 5 = (.ifCond .eq 10, 8, 15, 0, 0, 0, []) := rfl
theorem tX0_addNode_8 : tbX0_addNode 8 = (.iload_n 2, 9, 0, 0, 0, 0, []) := rfl
theorem tX0_addNode_9 : tbX0_addNode 9 = (.invokestatic 81, 12, 91, 1, 0, 0, []) := rfl
theorem tX0_addNode_12 : tbX0_addNode 12 = (.ifCond .ne 5, 15, 17, 0, 0, 0, []) := rfl
theorem tX0_addNode_15 : tbX0_addNode 15 = (.iconst (-1), 16, 0, 0, 0, -1, []) := rfl
theorem tX0_addNode_16 : tbX0_addNode 16 = (.ireturn, 17, 0, 0, 0, 0, []) := rfl
theorem tX0_addNode_17 : tbX0_addNode 17 = (.aload_n 0, 18, 0, 0, 0, 0, []) := rfl
theorem tX0_addNode_18 : tbX0_addNode 18 = (.getfield 46, 21, 0, 2, 0, 0, []) := rfl
theorem tX0_addNode_21 : tbX0_addNode 21 = (.bipush 6, 23, 0, 0, 0, 6, []) := rfl
theorem tX0_addNode_23 : tbX0_addNode 23 = (.if_icmp .lt 6, 26, 29, 0, 0, 0, []) := rfl
theorem tX0_addNode_26 : tbX0_addNode 26 = (.bipush (-3), 28, 0, 0, 0, -3, []) := rfl
theorem tX0_addNode_28 : tbX0_addNode 28 = (.ireturn, 29, 0, 0, 0, 0, []) := rfl
theorem tX0_addNode_29 : tbX0_addNode 29 = (.aload_n 0, 30, 0, 0, 0, 0, []) := rfl
theorem tX0_addNode_30 : tbX0_addNode 30 = (.getfield 46, 33, 0, 2, 0, 0, []) := rfl
theorem tX0_addNode_33 : tbX0_addNode 33 = (.istore_n 3, 34, 0, 0, 0, 0, []) := rfl
theorem tX0_addNode_34 : tbX0_addNode 34 = (.aload_n 0, 35, 0, 0, 0, 0, []) := rfl
theorem tX0_addNode_35 : tbX0_addNode 35 = (.getfield 11, 38, 0, 0, 0, 0, [(0, 0)]) := rfl
theorem tX0_addNode_38 : tbX0_addNode 38 = (.iload_n 3, 39, 0, 0, 0, 0, []) := rfl
theorem tX0_addNode_39 : tbX0_addNode 39 = (.aaload, 40, 0, 0, 0, 0, []) := rfl
theorem tX0_addNode_40 : tbX0_addNode 40 = (.astore 4, 42, 0, 0, 0, 0, []) := rfl
theorem tX0_addNode_42 : tbX0_addNode 42 = (.aload 4, 44, 0, 0, 0, 0, []) := rfl
theorem tX0_addNode_44 : tbX0_addNode 44 = (.iload_n 1, 45, 0, 0, 0, 0, []) := rfl
theorem tX0_addNode_45 : tbX0_addNode 45 = (.putfield 39, 48, 4, 1, 0, 0, []) := rfl
theorem tX0_addNode_48 : tbX0_addNode 48 = (.aload 4, 50, 0, 0, 0, 0, []) := rfl
theorem tX0_addNode_50 : tbX0_addNode 50 = (.iload_n 2, 51, 0, 0, 0, 0, []) := rfl
theorem tX0_addNode_51 : tbX0_addNode 51 = (.iconst 1, 52, 0, 0, 0, 1, []) := rfl
theorem tX0_addNode_52 : tbX0_addNode 52 = (.if_icmp .ne 7, 55, 59, 0, 0, 0, []) := rfl
theorem tX0_addNode_55 : tbX0_addNode 55 = (.iconst 1, 56, 0, 0, 0, 1, []) := rfl
theorem tX0_addNode_56 : tbX0_addNode 56 = (.goto 4, 59, 60, 0, 0, 0, []) := rfl
theorem tX0_addNode_59 : tbX0_addNode 59 = (.iconst 0, 60, 0, 0, 0, 0, []) := rfl
theorem tX0_addNode_60 : tbX0_addNode 60 = (.putfield 84, 63, 4, 2, 0, 0, [(0, 0)]) := rfl
theorem tX0_addNode_63 : tbX0_addNode 63 = (.aload 4, 65, 0, 0, 0, 0, []) := rfl
theorem tX0_addNode_65 : tbX0_addNode 65 = (.aload_n 0, 66, 0, 0, 0, 0, []) := rfl
theorem tX0_addNode_66 : tbX0_addNode 66 = (.getfield 11, 69, 0, 0, 0, 0, [(0, 0)]) := rfl
theorem tX0_addNode_69 : tbX0_addNode 69 = (.iload_n 1, 70, 0, 0, 0, 0, []) := rfl
theorem tX0_addNode_70 : tbX0_addNode 70 = (.aaload, 71, 0, 0, 0, 0, []) := rfl
theorem tX0_addNode_71 : tbX0_addNode 71 = (.getfield 43, 74, 4, 3, 0, 0, []) := rfl
theorem tX0_addNode_74 : tbX0_addNode 74 = (.iconst 1, 75, 0, 0, 0, 1, []) := rfl
theorem tX0_addNode_75 : tbX0_addNode 75 = (.iload_n 3, 76, 0, 0, 0, 0, []) := rfl
theorem tX0_addNode_76 : tbX0_addNode 76 = (.ishl, 77, 0, 0, 0, 0, []) := rfl
theorem tX0_addNode_77 : tbX0_addNode 77 = (.ior, 78, 0, 0, 0, 0, []) := rfl
theorem tX0_addNode_78 : tbX0_addNode 78 = (.putfield 43, 81, 4, 3, 0, 0, []) := rfl
theorem tX0_addNode_81 : tbX0_addNode 81 = (.aload_n 0, 82, 0, 0, 0, 0, []) := rfl
theorem tX0_addNode_82 : tbX0_addNode 82 = (.getfield 11, 85, 0, 0, 0, 0, [(0, 0)]) := rfl
theorem tX0_addNode_85 : tbX0_addNode 85 = (.iload_n 1, 86, 0, 0, 0, 0, []) := rfl
theorem tX0_addNode_86 : tbX0_addNode 86 = (.aaload, 87, 0, 0, 0, 0, []) := rfl
theorem tX0_addNode_87 : tbX0_addNode 87 = (.getfield 88, 90, 4, 0, 0, 0, [(0, 0)]) := rfl
theorem tX0_addNode_90 : tbX0_addNode 90 = (.astore 5, 92, 0, 0, 0, 0, []) := rfl
theorem tX0_addNode_92 : tbX0_addNode 92 = (.aload 5, 94, 0, 0, 0, 0, []) := rfl
theorem tX0_addNode_94 : tbX0_addNode 94 = (.aload 5, 96, 0, 0, 0, 0, []) := rfl
theorem tX0_addNode_96 : tbX0_addNode 96 = (.getfield 91, 99, 5, 1, 0, 0, []) := rfl
theorem tX0_addNode_99 : tbX0_addNode 99 = (.bipush 100, 101, 0, 0, 0, 100, []) := rfl
theorem tX0_addNode_101 : tbX0_addNode 101 = (.iload_n 3, 102, 0, 0, 0, 0, []) := rfl
theorem tX0_addNode_102 : tbX0_addNode 102 = (.iadd, 103, 0, 0, 0, 0, []) := rfl
theorem tX0_addNode_103 : tbX0_addNode 103 = (.invokevirtual 94, 106, 61, 2, 5, 0, []) := rfl
theorem tX0_addNode_106 : tbX0_addNode 106 = (.aload_n 0, 107, 0, 0, 0, 0, []) := rfl
theorem tX0_addNode_107 : tbX0_addNode 107 = (.dup, 108, 0, 0, 0, 0, []) := rfl
theorem tX0_addNode_108 : tbX0_addNode 108 = (.getfield 46, 111, 0, 2, 0, 0, []) := rfl
theorem tX0_addNode_111 : tbX0_addNode 111 = (.iconst 1, 112, 0, 0, 0, 1, []) := rfl
theorem tX0_addNode_112 : tbX0_addNode 112 = (.iadd, 113, 0, 0, 0, 0, []) := rfl
theorem tX0_addNode_113 : tbX0_addNode 113 = (.putfield 46, 116, 0, 2, 0, 0, []) := rfl
theorem tX0_addNode_116 : tbX0_addNode 116 = (.iload_n 3, 117, 0, 0, 0, 0, []) := rfl
theorem tX0_addNode_117 : tbX0_addNode 117 = (.ireturn, 118, 0, 0, 0, 0, []) := rfl
def ltX0_addLine : List (Nat × pm_E) := [(0, .aload_n 0, 1, 0, 0, 0, 0, []), (1, .iload_n 1, 2, 0, 0, 0, 0, []), (2, .invokevirtual 77, 5, 2, 1, 0, 0, []), (5, .ifCond .eq 20, 8, 25, 0, 0, 0, []), (8, .iload_n 2, 9, 0, 0, 0, 0, []), (9, .ifCond .lt 16, 12, 25, 0, 0, 0, []), (12, .iload_n 2, 13, 0, 0, 0, 0, []), (13, .bipush 7, 15, 0, 0, 0, 7, []), (15, .if_icmp .gt 10, 18, 25, 0, 0, 0, []), (18, .iload_n 3, 19, 0, 0, 0, 0, []), (19, .invokestatic 81, 22, 91, 1, 0, 0, []), (22, .ifCond .ne 5, 25, 27, 0, 0, 0, []), (25, .iconst (-1), 26, 0, 0, 0, -1, []), (26, .ireturn, 27, 0, 0, 0, 0, []), (27, .aload_n 0, 28, 0, 0, 0, 0, []), (28, .getfield 59, 31, 0, 3, 0, 0, []), (31, .bipush 16, 33, 0, 0, 0, 16, []), (33, .if_icmp .lt 6, 36, 39, 0, 0, 0, []), (36, .bipush (-3), 38, 0, 0, 0, -3, []), (38, .ireturn, 39, 0, 0, 0, 0, []), (39, .aload_n 0, 40, 0, 0, 0, 0, []), (40, .getfield 59, 43, 0, 3, 0, 0, []), (43, .istore 4, 45, 0, 0, 0, 0, []), (45, .aload_n 0, 46, 0, 0, 0, 0, []), (46, .getfield 20, 49, 0, 1, 0, 0, [(0, 0)]), (49, .iload 4, 51, 0, 0, 0, 0, []), (51, .aaload, 52, 0, 0, 0, 0, []), (52, .astore 5, 54, 0, 0, 0, 0, []), (54, .aload 5, 56, 0, 0, 0, 0, []), (56, .iload_n 1, 57, 0, 0, 0, 0, []), (57, .putfield 98, 60, 3, 0, 0, 0, []), (60, .aload 5, 62, 0, 0, 0, 0, []), (62, .aload_n 0, 63, 0, 0, 0, 0, []), (63, .getfield 11, 66, 0, 0, 0, 0, [(0, 0)]), (66, .iload_n 1, 67, 0, 0, 0, 0, []), (67, .aaload, 68, 0, 0, 0, 0, []), (68, .getfield 43, 71, 4, 3, 0, 0, []), (71, .putfield 101, 74, 3, 12, 0, 0, []), (74, .aload 5, 76, 0, 0, 0, 0, []), (76, .iload_n 2, 77, 0, 0, 0, 0, []), (77, .putfield 102, 80, 3, 1, 0, 0, []), (80, .aload 5, 82, 0, 0, 0, 0, []), (82, .iload_n 3, 83, 0, 0, 0, 0, []), (83, .iconst 1, 84, 0, 0, 0, 1, []), (84, .if_icmp .ne 7, 87, 91, 0, 0, 0, []), (87, .iconst 1, 88, 0, 0, 0, 1, []), (88, .goto 4, 91, 92, 0, 0, 0, []), (91, .iconst 0, 92, 0, 0, 0, 0, []), (92, .putfield 105, 95, 3, 2, 0, 0, [(0, 0)]), (95, .aload_n 0, 96, 0, 0, 0, 0, []), (96, .getfield 11, 99, 0, 0, 0, 0, [(0, 0)]), (99, .iload_n 1, 100, 0, 0, 0, 0, []), (100, .aaload, 101, 0, 0, 0, 0, []), (101, .getfield 88, 104, 4, 0, 0, 0, [(0, 0)]), (104, .astore 6, 106, 0, 0, 0, 0, []), (106, .aload 6, 108, 0, 0, 0, 0, []), (108, .aload 6, 110, 0, 0, 0, 0, []), (110, .getfield 91, 113, 5, 1, 0, 0, []), (113, .iload 4, 115, 0, 0, 0, 0, []), (115, .invokevirtual 94, 118, 61, 2, 5, 0, []), (118, .aload_n 0, 119, 0, 0, 0, 0, []), (119, .dup, 120, 0, 0, 0, 0, []), (120, .getfield 59, 123, 0, 3, 0, 0, []), (123, .iconst 1, 124, 0, 0, 0, 1, []), (124, .iadd, 125, 0, 0, 0, 0, []), (125, .putfield 59, 128, 0, 3, 0, 0, []), (128, .iload 4, 130, 0, 0, 0, 0, []), (130, .ireturn, 131, 0, 0, 0, 0, [])]
def tbX0_addLine : Nat → pm_E := pm_lk ltX0_addLine
theorem okX0_addLine : ∀ pc, (tbX0_addLine pc).1 = .nop ∨ pm_ok mX0_addLine pw_Ms pc (tbX0_addLine pc) := pm_lk_ok (by decide +kernel)
theorem nr_X0_addLine : mX0_addLine.2.2.2 = (some .int) := rfl
theorem tX0_addLine_0 : tbX0_addLine 0 = (.aload_n 0, 1, 0, 0, 0, 0, []) := rfl
theorem tX0_addLine_1 : tbX0_addLine 1 = (.iload_n 1, 2, 0, 0, 0, 0, []) := rfl
theorem tX0_addLine_2 : tbX0_addLine 2 = (.invokevirtual 77, 5, 2, 1, 0, 0, []) := rfl
theorem tX0_addLine_5 : tbX0_addLine 5 = (.ifCond .eq 20, 8, 25, 0, 0, 0, []) := rfl
theorem tX0_addLine_8 : tbX0_addLine 8 = (.iload_n 2, 9, 0, 0, 0, 0, []) := rfl
theorem tX0_addLine_9 : tbX0_addLine 9 = (.ifCond .lt 16, 12, 25, 0, 0, 0, []) := rfl
theorem tX0_addLine_12 : tbX0_addLine 12 = (.iload_n 2, 13, 0, 0, 0, 0, []) := rfl
theorem tX0_addLine_13 : tbX0_addLine 13 = (.bipush 7, 15, 0, 0, 0, 7, []) := rfl
theorem tX0_addLine_15 : tbX0_addLine 15 = (.if_icmp .gt 10, 18, 25, 0, 0, 0, []) := rfl
theorem tX0_addLine_18 : tbX0_addLine 18 = (.iload_n 3, 19, 0, 0, 0, 0, []) := rfl
theorem tX0_addLine_19 : tbX0_addLine 19 = (.invokestatic 81, 22, 91, 1, 0, 0, []) := rfl
theorem tX0_addLine_22 : tbX0_addLine 22 = (.ifCond .ne 5, 25, 27, 0, 0, 0, []) := rfl
theorem tX0_addLine_25 : tbX0_addLine 25 = (.iconst (-1), 26, 0, 0, 0, -1, []) := rfl
theorem tX0_addLine_26 : tbX0_addLine 26 = (.ireturn, 27, 0, 0, 0, 0, []) := rfl
theorem tX0_addLine_27 : tbX0_addLine 27 = (.aload_n 0, 28, 0, 0, 0, 0, []) := rfl
theorem tX0_addLine_28 : tbX0_addLine 28 = (.getfield 59, 31, 0, 3, 0, 0, []) := rfl
theorem tX0_addLine_31 : tbX0_addLine 31 = (.bipush 16, 33, 0, 0, 0, 16, []) := rfl
theorem tX0_addLine_33 : tbX0_addLine 33 = (.if_icmp .lt 6, 36, 39, 0, 0, 0, []) := rfl
theorem tX0_addLine_36 : tbX0_addLine 36 = (.bipush (-3), 38, 0, 0, 0, -3, []) := rfl
theorem tX0_addLine_38 : tbX0_addLine 38 = (.ireturn, 39, 0, 0, 0, 0, []) := rfl
theorem tX0_addLine_39 : tbX0_addLine 39 = (.aload_n 0, 40, 0, 0, 0, 0, []) := rfl
theorem tX0_addLine_40 : tbX0_addLine 40 = (.getfield 59, 43, 0, 3, 0, 0, []) := rfl
theorem tX0_addLine_43 : tbX0_addLine 43 = (.istore 4, 45, 0, 0, 0, 0, []) := rfl
theorem tX0_addLine_45 : tbX0_addLine 45 = (.aload_n 0, 46, 0, 0, 0, 0, []) := rfl
theorem tX0_addLine_46 : tbX0_addLine 46 = (.getfield 20, 49, 0, 1, 0, 0, [(0, 0)]) := rfl
theorem tX0_addLine_49 : tbX0_addLine 49 = (.iload 4, 51, 0, 0, 0, 0, []) := rfl
theorem tX0_addLine_51 : tbX0_addLine 51 = (.aaload, 52, 0, 0, 0, 0, []) := rfl
theorem tX0_addLine_52 : tbX0_addLine 52 = (.astore 5, 54, 0, 0, 0, 0, []) := rfl
theorem tX0_addLine_54 : tbX0_addLine 54 = (.aload 5, 56, 0, 0, 0, 0, []) := rfl
theorem tX0_addLine_56 : tbX0_addLine 56 = (.iload_n 1, 57, 0, 0, 0, 0, []) := rfl
theorem tX0_addLine_57 : tbX0_addLine 57 = (.putfield 98, 60, 3, 0, 0, 0, []) := rfl
theorem tX0_addLine_60 : tbX0_addLine 60 = (.aload 5, 62, 0, 0, 0, 0, []) := rfl
theorem tX0_addLine_62 : tbX0_addLine 62 = (.aload_n 0, 63, 0, 0, 0, 0, []) := rfl
theorem tX0_addLine_63 : tbX0_addLine 63 = (.getfield 11, 66, 0, 0, 0, 0, [(0, 0)]) := rfl
theorem tX0_addLine_66 : tbX0_addLine 66 = (.iload_n 1, 67, 0, 0, 0, 0, []) := rfl
theorem tX0_addLine_67 : tbX0_addLine 67 = (.aaload, 68, 0, 0, 0, 0, []) := rfl
theorem tX0_addLine_68 : tbX0_addLine 68 = (.getfield 43, 71, 4, 3, 0, 0, []) := rfl
theorem tX0_addLine_71 : tbX0_addLine 71 = (.putfield 101, 74, 3, 12, 0, 0, []) := rfl
theorem tX0_addLine_74 : tbX0_addLine 74 = (.aload 5, 76, 0, 0, 0, 0, []) := rfl
theorem tX0_addLine_76 : tbX0_addLine 76 = (.iload_n 2, 77, 0, 0, 0, 0, []) := rfl
theorem tX0_addLine_77 : tbX0_addLine 77 = (.putfield 102, 80, 3, 1, 0, 0, []) := rfl
theorem tX0_addLine_80 : tbX0_addLine 80 = (.aload 5, 82, 0, 0, 0, 0, []) := rfl
theorem tX0_addLine_82 : tbX0_addLine 82 = (.iload_n 3, 83, 0, 0, 0, 0, []) := rfl
theorem tX0_addLine_83 : tbX0_addLine 83 = (.iconst 1, 84, 0, 0, 0, 1, []) := rfl
theorem tX0_addLine_84 : tbX0_addLine 84 = (.if_icmp .ne 7, 87, 91, 0, 0, 0, []) := rfl
theorem tX0_addLine_87 : tbX0_addLine 87 = (.iconst 1, 88, 0, 0, 0, 1, []) := rfl
theorem tX0_addLine_88 : tbX0_addLine 88 = (.goto 4, 91, 92, 0, 0, 0, []) := rfl
theorem tX0_addLine_91 : tbX0_addLine 91 = (.iconst 0, 92, 0, 0, 0, 0, []) := rfl
theorem tX0_addLine_92 : tbX0_addLine 92 = (.putfield 105, 95, 3, 2, 0, 0, [(0, 0)]) := rfl
theorem tX0_addLine_95 : tbX0_addLine 95 = (.aload_n 0, 96, 0, 0, 0, 0, []) := rfl
theorem tX0_addLine_96 : tbX0_addLine 96 = (.getfield 11, 99, 0, 0, 0, 0, [(0, 0)]) := rfl
theorem tX0_addLine_99 : tbX0_addLine 99 = (.iload_n 1, 100, 0, 0, 0, 0, []) := rfl
theorem tX0_addLine_100 : tbX0_addLine 100 = (.aaload, 101, 0, 0, 0, 0, []) := rfl
theorem tX0_addLine_101 : tbX0_addLine 101 = (.getfield 88, 104, 4, 0, 0, 0, [(0, 0)]) := rfl
theorem tX0_addLine_104 : tbX0_addLine 104 = (.astore 6, 106, 0, 0, 0, 0, []) := rfl
theorem tX0_addLine_106 : tbX0_addLine 106 = (.aload 6, 108, 0, 0, 0, 0, []) := rfl
theorem tX0_addLine_108 : tbX0_addLine 108 = (.aload 6, 110, 0, 0, 0, 0, []) := rfl
theorem tX0_addLine_110 : tbX0_addLine 110 = (.getfield 91, 113, 5, 1, 0, 0, []) := rfl
theorem tX0_addLine_113 : tbX0_addLine 113 = (.iload 4, 115, 0, 0, 0, 0, []) := rfl
theorem tX0_addLine_115 : tbX0_addLine 115 = (.invokevirtual 94, 118, 61, 2, 5, 0, []) := rfl
theorem tX0_addLine_118 : tbX0_addLine 118 = (.aload_n 0, 119, 0, 0, 0, 0, []) := rfl
theorem tX0_addLine_119 : tbX0_addLine 119 = (.dup, 120, 0, 0, 0, 0, []) := rfl
theorem tX0_addLine_120 : tbX0_addLine 120 = (.getfield 59, 123, 0, 3, 0, 0, []) := rfl
theorem tX0_addLine_123 : tbX0_addLine 123 = (.iconst 1, 124, 0, 0, 0, 1, []) := rfl
theorem tX0_addLine_124 : tbX0_addLine 124 = (.iadd, 125, 0, 0, 0, 0, []) := rfl
theorem tX0_addLine_125 : tbX0_addLine 125 = (.putfield 59, 128, 0, 3, 0, 0, []) := rfl
theorem tX0_addLine_128 : tbX0_addLine 128 = (.iload 4, 130, 0, 0, 0, 0, []) := rfl
theorem tX0_addLine_130 : tbX0_addLine 130 = (.ireturn, 131, 0, 0, 0, 0, []) := rfl
def ltX0_setLineMask : List (Nat × pm_E) := [(0, .aload_n 0, 1, 0, 0, 0, 0, []), (1, .iload_n 1, 2, 0, 0, 0, 0, []), (2, .invokevirtual 108, 5, 3, 1, 0, 0, []), (5, .ifCond .eq 10, 8, 15, 0, 0, 0, []), (8, .iload_n 2, 9, 0, 0, 0, 0, []), (9, .invokestatic 81, 12, 91, 1, 0, 0, []), (12, .ifCond .ne 5, 15, 17, 0, 0, 0, []), (15, .iconst (-1), 16, 0, 0, 0, -1, []), (16, .ireturn, 17, 0, 0, 0, 0, []), (17, .aload_n 0, 18, 0, 0, 0, 0, []), (18, .getfield 20, 21, 0, 1, 0, 0, [(0, 0)]), (21, .iload_n 1, 22, 0, 0, 0, 0, []), (22, .aaload, 23, 0, 0, 0, 0, []), (23, .getfield 111, 26, 3, 4, 0, 0, []), (26, .iload_n 2, 27, 0, 0, 0, 0, []), (27, .iconst 1, 28, 0, 0, 0, 1, []), (28, .if_icmp .ne 7, 31, 35, 0, 0, 0, []), (31, .iconst 1, 32, 0, 0, 0, 1, []), (32, .goto 4, 35, 36, 0, 0, 0, []), (35, .iconst 0, 36, 0, 0, 0, 0, []), (36, .if_icmp .ne 6, 39, 42, 0, 0, 0, []), (39, .bipush (-2), 41, 0, 0, 0, -2, []), (41, .ireturn, 42, 0, 0, 0, 0, []), (42, .aload_n 0, 43, 0, 0, 0, 0, []), (43, .getfield 20, 46, 0, 1, 0, 0, [(0, 0)]), (46, .iload_n 1, 47, 0, 0, 0, 0, []), (47, .aaload, 48, 0, 0, 0, 0, []), (48, .iload_n 2, 49, 0, 0, 0, 0, []), (49, .iconst 1, 50, 0, 0, 0, 1, []), (50, .if_icmp .ne 7, 53, 57, 0, 0, 0, []), (53, .iconst 1, 54, 0, 0, 0, 1, []), (54, .goto 4, 57, 58, 0, 0, 0, []), (57, .iconst 0, 58, 0, 0, 0, 0, []), (58, .putfield 111, 61, 3, 4, 0, 0, [(0, 0)]), (61, .aload_n 0, 62, 0, 0, 0, 0, []), (62, .invokevirtual 114, 65, 26, 0, 0, 0, []), (65, .invokestatic 118, 68, 156, 1, 0, 0, []), (68, .ireturn, 69, 0, 0, 0, 0, [])]
def tbX0_setLineMask : Nat → pm_E := pm_lk ltX0_setLineMask
theorem okX0_setLineMask : ∀ pc, (tbX0_setLineMask pc).1 = .nop ∨ pm_ok mX0_setLineMask pw_Ms pc (tbX0_setLineMask pc) := pm_lk_ok (by decide +kernel)
theorem nr_X0_setLineMask : mX0_setLineMask.2.2.2 = (some .int) := rfl
theorem tX0_setLineMask_0 : tbX0_setLineMask 0 = (.aload_n 0, 1, 0, 0, 0, 0, []) := rfl
theorem tX0_setLineMask_1 : tbX0_setLineMask 1 = (.iload_n 1, 2, 0, 0, 0, 0, []) := rfl
theorem tX0_setLineMask_2 : tbX0_setLineMask 2 = (.invokevirtual 108, 5, 3, 1, 0, 0, []) := rfl
theorem tX0_setLineMask_5 : tbX0_setLineMask 5 = (.ifCond .eq 10, 8, 15, 0, 0, 0, []) := rfl
theorem tX0_setLineMask_8 : tbX0_setLineMask 8 = (.iload_n 2, 9, 0, 0, 0, 0, []) := rfl
theorem tX0_setLineMask_9 : tbX0_setLineMask 9 = (.invokestatic 81, 12, 91, 1, 0, 0, []) := rfl
theorem tX0_setLineMask_12 : tbX0_setLineMask 12 = (.ifCond .ne 5, 15, 17, 0, 0, 0, []) := rfl
theorem tX0_setLineMask_15 : tbX0_setLineMask 15 = (.iconst (-1), 16, 0, 0, 0, -1, []) := rfl
theorem tX0_setLineMask_16 : tbX0_setLineMask 16 = (.ireturn, 17, 0, 0, 0, 0, []) := rfl
theorem tX0_setLineMask_17 : tbX0_setLineMask 17 = (.aload_n 0, 18, 0, 0, 0, 0, []) := rfl
theorem tX0_setLineMask_18 : tbX0_setLineMask 18 = (.getfield 20, 21, 0, 1, 0, 0, [(0, 0)]) := rfl
theorem tX0_setLineMask_21 : tbX0_setLineMask 21 = (.iload_n 1, 22, 0, 0, 0, 0, []) := rfl
theorem tX0_setLineMask_22 : tbX0_setLineMask 22 = (.aaload, 23, 0, 0, 0, 0, []) := rfl
theorem tX0_setLineMask_23 : tbX0_setLineMask 23 = (.getfield 111, 26, 3, 4, 0, 0, []) := rfl
theorem tX0_setLineMask_26 : tbX0_setLineMask 26 = (.iload_n 2, 27, 0, 0, 0, 0, []) := rfl
theorem tX0_setLineMask_27 : tbX0_setLineMask 27 = (.iconst 1, 28, 0, 0, 0, 1, []) := rfl
theorem tX0_setLineMask_28 : tbX0_setLineMask 28 = (.if_icmp .ne 7, 31, 35, 0, 0, 0, []) := rfl
theorem tX0_setLineMask_31 : tbX0_setLineMask 31 = (.iconst 1, 32, 0, 0, 0, 1, []) := rfl
theorem tX0_setLineMask_32 : tbX0_setLineMask 32 = (.goto 4, 35, 36, 0, 0, 0, []) := rfl
theorem tX0_setLineMask_35 : tbX0_setLineMask 35 = (.iconst 0, 36, 0, 0, 0, 0, []) := rfl
theorem tX0_setLineMask_36 : tbX0_setLineMask 36 = (.if_icmp .ne 6, 39, 42, 0, 0, 0, []) := rfl
theorem tX0_setLineMask_39 : tbX0_setLineMask 39 = (.bipush (-2), 41, 0, 0, 0, -2, []) := rfl
theorem tX0_setLineMask_41 : tbX0_setLineMask 41 = (.ireturn, 42, 0, 0, 0, 0, []) := rfl
theorem tX0_setLineMask_42 : tbX0_setLineMask 42 = (.aload_n 0, 43, 0, 0, 0, 0, []) := rfl
theorem tX0_setLineMask_43 : tbX0_setLineMask 43 = (.getfield 20, 46, 0, 1, 0, 0, [(0, 0)]) := rfl
theorem tX0_setLineMask_46 : tbX0_setLineMask 46 = (.iload_n 1, 47, 0, 0, 0, 0, []) := rfl
theorem tX0_setLineMask_47 : tbX0_setLineMask 47 = (.aaload, 48, 0, 0, 0, 0, []) := rfl
theorem tX0_setLineMask_48 : tbX0_setLineMask 48 = (.iload_n 2, 49, 0, 0, 0, 0, []) := rfl
theorem tX0_setLineMask_49 : tbX0_setLineMask 49 = (.iconst 1, 50, 0, 0, 0, 1, []) := rfl
theorem tX0_setLineMask_50 : tbX0_setLineMask 50 = (.if_icmp .ne 7, 53, 57, 0, 0, 0, []) := rfl
theorem tX0_setLineMask_53 : tbX0_setLineMask 53 = (.iconst 1, 54, 0, 0, 0, 1, []) := rfl
theorem tX0_setLineMask_54 : tbX0_setLineMask 54 = (.goto 4, 57, 58, 0, 0, 0, []) := rfl
theorem tX0_setLineMask_57 : tbX0_setLineMask 57 = (.iconst 0, 58, 0, 0, 0, 0, []) := rfl
theorem tX0_setLineMask_58 : tbX0_setLineMask 58 = (.putfield 111, 61, 3, 4, 0, 0, [(0, 0)]) := rfl
theorem tX0_setLineMask_61 : tbX0_setLineMask 61 = (.aload_n 0, 62, 0, 0, 0, 0, []) := rfl
theorem tX0_setLineMask_62 : tbX0_setLineMask 62 = (.invokevirtual 114, 65, 26, 0, 0, 0, []) := rfl
theorem tX0_setLineMask_65 : tbX0_setLineMask 65 = (.invokestatic 118, 68, 156, 1, 0, 0, []) := rfl
theorem tX0_setLineMask_68 : tbX0_setLineMask 68 = (.ireturn, 69, 0, 0, 0, 0, []) := rfl
def ltX0_setNodeMask : List (Nat × pm_E) := [(0, .aload_n 0, 1, 0, 0, 0, 0, []), (1, .iload_n 1, 2, 0, 0, 0, 0, []), (2, .invokevirtual 77, 5, 2, 1, 0, 0, []), (5, .ifCond .eq 10, 8, 15, 0, 0, 0, []), (8, .iload_n 2, 9, 0, 0, 0, 0, []), (9, .invokestatic 81, 12, 91, 1, 0, 0, []), (12, .ifCond .ne 5, 15, 17, 0, 0, 0, []), (15, .iconst (-1), 16, 0, 0, 0, -1, []), (16, .ireturn, 17, 0, 0, 0, 0, []), (17, .aload_n 0, 18, 0, 0, 0, 0, []), (18, .getfield 62, 21, 0, 4, 0, 0, []), (21, .iload_n 1, 22, 0, 0, 0, 0, []), (22, .ishr, 23, 0, 0, 0, 0, []), (23, .iconst 1, 24, 0, 0, 0, 1, []), (24, .iand, 25, 0, 0, 0, 0, []), (25, .iload_n 2, 26, 0, 0, 0, 0, []), (26, .if_icmp .ne 6, 29, 32, 0, 0, 0, []), (29, .bipush (-2), 31, 0, 0, 0, -2, []), (31, .ireturn, 32, 0, 0, 0, 0, []), (32, .aload_n 0, 33, 0, 0, 0, 0, []), (33, .dup, 34, 0, 0, 0, 0, []), (34, .getfield 62, 37, 0, 4, 0, 0, []), (37, .iconst 1, 38, 0, 0, 0, 1, []), (38, .iload_n 1, 39, 0, 0, 0, 0, []), (39, .ishl, 40, 0, 0, 0, 0, []), (40, .ixor, 41, 0, 0, 0, 0, []), (41, .putfield 62, 44, 0, 4, 0, 0, []), (44, .aload_n 0, 45, 0, 0, 0, 0, []), (45, .iload_n 1, 46, 0, 0, 0, 0, []), (46, .invokevirtual 124, 49, 28, 1, 0, 0, []), (49, .invokestatic 118, 52, 156, 1, 0, 0, []), (52, .ireturn, 53, 0, 0, 0, 0, [])]
def tbX0_setNodeMask : Nat → pm_E := pm_lk ltX0_setNodeMask
theorem okX0_setNodeMask : ∀ pc, (tbX0_setNodeMask pc).1 = .nop ∨ pm_ok mX0_setNodeMask pw_Ms pc (tbX0_setNodeMask pc) := pm_lk_ok (by decide +kernel)
theorem nr_X0_setNodeMask : mX0_setNodeMask.2.2.2 = (some .int) := rfl
theorem tX0_setNodeMask_0 : tbX0_setNodeMask 0 = (.aload_n 0, 1, 0, 0, 0, 0, []) := rfl
theorem tX0_setNodeMask_1 : tbX0_setNodeMask 1 = (.iload_n 1, 2, 0, 0, 0, 0, []) := rfl
theorem tX0_setNodeMask_2 : tbX0_setNodeMask 2 = (.invokevirtual 77, 5, 2, 1, 0, 0, []) := rfl
theorem tX0_setNodeMask_5 : tbX0_setNodeMask 5 = (.ifCond .eq 10, 8, 15, 0, 0, 0, []) := rfl
theorem tX0_setNodeMask_8 : tbX0_setNodeMask 8 = (.iload_n 2, 9, 0, 0, 0, 0, []) := rfl
theorem tX0_setNodeMask_9 : tbX0_setNodeMask 9 = (.invokestatic 81, 12, 91, 1, 0, 0, []) := rfl
theorem tX0_setNodeMask_12 : tbX0_setNodeMask 12 = (.ifCond .ne 5, 15, 17, 0, 0, 0, []) := rfl
theorem tX0_setNodeMask_15 : tbX0_setNodeMask 15 = (.iconst (-1), 16, 0, 0, 0, -1, []) := rfl
theorem tX0_setNodeMask_16 : tbX0_setNodeMask 16 = (.ireturn, 17, 0, 0, 0, 0, []) := rfl
theorem tX0_setNodeMask_17 : tbX0_setNodeMask 17 = (.aload_n 0, 18, 0, 0, 0, 0, []) := rfl
theorem tX0_setNodeMask_18 : tbX0_setNodeMask 18 = (.getfield 62, 21, 0, 4, 0, 0, []) := rfl
theorem tX0_setNodeMask_21 : tbX0_setNodeMask 21 = (.iload_n 1, 22, 0, 0, 0, 0, []) := rfl
theorem tX0_setNodeMask_22 : tbX0_setNodeMask 22 = (.ishr, 23, 0, 0, 0, 0, []) := rfl
theorem tX0_setNodeMask_23 : tbX0_setNodeMask 23 = (.iconst 1, 24, 0, 0, 0, 1, []) := rfl
theorem tX0_setNodeMask_24 : tbX0_setNodeMask 24 = (.iand, 25, 0, 0, 0, 0, []) := rfl
theorem tX0_setNodeMask_25 : tbX0_setNodeMask 25 = (.iload_n 2, 26, 0, 0, 0, 0, []) := rfl
theorem tX0_setNodeMask_26 : tbX0_setNodeMask 26 = (.if_icmp .ne 6, 29, 32, 0, 0, 0, []) := rfl
theorem tX0_setNodeMask_29 : tbX0_setNodeMask 29 = (.bipush (-2), 31, 0, 0, 0, -2, []) := rfl
theorem tX0_setNodeMask_31 : tbX0_setNodeMask 31 = (.ireturn, 32, 0, 0, 0, 0, []) := rfl
theorem tX0_setNodeMask_32 : tbX0_setNodeMask 32 = (.aload_n 0, 33, 0, 0, 0, 0, []) := rfl
theorem tX0_setNodeMask_33 : tbX0_setNodeMask 33 = (.dup, 34, 0, 0, 0, 0, []) := rfl
theorem tX0_setNodeMask_34 : tbX0_setNodeMask 34 = (.getfield 62, 37, 0, 4, 0, 0, []) := rfl
theorem tX0_setNodeMask_37 : tbX0_setNodeMask 37 = (.iconst 1, 38, 0, 0, 0, 1, []) := rfl
theorem tX0_setNodeMask_38 : tbX0_setNodeMask 38 = (.iload_n 1, 39, 0, 0, 0, 0, []) := rfl
theorem tX0_setNodeMask_39 : tbX0_setNodeMask 39 = (.ishl, 40, 0, 0, 0, 0, []) := rfl
theorem tX0_setNodeMask_40 : tbX0_setNodeMask 40 = (.ixor, 41, 0, 0, 0, 0, []) := rfl
theorem tX0_setNodeMask_41 : tbX0_setNodeMask 41 = (.putfield 62, 44, 0, 4, 0, 0, []) := rfl
theorem tX0_setNodeMask_44 : tbX0_setNodeMask 44 = (.aload_n 0, 45, 0, 0, 0, 0, []) := rfl
theorem tX0_setNodeMask_45 : tbX0_setNodeMask 45 = (.iload_n 1, 46, 0, 0, 0, 0, []) := rfl
theorem tX0_setNodeMask_46 : tbX0_setNodeMask 46 = (.invokevirtual 124, 49, 28, 1, 0, 0, []) := rfl
theorem tX0_setNodeMask_49 : tbX0_setNodeMask 49 = (.invokestatic 118, 52, 156, 1, 0, 0, []) := rfl
theorem tX0_setNodeMask_52 : tbX0_setNodeMask 52 = (.ireturn, 53, 0, 0, 0, 0, []) := rfl
def ltX0_setThreshold : List (Nat × pm_E) := [(0, .iload_n 1, 1, 0, 0, 0, 0, []), (1, .ifCond .lt 9, 4, 10, 0, 0, 0, []), (4, .iload_n 1, 5, 0, 0, 0, 0, []), (5, .bipush 8, 7, 0, 0, 0, 8, []), (7, .if_icmp .le 5, 10, 12, 0, 0, 0, []), (10, .iconst (-1), 11, 0, 0, 0, -1, []), (11, .ireturn, 12, 0, 0, 0, 0, []), (12, .aload_n 0, 13, 0, 0, 0, 0, []), (13, .getfield 68, 16, 0, 6, 0, 0, []), (16, .istore_n 2, 17, 0, 0, 0, 0, []), (17, .aload_n 0, 18, 0, 0, 0, 0, []), (18, .iload_n 1, 19, 0, 0, 0, 0, []), (19, .putfield 68, 22, 0, 6, 0, 0, []), (22, .iload_n 2, 23, 0, 0, 0, 0, []), (23, .ireturn, 24, 0, 0, 0, 0, [])]
def tbX0_setThreshold : Nat → pm_E := pm_lk ltX0_setThreshold
theorem okX0_setThreshold : ∀ pc, (tbX0_setThreshold pc).1 = .nop ∨ pm_ok mX0_setThreshold pw_Ms pc (tbX0_setThreshold pc) := pm_lk_ok (by decide +kernel)
theorem nr_X0_setThreshold : mX0_setThreshold.2.2.2 = (some .int) := rfl
theorem tX0_setThreshold_0 : tbX0_setThreshold 0 = (.iload_n 1, 1, 0, 0, 0, 0, []) := rfl
theorem tX0_setThreshold_1 : tbX0_setThreshold 1 = (.ifCond .lt 9, 4, 10, 0, 0, 0, []) := rfl
theorem tX0_setThreshold_4 : tbX0_setThreshold 4 = (.iload_n 1, 5, 0, 0, 0, 0, []) := rfl
theorem tX0_setThreshold_5 : tbX0_setThreshold 5 = (.bipush 8, 7, 0, 0, 0, 8, []) := rfl
theorem tX0_setThreshold_7 : tbX0_setThreshold 7 = (.if_icmp .le 5, 10, 12, 0, 0, 0, []) := rfl
theorem tX0_setThreshold_10 : tbX0_setThreshold 10 = (.iconst (-1), 11, 0, 0, 0, -1, []) := rfl
theorem tX0_setThreshold_11 : tbX0_setThreshold 11 = (.ireturn, 12, 0, 0, 0, 0, []) := rfl
theorem tX0_setThreshold_12 : tbX0_setThreshold 12 = (.aload_n 0, 13, 0, 0, 0, 0, []) := rfl
theorem tX0_setThreshold_13 : tbX0_setThreshold 13 = (.getfield 68, 16, 0, 6, 0, 0, []) := rfl
theorem tX0_setThreshold_16 : tbX0_setThreshold 16 = (.istore_n 2, 17, 0, 0, 0, 0, []) := rfl
theorem tX0_setThreshold_17 : tbX0_setThreshold 17 = (.aload_n 0, 18, 0, 0, 0, 0, []) := rfl
theorem tX0_setThreshold_18 : tbX0_setThreshold 18 = (.iload_n 1, 19, 0, 0, 0, 0, []) := rfl
theorem tX0_setThreshold_19 : tbX0_setThreshold 19 = (.putfield 68, 22, 0, 6, 0, 0, []) := rfl
theorem tX0_setThreshold_22 : tbX0_setThreshold 22 = (.iload_n 2, 23, 0, 0, 0, 0, []) := rfl
theorem tX0_setThreshold_23 : tbX0_setThreshold 23 = (.ireturn, 24, 0, 0, 0, 0, []) := rfl
def ltX0_setLate : List (Nat × pm_E) := [(0, .iload_n 1, 1, 0, 0, 0, 0, []), (1, .ifCond .lt 9, 4, 10, 0, 0, 0, []), (4, .iload_n 1, 5, 0, 0, 0, 0, []), (5, .bipush 50, 7, 0, 0, 0, 50, []), (7, .if_icmp .le 5, 10, 12, 0, 0, 0, []), (10, .iconst (-1), 11, 0, 0, 0, -1, []), (11, .ireturn, 12, 0, 0, 0, 0, []), (12, .aload_n 0, 13, 0, 0, 0, 0, []), (13, .getfield 49, 16, 0, 7, 0, 0, []), (16, .istore_n 2, 17, 0, 0, 0, 0, []), (17, .aload_n 0, 18, 0, 0, 0, 0, []), (18, .iload_n 1, 19, 0, 0, 0, 0, []), (19, .putfield 49, 22, 0, 7, 0, 0, []), (22, .iload_n 2, 23, 0, 0, 0, 0, []), (23, .ireturn, 24, 0, 0, 0, 0, [])]
def tbX0_setLate : Nat → pm_E := pm_lk ltX0_setLate
theorem okX0_setLate : ∀ pc, (tbX0_setLate pc).1 = .nop ∨ pm_ok mX0_setLate pw_Ms pc (tbX0_setLate pc) := pm_lk_ok (by decide +kernel)
theorem nr_X0_setLate : mX0_setLate.2.2.2 = (some .int) := rfl
theorem tX0_setLate_0 : tbX0_setLate 0 = (.iload_n 1, 1, 0, 0, 0, 0, []) := rfl
theorem tX0_setLate_1 : tbX0_setLate 1 = (.ifCond .lt 9, 4, 10, 0, 0, 0, []) := rfl
theorem tX0_setLate_4 : tbX0_setLate 4 = (.iload_n 1, 5, 0, 0, 0, 0, []) := rfl
theorem tX0_setLate_5 : tbX0_setLate 5 = (.bipush 50, 7, 0, 0, 0, 50, []) := rfl
theorem tX0_setLate_7 : tbX0_setLate 7 = (.if_icmp .le 5, 10, 12, 0, 0, 0, []) := rfl
theorem tX0_setLate_10 : tbX0_setLate 10 = (.iconst (-1), 11, 0, 0, 0, -1, []) := rfl
theorem tX0_setLate_11 : tbX0_setLate 11 = (.ireturn, 12, 0, 0, 0, 0, []) := rfl
theorem tX0_setLate_12 : tbX0_setLate 12 = (.aload_n 0, 13, 0, 0, 0, 0, []) := rfl
theorem tX0_setLate_13 : tbX0_setLate 13 = (.getfield 49, 16, 0, 7, 0, 0, []) := rfl
theorem tX0_setLate_16 : tbX0_setLate 16 = (.istore_n 2, 17, 0, 0, 0, 0, []) := rfl
theorem tX0_setLate_17 : tbX0_setLate 17 = (.aload_n 0, 18, 0, 0, 0, 0, []) := rfl
theorem tX0_setLate_18 : tbX0_setLate 18 = (.iload_n 1, 19, 0, 0, 0, 0, []) := rfl
theorem tX0_setLate_19 : tbX0_setLate 19 = (.putfield 49, 22, 0, 7, 0, 0, []) := rfl
theorem tX0_setLate_22 : tbX0_setLate 22 = (.iload_n 2, 23, 0, 0, 0, 0, []) := rfl
theorem tX0_setLate_23 : tbX0_setLate 23 = (.ireturn, 24, 0, 0, 0, 0, []) := rfl
def ltX0_giveEdge : List (Nat × pm_E) := [(0, .aload_n 0, 1, 0, 0, 0, 0, []), (1, .iload_n 1, 2, 0, 0, 0, 0, []), (2, .invokevirtual 108, 5, 3, 1, 0, 0, []), (5, .ifCond .ne 5, 8, 10, 0, 0, 0, []), (8, .iconst (-1), 9, 0, 0, 0, -1, []), (9, .ireturn, 10, 0, 0, 0, 0, []), (10, .aload_n 0, 11, 0, 0, 0, 0, []), (11, .getfield 20, 14, 0, 1, 0, 0, [(0, 0)]), (14, .iload_n 1, 15, 0, 0, 0, 0, []), (15, .aaload, 16, 0, 0, 0, 0, []), (16, .astore_n 2, 17, 0, 0, 0, 0, []), (17, .aload_n 2, 18, 0, 0, 0, 0, []), (18, .getfield 105, 21, 3, 2, 0, 0, []), (21, .ifCond .eq 6, 24, 27, 0, 0, 0, []), (24, .bipush (-2), 26, 0, 0, 0, -2, []), (26, .ireturn, 27, 0, 0, 0, 0, []), (27, .aload_n 2, 28, 0, 0, 0, 0, []), (28, .dup, 29, 0, 0, 0, 0, []), (29, .getfield 127, 32, 3, 6, 0, 0, []), (32, .iconst 1, 33, 0, 0, 0, 1, []), (33, .iadd, 34, 0, 0, 0, 0, []), (34, .putfield 127, 37, 3, 6, 0, 0, []), (37, .aload_n 2, 38, 0, 0, 0, 0, []), (38, .getfield 130, 41, 3, 3, 0, 0, []), (41, .ifCond .eq 15, 44, 56, 0, 0, 0, []), (44, .aload_n 2, 45, 0, 0, 0, 0, []), (45, .dup, 46, 0, 0, 0, 0, []), (46, .getfield 133, 49, 3, 7, 0, 0, []), (49, .iconst 1, 50, 0, 0, 0, 1, []), (50, .iadd, 51, 0, 0, 0, 0, []), (51, .putfield 133, 54, 3, 7, 0, 0, []), (54, .iconst 0, 55, 0, 0, 0, 0, []), (55, .ireturn, 56, 0, 0, 0, 0, []), (56, .aload_n 2, 57, 0, 0, 0, 0, []), (57, .iconst 1, 58, 0, 0, 0, 1, []), (58, .putfield 130, 61, 3, 3, 0, 0, [(0, 0)]), (61, .aload_n 2, 62, 0, 0, 0, 0, []), (62, .aload_n 0, 63, 0, 0, 0, 0, []), (63, .getfield 65, 66, 0, 5, 0, 0, []), (66, .putfield 136, 69, 3, 10, 0, 0, []), (69, .iconst 1, 70, 0, 0, 0, 1, []), (70, .ireturn, 71, 0, 0, 0, 0, [])]
def tbX0_giveEdge : Nat → pm_E := pm_lk ltX0_giveEdge
theorem okX0_giveEdge : ∀ pc, (tbX0_giveEdge pc).1 = .nop ∨ pm_ok mX0_giveEdge pw_Ms pc (tbX0_giveEdge pc) := pm_lk_ok (by decide +kernel)
theorem nr_X0_giveEdge : mX0_giveEdge.2.2.2 = (some .int) := rfl
theorem tX0_giveEdge_0 : tbX0_giveEdge 0 = (.aload_n 0, 1, 0, 0, 0, 0, []) := rfl
theorem tX0_giveEdge_1 : tbX0_giveEdge 1 = (.iload_n 1, 2, 0, 0, 0, 0, []) := rfl
theorem tX0_giveEdge_2 : tbX0_giveEdge 2 = (.invokevirtual 108, 5, 3, 1, 0, 0, []) := rfl
theorem tX0_giveEdge_5 : tbX0_giveEdge 5 = (.ifCond .ne 5, 8, 10, 0, 0, 0, []) := rfl
theorem tX0_giveEdge_8 : tbX0_giveEdge 8 = (.iconst (-1), 9, 0, 0, 0, -1, []) := rfl
theorem tX0_giveEdge_9 : tbX0_giveEdge 9 = (.ireturn, 10, 0, 0, 0, 0, []) := rfl
theorem tX0_giveEdge_10 : tbX0_giveEdge 10 = (.aload_n 0, 11, 0, 0, 0, 0, []) := rfl
theorem tX0_giveEdge_11 : tbX0_giveEdge 11 = (.getfield 20, 14, 0, 1, 0, 0, [(0, 0)]) := rfl
theorem tX0_giveEdge_14 : tbX0_giveEdge 14 = (.iload_n 1, 15, 0, 0, 0, 0, []) := rfl
theorem tX0_giveEdge_15 : tbX0_giveEdge 15 = (.aaload, 16, 0, 0, 0, 0, []) := rfl
theorem tX0_giveEdge_16 : tbX0_giveEdge 16 = (.astore_n 2, 17, 0, 0, 0, 0, []) := rfl
theorem tX0_giveEdge_17 : tbX0_giveEdge 17 = (.aload_n 2, 18, 0, 0, 0, 0, []) := rfl
theorem tX0_giveEdge_18 : tbX0_giveEdge 18 = (.getfield 105, 21, 3, 2, 0, 0, []) := rfl
theorem tX0_giveEdge_21 : tbX0_giveEdge 21 = (.ifCond .eq 6, 24, 27, 0, 0, 0, []) := rfl
theorem tX0_giveEdge_24 : tbX0_giveEdge 24 = (.bipush (-2), 26, 0, 0, 0, -2, []) := rfl
theorem tX0_giveEdge_26 : tbX0_giveEdge 26 = (.ireturn, 27, 0, 0, 0, 0, []) := rfl
theorem tX0_giveEdge_27 : tbX0_giveEdge 27 = (.aload_n 2, 28, 0, 0, 0, 0, []) := rfl
theorem tX0_giveEdge_28 : tbX0_giveEdge 28 = (.dup, 29, 0, 0, 0, 0, []) := rfl
theorem tX0_giveEdge_29 : tbX0_giveEdge 29 = (.getfield 127, 32, 3, 6, 0, 0, []) := rfl
theorem tX0_giveEdge_32 : tbX0_giveEdge 32 = (.iconst 1, 33, 0, 0, 0, 1, []) := rfl
theorem tX0_giveEdge_33 : tbX0_giveEdge 33 = (.iadd, 34, 0, 0, 0, 0, []) := rfl
theorem tX0_giveEdge_34 : tbX0_giveEdge 34 = (.putfield 127, 37, 3, 6, 0, 0, []) := rfl
theorem tX0_giveEdge_37 : tbX0_giveEdge 37 = (.aload_n 2, 38, 0, 0, 0, 0, []) := rfl
theorem tX0_giveEdge_38 : tbX0_giveEdge 38 = (.getfield 130, 41, 3, 3, 0, 0, []) := rfl
theorem tX0_giveEdge_41 : tbX0_giveEdge 41 = (.ifCond .eq 15, 44, 56, 0, 0, 0, []) := rfl
theorem tX0_giveEdge_44 : tbX0_giveEdge 44 = (.aload_n 2, 45, 0, 0, 0, 0, []) := rfl
theorem tX0_giveEdge_45 : tbX0_giveEdge 45 = (.dup, 46, 0, 0, 0, 0, []) := rfl
theorem tX0_giveEdge_46 : tbX0_giveEdge 46 = (.getfield 133, 49, 3, 7, 0, 0, []) := rfl
theorem tX0_giveEdge_49 : tbX0_giveEdge 49 = (.iconst 1, 50, 0, 0, 0, 1, []) := rfl
theorem tX0_giveEdge_50 : tbX0_giveEdge 50 = (.iadd, 51, 0, 0, 0, 0, []) := rfl
theorem tX0_giveEdge_51 : tbX0_giveEdge 51 = (.putfield 133, 54, 3, 7, 0, 0, []) := rfl
theorem tX0_giveEdge_54 : tbX0_giveEdge 54 = (.iconst 0, 55, 0, 0, 0, 0, []) := rfl
theorem tX0_giveEdge_55 : tbX0_giveEdge 55 = (.ireturn, 56, 0, 0, 0, 0, []) := rfl
theorem tX0_giveEdge_56 : tbX0_giveEdge 56 = (.aload_n 2, 57, 0, 0, 0, 0, []) := rfl
theorem tX0_giveEdge_57 : tbX0_giveEdge 57 = (.iconst 1, 58, 0, 0, 0, 1, []) := rfl
theorem tX0_giveEdge_58 : tbX0_giveEdge 58 = (.putfield 130, 61, 3, 3, 0, 0, [(0, 0)]) := rfl
theorem tX0_giveEdge_61 : tbX0_giveEdge 61 = (.aload_n 2, 62, 0, 0, 0, 0, []) := rfl
theorem tX0_giveEdge_62 : tbX0_giveEdge 62 = (.aload_n 0, 63, 0, 0, 0, 0, []) := rfl
theorem tX0_giveEdge_63 : tbX0_giveEdge 63 = (.getfield 65, 66, 0, 5, 0, 0, []) := rfl
theorem tX0_giveEdge_66 : tbX0_giveEdge 66 = (.putfield 136, 69, 3, 10, 0, 0, []) := rfl
theorem tX0_giveEdge_69 : tbX0_giveEdge 69 = (.iconst 1, 70, 0, 0, 0, 1, []) := rfl
theorem tX0_giveEdge_70 : tbX0_giveEdge 70 = (.ireturn, 71, 0, 0, 0, 0, []) := rfl
def ltX0_setLevel : List (Nat × pm_E) := [(0, .aload_n 0, 1, 0, 0, 0, 0, []), (1, .iload_n 1, 2, 0, 0, 0, 0, []), (2, .invokevirtual 108, 5, 3, 1, 0, 0, []), (5, .ifCond .eq 10, 8, 15, 0, 0, 0, []), (8, .iload_n 2, 9, 0, 0, 0, 0, []), (9, .invokestatic 81, 12, 91, 1, 0, 0, []), (12, .ifCond .ne 5, 15, 17, 0, 0, 0, []), (15, .iconst (-1), 16, 0, 0, 0, -1, []), (16, .ireturn, 17, 0, 0, 0, 0, []), (17, .aload_n 0, 18, 0, 0, 0, 0, []), (18, .getfield 20, 21, 0, 1, 0, 0, [(0, 0)]), (21, .iload_n 1, 22, 0, 0, 0, 0, []), (22, .aaload, 23, 0, 0, 0, 0, []), (23, .astore_n 3, 24, 0, 0, 0, 0, []), (24, .aload_n 3, 25, 0, 0, 0, 0, []), (25, .getfield 105, 28, 3, 2, 0, 0, []), (28, .ifCond .eq 20, 31, 48, 0, 0, 0, []), (31, .aload_n 3, 32, 0, 0, 0, 0, []), (32, .getfield 130, 35, 3, 3, 0, 0, []), (35, .iload_n 2, 36, 0, 0, 0, 0, []), (36, .iconst 1, 37, 0, 0, 0, 1, []), (37, .if_icmp .ne 7, 40, 44, 0, 0, 0, []), (40, .iconst 1, 41, 0, 0, 0, 1, []), (41, .goto 4, 44, 45, 0, 0, 0, []), (44, .iconst 0, 45, 0, 0, 0, 0, []), (45, .if_icmp .ne 6, 48, 51, 0, 0, 0, []), (48, .bipush (-2), 50, 0, 0, 0, -2, []), (50, .ireturn, 51, 0, 0, 0, 0, []), (51, .aload_n 3, 52, 0, 0, 0, 0, []), (52, .iload_n 2, 53, 0, 0, 0, 0, []), (53, .iconst 1, 54, 0, 0, 0, 1, []), (54, .if_icmp .ne 7, 57, 61, 0, 0, 0, []), (57, .iconst 1, 58, 0, 0, 0, 1, []), (58, .goto 4, 61, 62, 0, 0, 0, []), (61, .iconst 0, 62, 0, 0, 0, 0, []), (62, .putfield 130, 65, 3, 3, 0, 0, [(0, 0)]), (65, .aload_n 0, 66, 0, 0, 0, 0, []), (66, .invokevirtual 139, 69, 23, 0, 0, 0, []), (69, .invokestatic 118, 72, 156, 1, 0, 0, []), (72, .ireturn, 73, 0, 0, 0, 0, [])]
def tbX0_setLevel : Nat → pm_E := pm_lk ltX0_setLevel
theorem okX0_setLevel : ∀ pc, (tbX0_setLevel pc).1 = .nop ∨ pm_ok mX0_setLevel pw_Ms pc (tbX0_setLevel pc) := pm_lk_ok (by decide +kernel)
theorem nr_X0_setLevel : mX0_setLevel.2.2.2 = (some .int) := rfl
theorem tX0_setLevel_0 : tbX0_setLevel 0 = (.aload_n 0, 1, 0, 0, 0, 0, []) := rfl
theorem tX0_setLevel_1 : tbX0_setLevel 1 = (.iload_n 1, 2, 0, 0, 0, 0, []) := rfl
theorem tX0_setLevel_2 : tbX0_setLevel 2 = (.invokevirtual 108, 5, 3, 1, 0, 0, []) := rfl
theorem tX0_setLevel_5 : tbX0_setLevel 5 = (.ifCond .eq 10, 8, 15, 0, 0, 0, []) := rfl
theorem tX0_setLevel_8 : tbX0_setLevel 8 = (.iload_n 2, 9, 0, 0, 0, 0, []) := rfl
theorem tX0_setLevel_9 : tbX0_setLevel 9 = (.invokestatic 81, 12, 91, 1, 0, 0, []) := rfl
theorem tX0_setLevel_12 : tbX0_setLevel 12 = (.ifCond .ne 5, 15, 17, 0, 0, 0, []) := rfl
theorem tX0_setLevel_15 : tbX0_setLevel 15 = (.iconst (-1), 16, 0, 0, 0, -1, []) := rfl
theorem tX0_setLevel_16 : tbX0_setLevel 16 = (.ireturn, 17, 0, 0, 0, 0, []) := rfl
theorem tX0_setLevel_17 : tbX0_setLevel 17 = (.aload_n 0, 18, 0, 0, 0, 0, []) := rfl
theorem tX0_setLevel_18 : tbX0_setLevel 18 = (.getfield 20, 21, 0, 1, 0, 0, [(0, 0)]) := rfl
theorem tX0_setLevel_21 : tbX0_setLevel 21 = (.iload_n 1, 22, 0, 0, 0, 0, []) := rfl
theorem tX0_setLevel_22 : tbX0_setLevel 22 = (.aaload, 23, 0, 0, 0, 0, []) := rfl
theorem tX0_setLevel_23 : tbX0_setLevel 23 = (.astore_n 3, 24, 0, 0, 0, 0, []) := rfl
theorem tX0_setLevel_24 : tbX0_setLevel 24 = (.aload_n 3, 25, 0, 0, 0, 0, []) := rfl
theorem tX0_setLevel_25 : tbX0_setLevel 25 = (.getfield 105, 28, 3, 2, 0, 0, []) := rfl
theorem tX0_setLevel_28 : tbX0_setLevel 28 = (.ifCond .eq 20, 31, 48, 0, 0, 0, []) := rfl
theorem tX0_setLevel_31 : tbX0_setLevel 31 = (.aload_n 3, 32, 0, 0, 0, 0, []) := rfl
theorem tX0_setLevel_32 : tbX0_setLevel 32 = (.getfield 130, 35, 3, 3, 0, 0, []) := rfl
theorem tX0_setLevel_35 : tbX0_setLevel 35 = (.iload_n 2, 36, 0, 0, 0, 0, []) := rfl
theorem tX0_setLevel_36 : tbX0_setLevel 36 = (.iconst 1, 37, 0, 0, 0, 1, []) := rfl
theorem tX0_setLevel_37 : tbX0_setLevel 37 = (.if_icmp .ne 7, 40, 44, 0, 0, 0, []) := rfl
theorem tX0_setLevel_40 : tbX0_setLevel 40 = (.iconst 1, 41, 0, 0, 0, 1, []) := rfl
theorem tX0_setLevel_41 : tbX0_setLevel 41 = (.goto 4, 44, 45, 0, 0, 0, []) := rfl
theorem tX0_setLevel_44 : tbX0_setLevel 44 = (.iconst 0, 45, 0, 0, 0, 0, []) := rfl
theorem tX0_setLevel_45 : tbX0_setLevel 45 = (.if_icmp .ne 6, 48, 51, 0, 0, 0, []) := rfl
theorem tX0_setLevel_48 : tbX0_setLevel 48 = (.bipush (-2), 50, 0, 0, 0, -2, []) := rfl
theorem tX0_setLevel_50 : tbX0_setLevel 50 = (.ireturn, 51, 0, 0, 0, 0, []) := rfl
theorem tX0_setLevel_51 : tbX0_setLevel 51 = (.aload_n 3, 52, 0, 0, 0, 0, []) := rfl
theorem tX0_setLevel_52 : tbX0_setLevel 52 = (.iload_n 2, 53, 0, 0, 0, 0, []) := rfl
theorem tX0_setLevel_53 : tbX0_setLevel 53 = (.iconst 1, 54, 0, 0, 0, 1, []) := rfl
theorem tX0_setLevel_54 : tbX0_setLevel 54 = (.if_icmp .ne 7, 57, 61, 0, 0, 0, []) := rfl
theorem tX0_setLevel_57 : tbX0_setLevel 57 = (.iconst 1, 58, 0, 0, 0, 1, []) := rfl
theorem tX0_setLevel_58 : tbX0_setLevel 58 = (.goto 4, 61, 62, 0, 0, 0, []) := rfl
theorem tX0_setLevel_61 : tbX0_setLevel 61 = (.iconst 0, 62, 0, 0, 0, 0, []) := rfl
theorem tX0_setLevel_62 : tbX0_setLevel 62 = (.putfield 130, 65, 3, 3, 0, 0, [(0, 0)]) := rfl
theorem tX0_setLevel_65 : tbX0_setLevel 65 = (.aload_n 0, 66, 0, 0, 0, 0, []) := rfl
theorem tX0_setLevel_66 : tbX0_setLevel 66 = (.invokevirtual 139, 69, 23, 0, 0, 0, []) := rfl
theorem tX0_setLevel_69 : tbX0_setLevel 69 = (.invokestatic 118, 72, 156, 1, 0, 0, []) := rfl
theorem tX0_setLevel_72 : tbX0_setLevel 72 = (.ireturn, 73, 0, 0, 0, 0, []) := rfl
def ltX0_takeNext : List (Nat × pm_E) := [(0, .aload_n 0, 1, 0, 0, 0, 0, []), (1, .getfield 28, 4, 0, 9, 0, 0, [(0, 0)]), (4, .getfield 91, 7, 5, 1, 0, 0, []), (7, .iconst 4, 8, 0, 0, 0, 4, []), (8, .if_icmp .lt 6, 11, 14, 0, 0, 0, []), (11, .bipush (-3), 13, 0, 0, 0, -3, []), (13, .ireturn, 14, 0, 0, 0, 0, []), (14, .aload_n 0, 15, 0, 0, 0, 0, []), (15, .invokevirtual 142, 18, 18, 0, 0, 0, []), (18, .istore_n 1, 19, 0, 0, 0, 0, []), (19, .aload_n 0, 20, 0, 0, 0, 0, []), (20, .iload_n 1, 21, 0, 0, 0, 0, []), (21, .invokevirtual 108, 24, 3, 1, 0, 0, []), (24, .ifCond .ne 6, 27, 30, 0, 0, 0, []), (27, .bipush (-4), 29, 0, 0, 0, -4, []), (29, .ireturn, 30, 0, 0, 0, 0, []), (30, .aload_n 0, 31, 0, 0, 0, 0, []), (31, .getfield 20, 34, 0, 1, 0, 0, [(0, 0)]), (34, .iload_n 1, 35, 0, 0, 0, 0, []), (35, .aaload, 36, 0, 0, 0, 0, []), (36, .astore_n 2, 37, 0, 0, 0, 0, []), (37, .aload_n 2, 38, 0, 0, 0, 0, []), (38, .iconst 1, 39, 0, 0, 0, 1, []), (39, .putfield 145, 42, 3, 5, 0, 0, []), (42, .aload_n 2, 43, 0, 0, 0, 0, []), (43, .dup, 44, 0, 0, 0, 0, []), (44, .getfield 148, 47, 3, 8, 0, 0, []), (47, .iconst 1, 48, 0, 0, 0, 1, []), (48, .iadd, 49, 0, 0, 0, 0, []), (49, .putfield 148, 52, 3, 8, 0, 0, []), (52, .aload_n 2, 53, 0, 0, 0, 0, []), (53, .getfield 105, 56, 3, 2, 0, 0, []), (56, .ifCond .ne 28, 59, 84, 0, 0, 0, []), (59, .aload_n 2, 60, 0, 0, 0, 0, []), (60, .iconst 0, 61, 0, 0, 0, 0, []), (61, .putfield 130, 64, 3, 3, 0, 0, [(0, 0)]), (64, .aload_n 2, 65, 0, 0, 0, 0, []), (65, .aload_n 2, 66, 0, 0, 0, 0, []), (66, .getfield 151, 69, 3, 9, 0, 0, []), (69, .aload_n 0, 70, 0, 0, 0, 0, []), (70, .getfield 65, 73, 0, 5, 0, 0, []), (73, .aload_n 2, 74, 0, 0, 0, 0, []), (74, .getfield 136, 77, 3, 10, 0, 0, []), (77, .isub, 78, 0, 0, 0, 0, []), (78, .invokestatic 154, 81, 157, 2, 0, 0, []), (81, .putfield 151, 84, 3, 9, 0, 0, []), (84, .aload_n 0, 85, 0, 0, 0, 0, []), (85, .getfield 28, 88, 0, 9, 0, 0, [(0, 0)]), (88, .aload_n 0, 89, 0, 0, 0, 0, []), (89, .getfield 28, 92, 0, 9, 0, 0, [(0, 0)]), (92, .getfield 91, 95, 5, 1, 0, 0, []), (95, .iload_n 1, 96, 0, 0, 0, 0, []), (96, .invokevirtual 94, 99, 61, 2, 5, 0, []), (99, .aload_n 0, 100, 0, 0, 0, 0, []), (100, .iload_n 1, 101, 0, 0, 0, 0, []), (101, .invokevirtual 160, 104, 17, 1, 0, 0, []), (104, .iload_n 1, 105, 0, 0, 0, 0, []), (105, .ireturn, 106, 0, 0, 0, 0, [])]
def tbX0_takeNext : Nat → pm_E := pm_lk ltX0_takeNext
theorem okX0_takeNext : ∀ pc, (tbX0_takeNext pc).1 = .nop ∨ pm_ok mX0_takeNext pw_Ms pc (tbX0_takeNext pc) := pm_lk_ok (by decide +kernel)
theorem nr_X0_takeNext : mX0_takeNext.2.2.2 = (some .int) := rfl
theorem tX0_takeNext_0 : tbX0_takeNext 0 = (.aload_n 0, 1, 0, 0, 0, 0, []) := rfl
theorem tX0_takeNext_1 : tbX0_takeNext 1 = (.getfield 28, 4, 0, 9, 0, 0, [(0, 0)]) := rfl
theorem tX0_takeNext_4 : tbX0_takeNext 4 = (.getfield 91, 7, 5, 1, 0, 0, []) := rfl
theorem tX0_takeNext_7 : tbX0_takeNext 7 = (.iconst 4, 8, 0, 0, 0, 4, []) := rfl
theorem tX0_takeNext_8 : tbX0_takeNext 8 = (.if_icmp .lt 6, 11, 14, 0, 0, 0, []) := rfl
theorem tX0_takeNext_11 : tbX0_takeNext 11 = (.bipush (-3), 13, 0, 0, 0, -3, []) := rfl
theorem tX0_takeNext_13 : tbX0_takeNext 13 = (.ireturn, 14, 0, 0, 0, 0, []) := rfl
theorem tX0_takeNext_14 : tbX0_takeNext 14 = (.aload_n 0, 15, 0, 0, 0, 0, []) := rfl
theorem tX0_takeNext_15 : tbX0_takeNext 15 = (.invokevirtual 142, 18, 18, 0, 0, 0, []) := rfl
theorem tX0_takeNext_18 : tbX0_takeNext 18 = (.istore_n 1, 19, 0, 0, 0, 0, []) := rfl
theorem tX0_takeNext_19 : tbX0_takeNext 19 = (.aload_n 0, 20, 0, 0, 0, 0, []) := rfl
theorem tX0_takeNext_20 : tbX0_takeNext 20 = (.iload_n 1, 21, 0, 0, 0, 0, []) := rfl
theorem tX0_takeNext_21 : tbX0_takeNext 21 = (.invokevirtual 108, 24, 3, 1, 0, 0, []) := rfl
theorem tX0_takeNext_24 : tbX0_takeNext 24 = (.ifCond .ne 6, 27, 30, 0, 0, 0, []) := rfl
theorem tX0_takeNext_27 : tbX0_takeNext 27 = (.bipush (-4), 29, 0, 0, 0, -4, []) := rfl
theorem tX0_takeNext_29 : tbX0_takeNext 29 = (.ireturn, 30, 0, 0, 0, 0, []) := rfl
theorem tX0_takeNext_30 : tbX0_takeNext 30 = (.aload_n 0, 31, 0, 0, 0, 0, []) := rfl
theorem tX0_takeNext_31 : tbX0_takeNext 31 = (.getfield 20, 34, 0, 1, 0, 0, [(0, 0)]) := rfl
theorem tX0_takeNext_34 : tbX0_takeNext 34 = (.iload_n 1, 35, 0, 0, 0, 0, []) := rfl
theorem tX0_takeNext_35 : tbX0_takeNext 35 = (.aaload, 36, 0, 0, 0, 0, []) := rfl
theorem tX0_takeNext_36 : tbX0_takeNext 36 = (.astore_n 2, 37, 0, 0, 0, 0, []) := rfl
theorem tX0_takeNext_37 : tbX0_takeNext 37 = (.aload_n 2, 38, 0, 0, 0, 0, []) := rfl
theorem tX0_takeNext_38 : tbX0_takeNext 38 = (.iconst 1, 39, 0, 0, 0, 1, []) := rfl
theorem tX0_takeNext_39 : tbX0_takeNext 39 = (.putfield 145, 42, 3, 5, 0, 0, []) := rfl
theorem tX0_takeNext_42 : tbX0_takeNext 42 = (.aload_n 2, 43, 0, 0, 0, 0, []) := rfl
theorem tX0_takeNext_43 : tbX0_takeNext 43 = (.dup, 44, 0, 0, 0, 0, []) := rfl
theorem tX0_takeNext_44 : tbX0_takeNext 44 = (.getfield 148, 47, 3, 8, 0, 0, []) := rfl
theorem tX0_takeNext_47 : tbX0_takeNext 47 = (.iconst 1, 48, 0, 0, 0, 1, []) := rfl
theorem tX0_takeNext_48 : tbX0_takeNext 48 = (.iadd, 49, 0, 0, 0, 0, []) := rfl
theorem tX0_takeNext_49 : tbX0_takeNext 49 = (.putfield 148, 52, 3, 8, 0, 0, []) := rfl
theorem tX0_takeNext_52 : tbX0_takeNext 52 = (.aload_n 2, 53, 0, 0, 0, 0, []) := rfl
theorem tX0_takeNext_53 : tbX0_takeNext 53 = (.getfield 105, 56, 3, 2, 0, 0, []) := rfl
theorem tX0_takeNext_56 : tbX0_takeNext 56 = (.ifCond .ne 28, 59, 84, 0, 0, 0, []) := rfl
theorem tX0_takeNext_59 : tbX0_takeNext 59 = (.aload_n 2, 60, 0, 0, 0, 0, []) := rfl
theorem tX0_takeNext_60 : tbX0_takeNext 60 = (.iconst 0, 61, 0, 0, 0, 0, []) := rfl
theorem tX0_takeNext_61 : tbX0_takeNext 61 = (.putfield 130, 64, 3, 3, 0, 0, [(0, 0)]) := rfl
theorem tX0_takeNext_64 : tbX0_takeNext 64 = (.aload_n 2, 65, 0, 0, 0, 0, []) := rfl
theorem tX0_takeNext_65 : tbX0_takeNext 65 = (.aload_n 2, 66, 0, 0, 0, 0, []) := rfl
theorem tX0_takeNext_66 : tbX0_takeNext 66 = (.getfield 151, 69, 3, 9, 0, 0, []) := rfl
theorem tX0_takeNext_69 : tbX0_takeNext 69 = (.aload_n 0, 70, 0, 0, 0, 0, []) := rfl
theorem tX0_takeNext_70 : tbX0_takeNext 70 = (.getfield 65, 73, 0, 5, 0, 0, []) := rfl
theorem tX0_takeNext_73 : tbX0_takeNext 73 = (.aload_n 2, 74, 0, 0, 0, 0, []) := rfl
theorem tX0_takeNext_74 : tbX0_takeNext 74 = (.getfield 136, 77, 3, 10, 0, 0, []) := rfl
theorem tX0_takeNext_77 : tbX0_takeNext 77 = (.isub, 78, 0, 0, 0, 0, []) := rfl
theorem tX0_takeNext_78 : tbX0_takeNext 78 = (.invokestatic 154, 81, 157, 2, 0, 0, []) := rfl
theorem tX0_takeNext_81 : tbX0_takeNext 81 = (.putfield 151, 84, 3, 9, 0, 0, []) := rfl
theorem tX0_takeNext_84 : tbX0_takeNext 84 = (.aload_n 0, 85, 0, 0, 0, 0, []) := rfl
theorem tX0_takeNext_85 : tbX0_takeNext 85 = (.getfield 28, 88, 0, 9, 0, 0, [(0, 0)]) := rfl
theorem tX0_takeNext_88 : tbX0_takeNext 88 = (.aload_n 0, 89, 0, 0, 0, 0, []) := rfl
theorem tX0_takeNext_89 : tbX0_takeNext 89 = (.getfield 28, 92, 0, 9, 0, 0, [(0, 0)]) := rfl
theorem tX0_takeNext_92 : tbX0_takeNext 92 = (.getfield 91, 95, 5, 1, 0, 0, []) := rfl
theorem tX0_takeNext_95 : tbX0_takeNext 95 = (.iload_n 1, 96, 0, 0, 0, 0, []) := rfl
theorem tX0_takeNext_96 : tbX0_takeNext 96 = (.invokevirtual 94, 99, 61, 2, 5, 0, []) := rfl
theorem tX0_takeNext_99 : tbX0_takeNext 99 = (.aload_n 0, 100, 0, 0, 0, 0, []) := rfl
theorem tX0_takeNext_100 : tbX0_takeNext 100 = (.iload_n 1, 101, 0, 0, 0, 0, []) := rfl
theorem tX0_takeNext_101 : tbX0_takeNext 101 = (.invokevirtual 160, 104, 17, 1, 0, 0, []) := rfl
theorem tX0_takeNext_104 : tbX0_takeNext 104 = (.iload_n 1, 105, 0, 0, 0, 0, []) := rfl
theorem tX0_takeNext_105 : tbX0_takeNext 105 = (.ireturn, 106, 0, 0, 0, 0, []) := rfl
def ltX0_endService : List (Nat × pm_E) := [(0, .aload_n 0, 1, 0, 0, 0, 0, []), (1, .getfield 28, 4, 0, 9, 0, 0, [(0, 0)]), (4, .aload_n 0, 5, 0, 0, 0, 0, []), (5, .getfield 28, 8, 0, 9, 0, 0, [(0, 0)]), (8, .getfield 91, 11, 5, 1, 0, 0, []), (11, .iconst 1, 12, 0, 0, 0, 1, []), (12, .isub, 13, 0, 0, 0, 0, []), (13, .invokevirtual 164, 16, 60, 1, 5, 0, []), (16, .istore_n 1, 17, 0, 0, 0, 0, []), (17, .aload_n 0, 18, 0, 0, 0, 0, []), (18, .iload_n 1, 19, 0, 0, 0, 0, []), (19, .invokevirtual 108, 22, 3, 1, 0, 0, []), (22, .ifCond .ne 6, 25, 28, 0, 0, 0, []), (25, .bipush (-2), 27, 0, 0, 0, -2, []), (27, .ireturn, 28, 0, 0, 0, 0, []), (28, .aload_n 0, 29, 0, 0, 0, 0, []), (29, .getfield 28, 32, 0, 9, 0, 0, [(0, 0)]), (32, .aload_n 0, 33, 0, 0, 0, 0, []), (33, .getfield 28, 36, 0, 9, 0, 0, [(0, 0)]), (36, .getfield 91, 39, 5, 1, 0, 0, []), (39, .iconst 1, 40, 0, 0, 0, 1, []), (40, .isub, 41, 0, 0, 0, 0, []), (41, .invokevirtual 167, 44, 62, 1, 5, 0, []), (44, .aload_n 0, 45, 0, 0, 0, 0, []), (45, .getfield 20, 48, 0, 1, 0, 0, [(0, 0)]), (48, .iload_n 1, 49, 0, 0, 0, 0, []), (49, .aaload, 50, 0, 0, 0, 0, []), (50, .iconst 2, 51, 0, 0, 0, 2, []), (51, .putfield 145, 54, 3, 5, 0, 0, []), (54, .aload_n 0, 55, 0, 0, 0, 0, []), (55, .getfield 20, 58, 0, 1, 0, 0, [(0, 0)]), (58, .iload_n 1, 59, 0, 0, 0, 0, []), (59, .aaload, 60, 0, 0, 0, 0, []), (60, .aload_n 0, 61, 0, 0, 0, 0, []), (61, .getfield 65, 64, 0, 5, 0, 0, []), (64, .aload_n 0, 65, 0, 0, 0, 0, []), (65, .getfield 49, 68, 0, 7, 0, 0, []), (68, .iadd, 69, 0, 0, 0, 0, []), (69, .putfield 170, 72, 3, 11, 0, 0, []), (72, .aload_n 0, 73, 0, 0, 0, 0, []), (73, .iload_n 1, 74, 0, 0, 0, 0, []), (74, .invokevirtual 173, 77, 15, 1, 0, 0, []), (77, .aload_n 0, 78, 0, 0, 0, 0, []), (78, .invokevirtual 176, 81, 16, 0, 0, 0, []), (81, .pop, 82, 0, 0, 0, 0, []), (82, .iload_n 1, 83, 0, 0, 0, 0, []), (83, .ireturn, 84, 0, 0, 0, 0, [])]
def tbX0_endService : Nat → pm_E := pm_lk ltX0_endService
theorem okX0_endService : ∀ pc, (tbX0_endService pc).1 = .nop ∨ pm_ok mX0_endService pw_Ms pc (tbX0_endService pc) := pm_lk_ok (by decide +kernel)
theorem nr_X0_endService : mX0_endService.2.2.2 = (some .int) := rfl
theorem tX0_endService_0 : tbX0_endService 0 = (.aload_n 0, 1, 0, 0, 0, 0, []) := rfl
theorem tX0_endService_1 : tbX0_endService 1 = (.getfield 28, 4, 0, 9, 0, 0, [(0, 0)]) := rfl
theorem tX0_endService_4 : tbX0_endService 4 = (.aload_n 0, 5, 0, 0, 0, 0, []) := rfl
theorem tX0_endService_5 : tbX0_endService 5 = (.getfield 28, 8, 0, 9, 0, 0, [(0, 0)]) := rfl
theorem tX0_endService_8 : tbX0_endService 8 = (.getfield 91, 11, 5, 1, 0, 0, []) := rfl
theorem tX0_endService_11 : tbX0_endService 11 = (.iconst 1, 12, 0, 0, 0, 1, []) := rfl
theorem tX0_endService_12 : tbX0_endService 12 = (.isub, 13, 0, 0, 0, 0, []) := rfl
theorem tX0_endService_13 : tbX0_endService 13 = (.invokevirtual 164, 16, 60, 1, 5, 0, []) := rfl
theorem tX0_endService_16 : tbX0_endService 16 = (.istore_n 1, 17, 0, 0, 0, 0, []) := rfl
theorem tX0_endService_17 : tbX0_endService 17 = (.aload_n 0, 18, 0, 0, 0, 0, []) := rfl
theorem tX0_endService_18 : tbX0_endService 18 = (.iload_n 1, 19, 0, 0, 0, 0, []) := rfl
theorem tX0_endService_19 : tbX0_endService 19 = (.invokevirtual 108, 22, 3, 1, 0, 0, []) := rfl
theorem tX0_endService_22 : tbX0_endService 22 = (.ifCond .ne 6, 25, 28, 0, 0, 0, []) := rfl
theorem tX0_endService_25 : tbX0_endService 25 = (.bipush (-2), 27, 0, 0, 0, -2, []) := rfl
theorem tX0_endService_27 : tbX0_endService 27 = (.ireturn, 28, 0, 0, 0, 0, []) := rfl
theorem tX0_endService_28 : tbX0_endService 28 = (.aload_n 0, 29, 0, 0, 0, 0, []) := rfl
theorem tX0_endService_29 : tbX0_endService 29 = (.getfield 28, 32, 0, 9, 0, 0, [(0, 0)]) := rfl
theorem tX0_endService_32 : tbX0_endService 32 = (.aload_n 0, 33, 0, 0, 0, 0, []) := rfl
theorem tX0_endService_33 : tbX0_endService 33 = (.getfield 28, 36, 0, 9, 0, 0, [(0, 0)]) := rfl
theorem tX0_endService_36 : tbX0_endService 36 = (.getfield 91, 39, 5, 1, 0, 0, []) := rfl
theorem tX0_endService_39 : tbX0_endService 39 = (.iconst 1, 40, 0, 0, 0, 1, []) := rfl
theorem tX0_endService_40 : tbX0_endService 40 = (.isub, 41, 0, 0, 0, 0, []) := rfl
theorem tX0_endService_41 : tbX0_endService 41 = (.invokevirtual 167, 44, 62, 1, 5, 0, []) := rfl
theorem tX0_endService_44 : tbX0_endService 44 = (.aload_n 0, 45, 0, 0, 0, 0, []) := rfl
theorem tX0_endService_45 : tbX0_endService 45 = (.getfield 20, 48, 0, 1, 0, 0, [(0, 0)]) := rfl
theorem tX0_endService_48 : tbX0_endService 48 = (.iload_n 1, 49, 0, 0, 0, 0, []) := rfl
theorem tX0_endService_49 : tbX0_endService 49 = (.aaload, 50, 0, 0, 0, 0, []) := rfl
theorem tX0_endService_50 : tbX0_endService 50 = (.iconst 2, 51, 0, 0, 0, 2, []) := rfl
theorem tX0_endService_51 : tbX0_endService 51 = (.putfield 145, 54, 3, 5, 0, 0, []) := rfl
theorem tX0_endService_54 : tbX0_endService 54 = (.aload_n 0, 55, 0, 0, 0, 0, []) := rfl
theorem tX0_endService_55 : tbX0_endService 55 = (.getfield 20, 58, 0, 1, 0, 0, [(0, 0)]) := rfl
theorem tX0_endService_58 : tbX0_endService 58 = (.iload_n 1, 59, 0, 0, 0, 0, []) := rfl
theorem tX0_endService_59 : tbX0_endService 59 = (.aaload, 60, 0, 0, 0, 0, []) := rfl
theorem tX0_endService_60 : tbX0_endService 60 = (.aload_n 0, 61, 0, 0, 0, 0, []) := rfl
theorem tX0_endService_61 : tbX0_endService 61 = (.getfield 65, 64, 0, 5, 0, 0, []) := rfl
theorem tX0_endService_64 : tbX0_endService 64 = (.aload_n 0, 65, 0, 0, 0, 0, []) := rfl
theorem tX0_endService_65 : tbX0_endService 65 = (.getfield 49, 68, 0, 7, 0, 0, []) := rfl
theorem tX0_endService_68 : tbX0_endService 68 = (.iadd, 69, 0, 0, 0, 0, []) := rfl
theorem tX0_endService_69 : tbX0_endService 69 = (.putfield 170, 72, 3, 11, 0, 0, []) := rfl
theorem tX0_endService_72 : tbX0_endService 72 = (.aload_n 0, 73, 0, 0, 0, 0, []) := rfl
theorem tX0_endService_73 : tbX0_endService 73 = (.iload_n 1, 74, 0, 0, 0, 0, []) := rfl
theorem tX0_endService_74 : tbX0_endService 74 = (.invokevirtual 173, 77, 15, 1, 0, 0, []) := rfl
theorem tX0_endService_77 : tbX0_endService 77 = (.aload_n 0, 78, 0, 0, 0, 0, []) := rfl
theorem tX0_endService_78 : tbX0_endService 78 = (.invokevirtual 176, 81, 16, 0, 0, 0, []) := rfl
theorem tX0_endService_81 : tbX0_endService 81 = (.pop, 82, 0, 0, 0, 0, []) := rfl
theorem tX0_endService_82 : tbX0_endService 82 = (.iload_n 1, 83, 0, 0, 0, 0, []) := rfl
theorem tX0_endService_83 : tbX0_endService 83 = (.ireturn, 84, 0, 0, 0, 0, []) := rfl
def ltX0_passTicks : List (Nat × pm_E) := [(0, .iload_n 1, 1, 0, 0, 0, 0, []), (1, .iconst 1, 2, 0, 0, 0, 1, []), (2, .if_icmp .lt 9, 5, 11, 0, 0, 0, []), (5, .iload_n 1, 6, 0, 0, 0, 0, []), (6, .bipush 99, 8, 0, 0, 0, 99, []), (8, .if_icmp .le 5, 11, 13, 0, 0, 0, []), (11, .iconst (-1), 12, 0, 0, 0, -1, []), (12, .ireturn, 13, 0, 0, 0, 0, []), (13, .aload_n 0, 14, 0, 0, 0, 0, []), (14, .getfield 65, 17, 0, 5, 0, 0, []), (17, .iload_n 1, 18, 0, 0, 0, 0, []), (18, .iadd, 19, 0, 0, 0, 0, []), (19, .ldc 179, 21, 0, 0, 0, 50000, []), (21, .if_icmp .le 6, 24, 27, 0, 0, 0, []), (24, .bipush (-3), 26, 0, 0, 0, -3, []), (26, .ireturn, 27, 0, 0, 0, 0, []), (27, .aload_n 0, 28, 0, 0, 0, 0, []), (28, .dup, 29, 0, 0, 0, 0, []), (29, .getfield 65, 32, 0, 5, 0, 0, []), (32, .iload_n 1, 33, 0, 0, 0, 0, []), (33, .iadd, 34, 0, 0, 0, 0, []), (34, .putfield 65, 37, 0, 5, 0, 0, []), (37, .aload_n 0, 38, 0, 0, 0, 0, []), (38, .invokevirtual 176, 41, 16, 0, 0, 0, []), (41, .ireturn, 42, 0, 0, 0, 0, [])]
def tbX0_passTicks : Nat → pm_E := pm_lk ltX0_passTicks
theorem okX0_passTicks : ∀ pc, (tbX0_passTicks pc).1 = .nop ∨ pm_ok mX0_passTicks pw_Ms pc (tbX0_passTicks pc) := pm_lk_ok (by decide +kernel)
theorem nr_X0_passTicks : mX0_passTicks.2.2.2 = (some .int) := rfl
theorem tX0_passTicks_0 : tbX0_passTicks 0 = (.iload_n 1, 1, 0, 0, 0, 0, []) := rfl
theorem tX0_passTicks_1 : tbX0_passTicks 1 = (.iconst 1, 2, 0, 0, 0, 1, []) := rfl
theorem tX0_passTicks_2 : tbX0_passTicks 2 = (.if_icmp .lt 9, 5, 11, 0, 0, 0, []) := rfl
theorem tX0_passTicks_5 : tbX0_passTicks 5 = (.iload_n 1, 6, 0, 0, 0, 0, []) := rfl
theorem tX0_passTicks_6 : tbX0_passTicks 6 = (.bipush 99, 8, 0, 0, 0, 99, []) := rfl
theorem tX0_passTicks_8 : tbX0_passTicks 8 = (.if_icmp .le 5, 11, 13, 0, 0, 0, []) := rfl
theorem tX0_passTicks_11 : tbX0_passTicks 11 = (.iconst (-1), 12, 0, 0, 0, -1, []) := rfl
theorem tX0_passTicks_12 : tbX0_passTicks 12 = (.ireturn, 13, 0, 0, 0, 0, []) := rfl
theorem tX0_passTicks_13 : tbX0_passTicks 13 = (.aload_n 0, 14, 0, 0, 0, 0, []) := rfl
theorem tX0_passTicks_14 : tbX0_passTicks 14 = (.getfield 65, 17, 0, 5, 0, 0, []) := rfl
theorem tX0_passTicks_17 : tbX0_passTicks 17 = (.iload_n 1, 18, 0, 0, 0, 0, []) := rfl
theorem tX0_passTicks_18 : tbX0_passTicks 18 = (.iadd, 19, 0, 0, 0, 0, []) := rfl
theorem tX0_passTicks_19 : tbX0_passTicks 19 = (.ldc 179, 21, 0, 0, 0, 50000, []) := rfl
theorem tX0_passTicks_21 : tbX0_passTicks 21 = (.if_icmp .le 6, 24, 27, 0, 0, 0, []) := rfl
theorem tX0_passTicks_24 : tbX0_passTicks 24 = (.bipush (-3), 26, 0, 0, 0, -3, []) := rfl
theorem tX0_passTicks_26 : tbX0_passTicks 26 = (.ireturn, 27, 0, 0, 0, 0, []) := rfl
theorem tX0_passTicks_27 : tbX0_passTicks 27 = (.aload_n 0, 28, 0, 0, 0, 0, []) := rfl
theorem tX0_passTicks_28 : tbX0_passTicks 28 = (.dup, 29, 0, 0, 0, 0, []) := rfl
theorem tX0_passTicks_29 : tbX0_passTicks 29 = (.getfield 65, 32, 0, 5, 0, 0, []) := rfl
theorem tX0_passTicks_32 : tbX0_passTicks 32 = (.iload_n 1, 33, 0, 0, 0, 0, []) := rfl
theorem tX0_passTicks_33 : tbX0_passTicks 33 = (.iadd, 34, 0, 0, 0, 0, []) := rfl
theorem tX0_passTicks_34 : tbX0_passTicks 34 = (.putfield 65, 37, 0, 5, 0, 0, []) := rfl
theorem tX0_passTicks_37 : tbX0_passTicks 37 = (.aload_n 0, 38, 0, 0, 0, 0, []) := rfl
theorem tX0_passTicks_38 : tbX0_passTicks 38 = (.invokevirtual 176, 41, 16, 0, 0, 0, []) := rfl
theorem tX0_passTicks_41 : tbX0_passTicks 41 = (.ireturn, 42, 0, 0, 0, 0, []) := rfl
def ltX0_queueAcknowledge : List (Nat × pm_E) := [(0, .aload_n 0, 1, 0, 0, 0, 0, []), (1, .getfield 20, 4, 0, 1, 0, 0, [(0, 0)]), (4, .iload_n 1, 5, 0, 0, 0, 0, []), (5, .aaload, 6, 0, 0, 0, 0, []), (6, .getfield 170, 9, 3, 11, 0, 0, []), (9, .istore_n 2, 10, 0, 0, 0, 0, []), (10, .aload_n 0, 11, 0, 0, 0, 0, []), (11, .getfield 32, 14, 0, 10, 0, 0, [(0, 0)]), (14, .getfield 91, 17, 5, 1, 0, 0, []), (17, .istore_n 3, 18, 0, 0, 0, 0, []), (18, .aload_n 0, 19, 0, 0, 0, 0, []), (19, .getfield 32, 22, 0, 10, 0, 0, [(0, 0)]), (22, .getfield 91, 25, 5, 1, 0, 0, []), (25, .iconst 1, 26, 0, 0, 0, 1, []), (26, .isub, 27, 0, 0, 0, 0, []), (27, .istore 4, 29, 0, 0, 0, 0, []), (29, .iload 4, 31, 0, 0, 0, 0, []), (31, .ifCond .lt 46, 34, 77, 0, 0, 0, []), (34, .aload_n 0, 35, 0, 0, 0, 0, []), (35, .getfield 32, 38, 0, 10, 0, 0, [(0, 0)]), (38, .iload 4, 40, 0, 0, 0, 0, []), (40, .invokevirtual 164, 43, 60, 1, 5, 0, []), (43, .istore 5, 45, 0, 0, 0, 0, []), (45, .aload_n 0, 46, 0, 0, 0, 0, []), (46, .iload 5, 48, 0, 0, 0, 0, []), (48, .invokevirtual 108, 51, 3, 1, 0, 0, []), (51, .ifCond .eq 20, 54, 71, 0, 0, 0, []), (54, .aload_n 0, 55, 0, 0, 0, 0, []), (55, .getfield 20, 58, 0, 1, 0, 0, [(0, 0)]), (58, .iload 5, 60, 0, 0, 0, 0, []), (60, .aaload, 61, 0, 0, 0, 0, []), (61, .getfield 170, 64, 3, 11, 0, 0, []), (64, .iload_n 2, 65, 0, 0, 0, 0, []), (65, .if_icmp .le 6, 68, 71, 0, 0, 0, []), (68, .iload 4, 70, 0, 0, 0, 0, []), (70, .istore_n 3, 71, 0, 0, 0, 0, []), (71, .iinc 4 (-1), 74, 0, 0, 0, -1, []), (74, .goto (-45), 77, 29, 0, 0, 0, []), (77, .aload_n 0, 78, 0, 0, 0, 0, []), (78, .getfield 32, 81, 0, 10, 0, 0, [(0, 0)]), (81, .iload_n 3, 82, 0, 0, 0, 0, []), (82, .iload_n 1, 83, 0, 0, 0, 0, []), (83, .invokevirtual 94, 86, 61, 2, 5, 0, []), (86, .return_, 87, 0, 0, 0, 0, [])]
def tbX0_queueAcknowledge : Nat → pm_E := pm_lk ltX0_queueAcknowledge
theorem okX0_queueAcknowledge : ∀ pc, (tbX0_queueAcknowledge pc).1 = .nop ∨ pm_ok mX0_queueAcknowledge pw_Ms pc (tbX0_queueAcknowledge pc) := pm_lk_ok (by decide +kernel)
theorem nr_X0_queueAcknowledge : mX0_queueAcknowledge.2.2.2 = none := rfl
theorem tX0_queueAcknowledge_0 : tbX0_queueAcknowledge 0 = (.aload_n 0, 1, 0, 0, 0, 0, []) := rfl
theorem tX0_queueAcknowledge_1 : tbX0_queueAcknowledge 1 = (.getfield 20, 4, 0, 1, 0, 0, [(0, 0)]) := rfl
theorem tX0_queueAcknowledge_4 : tbX0_queueAcknowledge 4 = (.iload_n 1, 5, 0, 0, 0, 0, []) := rfl
theorem tX0_queueAcknowledge_5 : tbX0_queueAcknowledge 5 = (.aaload, 6, 0, 0, 0, 0, []) := rfl
theorem tX0_queueAcknowledge_6 : tbX0_queueAcknowledge 6 = (.getfield 170, 9, 3, 11, 0, 0, []) := rfl
theorem tX0_queueAcknowledge_9 : tbX0_queueAcknowledge 9 = (.istore_n 2, 10, 0, 0, 0, 0, []) := rfl
theorem tX0_queueAcknowledge_10 : tbX0_queueAcknowledge 10 = (.aload_n 0, 11, 0, 0, 0, 0, []) := rfl
theorem tX0_queueAcknowledge_11 : tbX0_queueAcknowledge 11 = (.getfield 32, 14, 0, 10, 0, 0, [(0, 0)]) := rfl
theorem tX0_queueAcknowledge_14 : tbX0_queueAcknowledge 14 = (.getfield 91, 17, 5, 1, 0, 0, []) := rfl
theorem tX0_queueAcknowledge_17 : tbX0_queueAcknowledge 17 = (.istore_n 3, 18, 0, 0, 0, 0, []) := rfl
theorem tX0_queueAcknowledge_18 : tbX0_queueAcknowledge 18 = (.aload_n 0, 19, 0, 0, 0, 0, []) := rfl
theorem tX0_queueAcknowledge_19 : tbX0_queueAcknowledge 19 = (.getfield 32, 22, 0, 10, 0, 0, [(0, 0)]) := rfl
theorem tX0_queueAcknowledge_22 : tbX0_queueAcknowledge 22 = (.getfield 91, 25, 5, 1, 0, 0, []) := rfl
theorem tX0_queueAcknowledge_25 : tbX0_queueAcknowledge 25 = (.iconst 1, 26, 0, 0, 0, 1, []) := rfl
theorem tX0_queueAcknowledge_26 : tbX0_queueAcknowledge 26 = (.isub, 27, 0, 0, 0, 0, []) := rfl
theorem tX0_queueAcknowledge_27 : tbX0_queueAcknowledge 27 = (.istore 4, 29, 0, 0, 0, 0, []) := rfl
theorem tX0_queueAcknowledge_29 : tbX0_queueAcknowledge 29 = (.iload 4, 31, 0, 0, 0, 0, []) := rfl
theorem tX0_queueAcknowledge_31 : tbX0_queueAcknowledge 31 = (.ifCond .lt 46, 34, 77, 0, 0, 0, []) := rfl
theorem tX0_queueAcknowledge_34 : tbX0_queueAcknowledge 34 = (.aload_n 0, 35, 0, 0, 0, 0, []) := rfl
theorem tX0_queueAcknowledge_35 : tbX0_queueAcknowledge 35 = (.getfield 32, 38, 0, 10, 0, 0, [(0, 0)]) := rfl
theorem tX0_queueAcknowledge_38 : tbX0_queueAcknowledge 38 = (.iload 4, 40, 0, 0, 0, 0, []) := rfl
theorem tX0_queueAcknowledge_40 : tbX0_queueAcknowledge 40 = (.invokevirtual 164, 43, 60, 1, 5, 0, []) := rfl
theorem tX0_queueAcknowledge_43 : tbX0_queueAcknowledge 43 = (.istore 5, 45, 0, 0, 0, 0, []) := rfl
theorem tX0_queueAcknowledge_45 : tbX0_queueAcknowledge 45 = (.aload_n 0, 46, 0, 0, 0, 0, []) := rfl
theorem tX0_queueAcknowledge_46 : tbX0_queueAcknowledge 46 = (.iload 5, 48, 0, 0, 0, 0, []) := rfl
theorem tX0_queueAcknowledge_48 : tbX0_queueAcknowledge 48 = (.invokevirtual 108, 51, 3, 1, 0, 0, []) := rfl
theorem tX0_queueAcknowledge_51 : tbX0_queueAcknowledge 51 = (.ifCond .eq 20, 54, 71, 0, 0, 0, []) := rfl
theorem tX0_queueAcknowledge_54 : tbX0_queueAcknowledge 54 = (.aload_n 0, 55, 0, 0, 0, 0, []) := rfl
theorem tX0_queueAcknowledge_55 : tbX0_queueAcknowledge 55 = (.getfield 20, 58, 0, 1, 0, 0, [(0, 0)]) := rfl
theorem tX0_queueAcknowledge_58 : tbX0_queueAcknowledge 58 = (.iload 5, 60, 0, 0, 0, 0, []) := rfl
theorem tX0_queueAcknowledge_60 : tbX0_queueAcknowledge 60 = (.aaload, 61, 0, 0, 0, 0, []) := rfl
theorem tX0_queueAcknowledge_61 : tbX0_queueAcknowledge 61 = (.getfield 170, 64, 3, 11, 0, 0, []) := rfl
theorem tX0_queueAcknowledge_64 : tbX0_queueAcknowledge 64 = (.iload_n 2, 65, 0, 0, 0, 0, []) := rfl
theorem tX0_queueAcknowledge_65 : tbX0_queueAcknowledge 65 = (.if_icmp .le 6, 68, 71, 0, 0, 0, []) := rfl
theorem tX0_queueAcknowledge_68 : tbX0_queueAcknowledge 68 = (.iload 4, 70, 0, 0, 0, 0, []) := rfl
theorem tX0_queueAcknowledge_70 : tbX0_queueAcknowledge 70 = (.istore_n 3, 71, 0, 0, 0, 0, []) := rfl
theorem tX0_queueAcknowledge_71 : tbX0_queueAcknowledge 71 = (.iinc 4 (-1), 74, 0, 0, 0, -1, []) := rfl
theorem tX0_queueAcknowledge_74 : tbX0_queueAcknowledge 74 = (.goto (-45), 77, 29, 0, 0, 0, []) := rfl
theorem tX0_queueAcknowledge_77 : tbX0_queueAcknowledge 77 = (.aload_n 0, 78, 0, 0, 0, 0, []) := rfl
theorem tX0_queueAcknowledge_78 : tbX0_queueAcknowledge 78 = (.getfield 32, 81, 0, 10, 0, 0, [(0, 0)]) := rfl
theorem tX0_queueAcknowledge_81 : tbX0_queueAcknowledge 81 = (.iload_n 3, 82, 0, 0, 0, 0, []) := rfl
theorem tX0_queueAcknowledge_82 : tbX0_queueAcknowledge 82 = (.iload_n 1, 83, 0, 0, 0, 0, []) := rfl
theorem tX0_queueAcknowledge_83 : tbX0_queueAcknowledge 83 = (.invokevirtual 94, 86, 61, 2, 5, 0, []) := rfl
theorem tX0_queueAcknowledge_86 : tbX0_queueAcknowledge 86 = (.return_, 87, 0, 0, 0, 0, []) := rfl
def ltX0_acknowledgeDue : List (Nat × pm_E) := [(0, .iconst 0, 1, 0, 0, 0, 0, []), (1, .istore_n 1, 2, 0, 0, 0, 0, []), (2, .iconst 0, 3, 0, 0, 0, 0, []), (3, .istore_n 2, 4, 0, 0, 0, 0, []), (4, .iload_n 2, 5, 0, 0, 0, 0, []), (5, .bipush 16, 7, 0, 0, 0, 16, []), (7, .if_icmp .ge 66, 10, 73, 0, 0, 0, []), (10, .aload_n 0, 11, 0, 0, 0, 0, []), (11, .getfield 32, 14, 0, 10, 0, 0, [(0, 0)]), (14, .iconst 0, 15, 0, 0, 0, 0, []), (15, .invokevirtual 164, 18, 60, 1, 5, 0, []), (18, .istore_n 3, 19, 0, 0, 0, 0, []), (19, .aload_n 0, 20, 0, 0, 0, 0, []), (20, .iload_n 3, 21, 0, 0, 0, 0, []), (21, .invokevirtual 108, 24, 3, 1, 0, 0, []), (24, .ifCond .eq 49, 27, 73, 0, 0, 0, []), (27, .aload_n 0, 28, 0, 0, 0, 0, []), (28, .getfield 20, 31, 0, 1, 0, 0, [(0, 0)]), (31, .iload_n 3, 32, 0, 0, 0, 0, []), (32, .aaload, 33, 0, 0, 0, 0, []), (33, .getfield 170, 36, 3, 11, 0, 0, []), (36, .aload_n 0, 37, 0, 0, 0, 0, []), (37, .getfield 65, 40, 0, 5, 0, 0, []), (40, .if_icmp .le 6, 43, 46, 0, 0, 0, []), (43, .goto 30, 46, 73, 0, 0, 0, []), (46, .aload_n 0, 47, 0, 0, 0, 0, []), (47, .getfield 32, 50, 0, 10, 0, 0, [(0, 0)]), (50, .iconst 0, 51, 0, 0, 0, 0, []), (51, .invokevirtual 167, 54, 62, 1, 5, 0, []), (54, .aload_n 0, 55, 0, 0, 0, 0, []), (55, .getfield 20, 58, 0, 1, 0, 0, [(0, 0)]), (58, .iload_n 3, 59, 0, 0, 0, 0, []), (59, .aaload, 60, 0, 0, 0, 0, []), (60, .iconst 0, 61, 0, 0, 0, 0, []), (61, .putfield 145, 64, 3, 5, 0, 0, []), (64, .iinc 1 1, 67, 0, 0, 0, 1, []), (67, .iinc 2 1, 70, 0, 0, 0, 1, []), (70, .goto (-66), 73, 4, 0, 0, 0, []), (73, .aload_n 0, 74, 0, 0, 0, 0, []), (74, .dup, 75, 0, 0, 0, 0, []), (75, .getfield 71, 78, 0, 8, 0, 0, []), (78, .iload_n 1, 79, 0, 0, 0, 0, []), (79, .iadd, 80, 0, 0, 0, 0, []), (80, .putfield 71, 83, 0, 8, 0, 0, []), (83, .iload_n 1, 84, 0, 0, 0, 0, []), (84, .ireturn, 85, 0, 0, 0, 0, [])]
def tbX0_acknowledgeDue : Nat → pm_E := pm_lk ltX0_acknowledgeDue
theorem okX0_acknowledgeDue : ∀ pc, (tbX0_acknowledgeDue pc).1 = .nop ∨ pm_ok mX0_acknowledgeDue pw_Ms pc (tbX0_acknowledgeDue pc) := pm_lk_ok (by decide +kernel)
theorem nr_X0_acknowledgeDue : mX0_acknowledgeDue.2.2.2 = (some .int) := rfl
theorem tX0_acknowledgeDue_0 : tbX0_acknowledgeDue 0 = (.iconst 0, 1, 0, 0, 0, 0, []) := rfl
theorem tX0_acknowledgeDue_1 : tbX0_acknowledgeDue 1 = (.istore_n 1, 2, 0, 0, 0, 0, []) := rfl
theorem tX0_acknowledgeDue_2 : tbX0_acknowledgeDue 2 = (.iconst 0, 3, 0, 0, 0, 0, []) := rfl
theorem tX0_acknowledgeDue_3 : tbX0_acknowledgeDue 3 = (.istore_n 2, 4, 0, 0, 0, 0, []) := rfl
theorem tX0_acknowledgeDue_4 : tbX0_acknowledgeDue 4 = (.iload_n 2, 5, 0, 0, 0, 0, []) := rfl
theorem tX0_acknowledgeDue_5 : tbX0_acknowledgeDue 5 = (.bipush 16, 7, 0, 0, 0, 16, []) := rfl
theorem tX0_acknowledgeDue_7 : tbX0_acknowledgeDue 7 = (.if_icmp .ge 66, 10, 73, 0, 0, 0, []) := rfl
theorem tX0_acknowledgeDue_10 : tbX0_acknowledgeDue 10 = (.aload_n 0, 11, 0, 0, 0, 0, []) := rfl
theorem tX0_acknowledgeDue_11 : tbX0_acknowledgeDue 11 = (.getfield 32, 14, 0, 10, 0, 0, [(0, 0)]) := rfl
theorem tX0_acknowledgeDue_14 : tbX0_acknowledgeDue 14 = (.iconst 0, 15, 0, 0, 0, 0, []) := rfl
theorem tX0_acknowledgeDue_15 : tbX0_acknowledgeDue 15 = (.invokevirtual 164, 18, 60, 1, 5, 0, []) := rfl
theorem tX0_acknowledgeDue_18 : tbX0_acknowledgeDue 18 = (.istore_n 3, 19, 0, 0, 0, 0, []) := rfl
theorem tX0_acknowledgeDue_19 : tbX0_acknowledgeDue 19 = (.aload_n 0, 20, 0, 0, 0, 0, []) := rfl
theorem tX0_acknowledgeDue_20 : tbX0_acknowledgeDue 20 = (.iload_n 3, 21, 0, 0, 0, 0, []) := rfl
theorem tX0_acknowledgeDue_21 : tbX0_acknowledgeDue 21 = (.invokevirtual 108, 24, 3, 1, 0, 0, []) := rfl
theorem tX0_acknowledgeDue_24 : tbX0_acknowledgeDue 24 = (.ifCond .eq 49, 27, 73, 0, 0, 0, []) := rfl
theorem tX0_acknowledgeDue_27 : tbX0_acknowledgeDue 27 = (.aload_n 0, 28, 0, 0, 0, 0, []) := rfl
theorem tX0_acknowledgeDue_28 : tbX0_acknowledgeDue 28 = (.getfield 20, 31, 0, 1, 0, 0, [(0, 0)]) := rfl
theorem tX0_acknowledgeDue_31 : tbX0_acknowledgeDue 31 = (.iload_n 3, 32, 0, 0, 0, 0, []) := rfl
theorem tX0_acknowledgeDue_32 : tbX0_acknowledgeDue 32 = (.aaload, 33, 0, 0, 0, 0, []) := rfl
theorem tX0_acknowledgeDue_33 : tbX0_acknowledgeDue 33 = (.getfield 170, 36, 3, 11, 0, 0, []) := rfl
theorem tX0_acknowledgeDue_36 : tbX0_acknowledgeDue 36 = (.aload_n 0, 37, 0, 0, 0, 0, []) := rfl
theorem tX0_acknowledgeDue_37 : tbX0_acknowledgeDue 37 = (.getfield 65, 40, 0, 5, 0, 0, []) := rfl
theorem tX0_acknowledgeDue_40 : tbX0_acknowledgeDue 40 = (.if_icmp .le 6, 43, 46, 0, 0, 0, []) := rfl
theorem tX0_acknowledgeDue_43 : tbX0_acknowledgeDue 43 = (.goto 30, 46, 73, 0, 0, 0, []) := rfl
theorem tX0_acknowledgeDue_46 : tbX0_acknowledgeDue 46 = (.aload_n 0, 47, 0, 0, 0, 0, []) := rfl
theorem tX0_acknowledgeDue_47 : tbX0_acknowledgeDue 47 = (.getfield 32, 50, 0, 10, 0, 0, [(0, 0)]) := rfl
theorem tX0_acknowledgeDue_50 : tbX0_acknowledgeDue 50 = (.iconst 0, 51, 0, 0, 0, 0, []) := rfl
theorem tX0_acknowledgeDue_51 : tbX0_acknowledgeDue 51 = (.invokevirtual 167, 54, 62, 1, 5, 0, []) := rfl
theorem tX0_acknowledgeDue_54 : tbX0_acknowledgeDue 54 = (.aload_n 0, 55, 0, 0, 0, 0, []) := rfl
theorem tX0_acknowledgeDue_55 : tbX0_acknowledgeDue 55 = (.getfield 20, 58, 0, 1, 0, 0, [(0, 0)]) := rfl
theorem tX0_acknowledgeDue_58 : tbX0_acknowledgeDue 58 = (.iload_n 3, 59, 0, 0, 0, 0, []) := rfl
theorem tX0_acknowledgeDue_59 : tbX0_acknowledgeDue 59 = (.aaload, 60, 0, 0, 0, 0, []) := rfl
theorem tX0_acknowledgeDue_60 : tbX0_acknowledgeDue 60 = (.iconst 0, 61, 0, 0, 0, 0, []) := rfl
theorem tX0_acknowledgeDue_61 : tbX0_acknowledgeDue 61 = (.putfield 145, 64, 3, 5, 0, 0, []) := rfl
theorem tX0_acknowledgeDue_64 : tbX0_acknowledgeDue 64 = (.iinc 1 1, 67, 0, 0, 0, 1, []) := rfl
theorem tX0_acknowledgeDue_67 : tbX0_acknowledgeDue 67 = (.iinc 2 1, 70, 0, 0, 0, 1, []) := rfl
theorem tX0_acknowledgeDue_70 : tbX0_acknowledgeDue 70 = (.goto (-66), 73, 4, 0, 0, 0, []) := rfl
theorem tX0_acknowledgeDue_73 : tbX0_acknowledgeDue 73 = (.aload_n 0, 74, 0, 0, 0, 0, []) := rfl
theorem tX0_acknowledgeDue_74 : tbX0_acknowledgeDue 74 = (.dup, 75, 0, 0, 0, 0, []) := rfl
theorem tX0_acknowledgeDue_75 : tbX0_acknowledgeDue 75 = (.getfield 71, 78, 0, 8, 0, 0, []) := rfl
theorem tX0_acknowledgeDue_78 : tbX0_acknowledgeDue 78 = (.iload_n 1, 79, 0, 0, 0, 0, []) := rfl
theorem tX0_acknowledgeDue_79 : tbX0_acknowledgeDue 79 = (.iadd, 80, 0, 0, 0, 0, []) := rfl
theorem tX0_acknowledgeDue_80 : tbX0_acknowledgeDue 80 = (.putfield 71, 83, 0, 8, 0, 0, []) := rfl
theorem tX0_acknowledgeDue_83 : tbX0_acknowledgeDue 83 = (.iload_n 1, 84, 0, 0, 0, 0, []) := rfl
theorem tX0_acknowledgeDue_84 : tbX0_acknowledgeDue 84 = (.ireturn, 85, 0, 0, 0, 0, []) := rfl
def ltX0_turnInputs : List (Nat × pm_E) := [(0, .iload_n 1, 1, 0, 0, 0, 0, []), (1, .istore_n 2, 2, 0, 0, 0, 0, []), (2, .aload_n 0, 3, 0, 0, 0, 0, []), (3, .getfield 20, 6, 0, 1, 0, 0, [(0, 0)]), (6, .iload_n 1, 7, 0, 0, 0, 0, []), (7, .aaload, 8, 0, 0, 0, 0, []), (8, .getfield 98, 11, 3, 0, 0, 0, []), (11, .istore_n 3, 12, 0, 0, 0, 0, []), (12, .iconst 0, 13, 0, 0, 0, 0, []), (13, .istore 4, 15, 0, 0, 0, 0, []), (15, .iload 4, 17, 0, 0, 0, 0, []), (17, .bipush 6, 19, 0, 0, 0, 6, []), (19, .if_icmp .ge 57, 22, 76, 0, 0, 0, []), (22, .aload_n 0, 23, 0, 0, 0, 0, []), (23, .iload_n 3, 24, 0, 0, 0, 0, []), (24, .invokevirtual 77, 27, 2, 1, 0, 0, []), (27, .ifCond .eq 49, 30, 76, 0, 0, 0, []), (30, .aload_n 0, 31, 0, 0, 0, 0, []), (31, .getfield 11, 34, 0, 0, 0, 0, [(0, 0)]), (34, .iload_n 3, 35, 0, 0, 0, 0, []), (35, .aaload, 36, 0, 0, 0, 0, []), (36, .getfield 84, 39, 4, 2, 0, 0, []), (39, .ifCond .eq 16, 42, 55, 0, 0, 0, []), (42, .aload_n 0, 43, 0, 0, 0, 0, []), (43, .getfield 11, 46, 0, 0, 0, 0, [(0, 0)]), (46, .iload_n 3, 47, 0, 0, 0, 0, []), (47, .aaload, 48, 0, 0, 0, 0, []), (48, .getfield 88, 51, 4, 0, 0, 0, [(0, 0)]), (51, .iload_n 2, 52, 0, 0, 0, 0, []), (52, .invokevirtual 180, 55, 63, 1, 5, 0, []), (55, .bipush 100, 57, 0, 0, 0, 100, []), (57, .iload_n 3, 58, 0, 0, 0, 0, []), (58, .iadd, 59, 0, 0, 0, 0, []), (59, .istore_n 2, 60, 0, 0, 0, 0, []), (60, .aload_n 0, 61, 0, 0, 0, 0, []), (61, .getfield 11, 64, 0, 0, 0, 0, [(0, 0)]), (64, .iload_n 3, 65, 0, 0, 0, 0, []), (65, .aaload, 66, 0, 0, 0, 0, []), (66, .getfield 39, 69, 4, 1, 0, 0, []), (69, .istore_n 3, 70, 0, 0, 0, 0, []), (70, .iinc 4 1, 73, 0, 0, 0, 1, []), (73, .goto (-58), 76, 15, 0, 0, 0, []), (76, .return_, 77, 0, 0, 0, 0, [])]
def tbX0_turnInputs : Nat → pm_E := pm_lk ltX0_turnInputs
theorem okX0_turnInputs : ∀ pc, (tbX0_turnInputs pc).1 = .nop ∨ pm_ok mX0_turnInputs pw_Ms pc (tbX0_turnInputs pc) := pm_lk_ok (by decide +kernel)
theorem nr_X0_turnInputs : mX0_turnInputs.2.2.2 = none := rfl
theorem tX0_turnInputs_0 : tbX0_turnInputs 0 = (.iload_n 1, 1, 0, 0, 0, 0, []) := rfl
theorem tX0_turnInputs_1 : tbX0_turnInputs 1 = (.istore_n 2, 2, 0, 0, 0, 0, []) := rfl
theorem tX0_turnInputs_2 : tbX0_turnInputs 2 = (.aload_n 0, 3, 0, 0, 0, 0, []) := rfl
theorem tX0_turnInputs_3 : tbX0_turnInputs 3 = (.getfield 20, 6, 0, 1, 0, 0, [(0, 0)]) := rfl
theorem tX0_turnInputs_6 : tbX0_turnInputs 6 = (.iload_n 1, 7, 0, 0, 0, 0, []) := rfl
theorem tX0_turnInputs_7 : tbX0_turnInputs 7 = (.aaload, 8, 0, 0, 0, 0, []) := rfl
theorem tX0_turnInputs_8 : tbX0_turnInputs 8 = (.getfield 98, 11, 3, 0, 0, 0, []) := rfl
theorem tX0_turnInputs_11 : tbX0_turnInputs 11 = (.istore_n 3, 12, 0, 0, 0, 0, []) := rfl
theorem tX0_turnInputs_12 : tbX0_turnInputs 12 = (.iconst 0, 13, 0, 0, 0, 0, []) := rfl
theorem tX0_turnInputs_13 : tbX0_turnInputs 13 = (.istore 4, 15, 0, 0, 0, 0, []) := rfl
theorem tX0_turnInputs_15 : tbX0_turnInputs 15 = (.iload 4, 17, 0, 0, 0, 0, []) := rfl
theorem tX0_turnInputs_17 : tbX0_turnInputs 17 = (.bipush 6, 19, 0, 0, 0, 6, []) := rfl
theorem tX0_turnInputs_19 : tbX0_turnInputs 19 = (.if_icmp .ge 57, 22, 76, 0, 0, 0, []) := rfl
theorem tX0_turnInputs_22 : tbX0_turnInputs 22 = (.aload_n 0, 23, 0, 0, 0, 0, []) := rfl
theorem tX0_turnInputs_23 : tbX0_turnInputs 23 = (.iload_n 3, 24, 0, 0, 0, 0, []) := rfl
theorem tX0_turnInputs_24 : tbX0_turnInputs 24 = (.invokevirtual 77, 27, 2, 1, 0, 0, []) := rfl
theorem tX0_turnInputs_27 : tbX0_turnInputs 27 = (.ifCond .eq 49, 30, 76, 0, 0, 0, []) := rfl
theorem tX0_turnInputs_30 : tbX0_turnInputs 30 = (.aload_n 0, 31, 0, 0, 0, 0, []) := rfl
theorem tX0_turnInputs_31 : tbX0_turnInputs 31 = (.getfield 11, 34, 0, 0, 0, 0, [(0, 0)]) := rfl
theorem tX0_turnInputs_34 : tbX0_turnInputs 34 = (.iload_n 3, 35, 0, 0, 0, 0, []) := rfl
theorem tX0_turnInputs_35 : tbX0_turnInputs 35 = (.aaload, 36, 0, 0, 0, 0, []) := rfl
theorem tX0_turnInputs_36 : tbX0_turnInputs 36 = (.getfield 84, 39, 4, 2, 0, 0, []) := rfl
theorem tX0_turnInputs_39 : tbX0_turnInputs 39 = (.ifCond .eq 16, 42, 55, 0, 0, 0, []) := rfl
theorem tX0_turnInputs_42 : tbX0_turnInputs 42 = (.aload_n 0, 43, 0, 0, 0, 0, []) := rfl
theorem tX0_turnInputs_43 : tbX0_turnInputs 43 = (.getfield 11, 46, 0, 0, 0, 0, [(0, 0)]) := rfl
theorem tX0_turnInputs_46 : tbX0_turnInputs 46 = (.iload_n 3, 47, 0, 0, 0, 0, []) := rfl
theorem tX0_turnInputs_47 : tbX0_turnInputs 47 = (.aaload, 48, 0, 0, 0, 0, []) := rfl
theorem tX0_turnInputs_48 : tbX0_turnInputs 48 = (.getfield 88, 51, 4, 0, 0, 0, [(0, 0)]) := rfl
theorem tX0_turnInputs_51 : tbX0_turnInputs 51 = (.iload_n 2, 52, 0, 0, 0, 0, []) := rfl
theorem tX0_turnInputs_52 : tbX0_turnInputs 52 = (.invokevirtual 180, 55, 63, 1, 5, 0, []) := rfl
theorem tX0_turnInputs_55 : tbX0_turnInputs 55 = (.bipush 100, 57, 0, 0, 0, 100, []) := rfl
theorem tX0_turnInputs_57 : tbX0_turnInputs 57 = (.iload_n 3, 58, 0, 0, 0, 0, []) := rfl
theorem tX0_turnInputs_58 : tbX0_turnInputs 58 = (.iadd, 59, 0, 0, 0, 0, []) := rfl
theorem tX0_turnInputs_59 : tbX0_turnInputs 59 = (.istore_n 2, 60, 0, 0, 0, 0, []) := rfl
theorem tX0_turnInputs_60 : tbX0_turnInputs 60 = (.aload_n 0, 61, 0, 0, 0, 0, []) := rfl
theorem tX0_turnInputs_61 : tbX0_turnInputs 61 = (.getfield 11, 64, 0, 0, 0, 0, [(0, 0)]) := rfl
theorem tX0_turnInputs_64 : tbX0_turnInputs 64 = (.iload_n 3, 65, 0, 0, 0, 0, []) := rfl
theorem tX0_turnInputs_65 : tbX0_turnInputs 65 = (.aaload, 66, 0, 0, 0, 0, []) := rfl
theorem tX0_turnInputs_66 : tbX0_turnInputs 66 = (.getfield 39, 69, 4, 1, 0, 0, []) := rfl
theorem tX0_turnInputs_69 : tbX0_turnInputs 69 = (.istore_n 3, 70, 0, 0, 0, 0, []) := rfl
theorem tX0_turnInputs_70 : tbX0_turnInputs 70 = (.iinc 4 1, 73, 0, 0, 0, 1, []) := rfl
theorem tX0_turnInputs_73 : tbX0_turnInputs 73 = (.goto (-58), 76, 15, 0, 0, 0, []) := rfl
theorem tX0_turnInputs_76 : tbX0_turnInputs 76 = (.return_, 77, 0, 0, 0, 0, []) := rfl
def ltX0_nextLine : List (Nat × pm_E) := [(0, .iconst (-1), 1, 0, 0, 0, -1, []), (1, .istore_n 1, 2, 0, 0, 0, 0, []), (2, .aload_n 0, 3, 0, 0, 0, 0, []), (3, .invokevirtual 183, 6, 20, 0, 0, 0, []), (6, .istore_n 2, 7, 0, 0, 0, 0, []), (7, .iconst 0, 8, 0, 0, 0, 0, []), (8, .istore_n 3, 9, 0, 0, 0, 0, []), (9, .iload_n 3, 10, 0, 0, 0, 0, []), (10, .bipush 6, 12, 0, 0, 0, 6, []), (12, .if_icmp .ge 16, 15, 28, 0, 0, 0, []), (15, .aload_n 0, 16, 0, 0, 0, 0, []), (16, .getfield 35, 19, 0, 11, 0, 0, [(0, 0)]), (19, .iload_n 3, 20, 0, 0, 0, 0, []), (20, .iconst 0, 21, 0, 0, 0, 0, []), (21, .iastore, 22, 0, 0, 0, 0, []), (22, .iinc 3 1, 25, 0, 0, 0, 1, []), (25, .goto (-16), 28, 9, 0, 0, 0, []), (28, .iconst 0, 29, 0, 0, 0, 0, []), (29, .istore_n 3, 30, 0, 0, 0, 0, []), (30, .iconst 0, 31, 0, 0, 0, 0, []), (31, .istore 4, 33, 0, 0, 0, 0, []), (33, .iload 4, 35, 0, 0, 0, 0, []), (35, .bipush 27, 37, 0, 0, 0, 27, []), (37, .if_icmp .ge 108, 40, 145, 0, 0, 0, []), (40, .aload_n 0, 41, 0, 0, 0, 0, []), (41, .iload_n 3, 42, 0, 0, 0, 0, []), (42, .invokevirtual 77, 45, 2, 1, 0, 0, []), (45, .ifCond .eq 100, 48, 145, 0, 0, 0, []), (48, .aload_n 0, 49, 0, 0, 0, 0, []), (49, .getfield 11, 52, 0, 0, 0, 0, [(0, 0)]), (52, .iload_n 3, 53, 0, 0, 0, 0, []), (53, .aaload, 54, 0, 0, 0, 0, []), (54, .getfield 88, 57, 4, 0, 0, 0, [(0, 0)]), (57, .aload_n 0, 58, 0, 0, 0, 0, []), (58, .getfield 35, 61, 0, 11, 0, 0, [(0, 0)]), (61, .iload_n 3, 62, 0, 0, 0, 0, []), (62, .iaload, 63, 0, 0, 0, 0, []), (63, .invokevirtual 164, 66, 60, 1, 5, 0, []), (66, .istore 5, 68, 0, 0, 0, 0, []), (68, .aload_n 0, 69, 0, 0, 0, 0, []), (69, .getfield 35, 72, 0, 11, 0, 0, [(0, 0)]), (72, .iload_n 3, 73, 0, 0, 0, 0, []), (73, .dup2, 74, 0, 0, 0, 0, []), (74, .iaload, 75, 0, 0, 0, 0, []), (75, .iconst 1, 76, 0, 0, 0, 1, []), (76, .iadd, 77, 0, 0, 0, 0, []), (77, .iastore, 78, 0, 0, 0, 0, []), (78, .iload 5, 80, 0, 0, 0, 0, []), (80, .iconst (-1), 81, 0, 0, 0, -1, []), (81, .if_icmp .ne 16, 84, 97, 0, 0, 0, []), (84, .aload_n 0, 85, 0, 0, 0, 0, []), (85, .getfield 11, 88, 0, 0, 0, 0, [(0, 0)]), (88, .iload_n 3, 89, 0, 0, 0, 0, []), (89, .aaload, 90, 0, 0, 0, 0, []), (90, .getfield 39, 93, 4, 1, 0, 0, []), (93, .istore_n 3, 94, 0, 0, 0, 0, []), (94, .goto 45, 97, 139, 0, 0, 0, []), (97, .iload 5, 99, 0, 0, 0, 0, []), (99, .bipush 100, 101, 0, 0, 0, 100, []), (101, .if_icmp .lt 12, 104, 113, 0, 0, 0, []), (104, .iload 5, 106, 0, 0, 0, 0, []), (106, .bipush 100, 108, 0, 0, 0, 100, []), (108, .isub, 109, 0, 0, 0, 0, []), (109, .istore_n 3, 110, 0, 0, 0, 0, []), (110, .goto 29, 113, 139, 0, 0, 0, []), (113, .aload_n 0, 114, 0, 0, 0, 0, []), (114, .iload 5, 116, 0, 0, 0, 0, []), (116, .iload_n 2, 117, 0, 0, 0, 0, []), (117, .invokevirtual 186, 120, 21, 2, 0, 0, []), (120, .ifCond .eq 19, 123, 139, 0, 0, 0, []), (123, .iload 5, 125, 0, 0, 0, 0, []), (125, .istore_n 1, 126, 0, 0, 0, 0, []), (126, .aload_n 0, 127, 0, 0, 0, 0, []), (127, .getfield 20, 130, 0, 1, 0, 0, [(0, 0)]), (130, .iload 5, 132, 0, 0, 0, 0, []), (132, .aaload, 133, 0, 0, 0, 0, []), (133, .getfield 102, 136, 3, 1, 0, 0, []), (136, .iconst 1, 137, 0, 0, 0, 1, []), (137, .iadd, 138, 0, 0, 0, 0, []), (138, .istore_n 2, 139, 0, 0, 0, 0, []), (139, .iinc 4 1, 142, 0, 0, 0, 1, []), (142, .goto (-109), 145, 33, 0, 0, 0, []), (145, .iload_n 1, 146, 0, 0, 0, 0, []), (146, .ireturn, 147, 0, 0, 0, 0, [])]
def tbX0_nextLine : Nat → pm_E := pm_lk ltX0_nextLine
theorem okX0_nextLine : ∀ pc, (tbX0_nextLine pc).1 = .nop ∨ pm_ok mX0_nextLine pw_Ms pc (tbX0_nextLine pc) := pm_lk_ok (by decide +kernel)
theorem nr_X0_nextLine : mX0_nextLine.2.2.2 = (some .int) := rfl
theorem tX0_nextLine_0 : tbX0_nextLine 0 = (.iconst (-1), 1, 0, 0, 0, -1, []) := rfl
theorem tX0_nextLine_1 : tbX0_nextLine 1 = (.istore_n 1, 2, 0, 0, 0, 0, []) := rfl
theorem tX0_nextLine_2 : tbX0_nextLine 2 = (.aload_n 0, 3, 0, 0, 0, 0, []) := rfl
theorem tX0_nextLine_3 : tbX0_nextLine 3 = (.invokevirtual 183, 6, 20, 0, 0, 0, []) := rfl
theorem tX0_nextLine_6 : tbX0_nextLine 6 = (.istore_n 2, 7, 0, 0, 0, 0, []) := rfl
theorem tX0_nextLine_7 : tbX0_nextLine 7 = (.iconst 0, 8, 0, 0, 0, 0, []) := rfl
theorem tX0_nextLine_8 : tbX0_nextLine 8 = (.istore_n 3, 9, 0, 0, 0, 0, []) := rfl
theorem tX0_nextLine_9 : tbX0_nextLine 9 = (.iload_n 3, 10, 0, 0, 0, 0, []) := rfl
theorem tX0_nextLine_10 : tbX0_nextLine 10 = (.bipush 6, 12, 0, 0, 0, 6, []) := rfl
theorem tX0_nextLine_12 : tbX0_nextLine 12 = (.if_icmp .ge 16, 15, 28, 0, 0, 0, []) := rfl
theorem tX0_nextLine_15 : tbX0_nextLine 15 = (.aload_n 0, 16, 0, 0, 0, 0, []) := rfl
theorem tX0_nextLine_16 : tbX0_nextLine 16 = (.getfield 35, 19, 0, 11, 0, 0, [(0, 0)]) := rfl
theorem tX0_nextLine_19 : tbX0_nextLine 19 = (.iload_n 3, 20, 0, 0, 0, 0, []) := rfl
theorem tX0_nextLine_20 : tbX0_nextLine 20 = (.iconst 0, 21, 0, 0, 0, 0, []) := rfl
theorem tX0_nextLine_21 : tbX0_nextLine 21 = (.iastore, 22, 0, 0, 0, 0, []) := rfl
theorem tX0_nextLine_22 : tbX0_nextLine 22 = (.iinc 3 1, 25, 0, 0, 0, 1, []) := rfl
theorem tX0_nextLine_25 : tbX0_nextLine 25 = (.goto (-16), 28, 9, 0, 0, 0, []) := rfl
theorem tX0_nextLine_28 : tbX0_nextLine 28 = (.iconst 0, 29, 0, 0, 0, 0, []) := rfl
theorem tX0_nextLine_29 : tbX0_nextLine 29 = (.istore_n 3, 30, 0, 0, 0, 0, []) := rfl
theorem tX0_nextLine_30 : tbX0_nextLine 30 = (.iconst 0, 31, 0, 0, 0, 0, []) := rfl
theorem tX0_nextLine_31 : tbX0_nextLine 31 = (.istore 4, 33, 0, 0, 0, 0, []) := rfl
theorem tX0_nextLine_33 : tbX0_nextLine 33 = (.iload 4, 35, 0, 0, 0, 0, []) := rfl
theorem tX0_nextLine_35 : tbX0_nextLine 35 = (.bipush 27, 37, 0, 0, 0, 27, []) := rfl
theorem tX0_nextLine_37 : tbX0_nextLine 37 = (.if_icmp .ge 108, 40, 145, 0, 0, 0, []) := rfl
theorem tX0_nextLine_40 : tbX0_nextLine 40 = (.aload_n 0, 41, 0, 0, 0, 0, []) := rfl
theorem tX0_nextLine_41 : tbX0_nextLine 41 = (.iload_n 3, 42, 0, 0, 0, 0, []) := rfl
theorem tX0_nextLine_42 : tbX0_nextLine 42 = (.invokevirtual 77, 45, 2, 1, 0, 0, []) := rfl
theorem tX0_nextLine_45 : tbX0_nextLine 45 = (.ifCond .eq 100, 48, 145, 0, 0, 0, []) := rfl
theorem tX0_nextLine_48 : tbX0_nextLine 48 = (.aload_n 0, 49, 0, 0, 0, 0, []) := rfl
theorem tX0_nextLine_49 : tbX0_nextLine 49 = (.getfield 11, 52, 0, 0, 0, 0, [(0, 0)]) := rfl
theorem tX0_nextLine_52 : tbX0_nextLine 52 = (.iload_n 3, 53, 0, 0, 0, 0, []) := rfl
theorem tX0_nextLine_53 : tbX0_nextLine 53 = (.aaload, 54, 0, 0, 0, 0, []) := rfl
theorem tX0_nextLine_54 : tbX0_nextLine 54 = (.getfield 88, 57, 4, 0, 0, 0, [(0, 0)]) := rfl
theorem tX0_nextLine_57 : tbX0_nextLine 57 = (.aload_n 0, 58, 0, 0, 0, 0, []) := rfl
theorem tX0_nextLine_58 : tbX0_nextLine 58 = (.getfield 35, 61, 0, 11, 0, 0, [(0, 0)]) := rfl
theorem tX0_nextLine_61 : tbX0_nextLine 61 = (.iload_n 3, 62, 0, 0, 0, 0, []) := rfl
theorem tX0_nextLine_62 : tbX0_nextLine 62 = (.iaload, 63, 0, 0, 0, 0, []) := rfl
theorem tX0_nextLine_63 : tbX0_nextLine 63 = (.invokevirtual 164, 66, 60, 1, 5, 0, []) := rfl
theorem tX0_nextLine_66 : tbX0_nextLine 66 = (.istore 5, 68, 0, 0, 0, 0, []) := rfl
theorem tX0_nextLine_68 : tbX0_nextLine 68 = (.aload_n 0, 69, 0, 0, 0, 0, []) := rfl
theorem tX0_nextLine_69 : tbX0_nextLine 69 = (.getfield 35, 72, 0, 11, 0, 0, [(0, 0)]) := rfl
theorem tX0_nextLine_72 : tbX0_nextLine 72 = (.iload_n 3, 73, 0, 0, 0, 0, []) := rfl
theorem tX0_nextLine_73 : tbX0_nextLine 73 = (.dup2, 74, 0, 0, 0, 0, []) := rfl
theorem tX0_nextLine_74 : tbX0_nextLine 74 = (.iaload, 75, 0, 0, 0, 0, []) := rfl
theorem tX0_nextLine_75 : tbX0_nextLine 75 = (.iconst 1, 76, 0, 0, 0, 1, []) := rfl
theorem tX0_nextLine_76 : tbX0_nextLine 76 = (.iadd, 77, 0, 0, 0, 0, []) := rfl
theorem tX0_nextLine_77 : tbX0_nextLine 77 = (.iastore, 78, 0, 0, 0, 0, []) := rfl
theorem tX0_nextLine_78 : tbX0_nextLine 78 = (.iload 5, 80, 0, 0, 0, 0, []) := rfl
theorem tX0_nextLine_80 : tbX0_nextLine 80 = (.iconst (-1), 81, 0, 0, 0, -1, []) := rfl
theorem tX0_nextLine_81 : tbX0_nextLine 81 = (.if_icmp .ne 16, 84, 97, 0, 0, 0, []) := rfl
theorem tX0_nextLine_84 : tbX0_nextLine 84 = (.aload_n 0, 85, 0, 0, 0, 0, []) := rfl
theorem tX0_nextLine_85 : tbX0_nextLine 85 = (.getfield 11, 88, 0, 0, 0, 0, [(0, 0)]) := rfl
theorem tX0_nextLine_88 : tbX0_nextLine 88 = (.iload_n 3, 89, 0, 0, 0, 0, []) := rfl
theorem tX0_nextLine_89 : tbX0_nextLine 89 = (.aaload, 90, 0, 0, 0, 0, []) := rfl
theorem tX0_nextLine_90 : tbX0_nextLine 90 = (.getfield 39, 93, 4, 1, 0, 0, []) := rfl
theorem tX0_nextLine_93 : tbX0_nextLine 93 = (.istore_n 3, 94, 0, 0, 0, 0, []) := rfl
theorem tX0_nextLine_94 : tbX0_nextLine 94 = (.goto 45, 97, 139, 0, 0, 0, []) := rfl
theorem tX0_nextLine_97 : tbX0_nextLine 97 = (.iload 5, 99, 0, 0, 0, 0, []) := rfl
theorem tX0_nextLine_99 : tbX0_nextLine 99 = (.bipush 100, 101, 0, 0, 0, 100, []) := rfl
theorem tX0_nextLine_101 : tbX0_nextLine 101 = (.if_icmp .lt 12, 104, 113, 0, 0, 0, []) := rfl
theorem tX0_nextLine_104 : tbX0_nextLine 104 = (.iload 5, 106, 0, 0, 0, 0, []) := rfl
theorem tX0_nextLine_106 : tbX0_nextLine 106 = (.bipush 100, 108, 0, 0, 0, 100, []) := rfl
theorem tX0_nextLine_108 : tbX0_nextLine 108 = (.isub, 109, 0, 0, 0, 0, []) := rfl
theorem tX0_nextLine_109 : tbX0_nextLine 109 = (.istore_n 3, 110, 0, 0, 0, 0, []) := rfl
theorem tX0_nextLine_110 : tbX0_nextLine 110 = (.goto 29, 113, 139, 0, 0, 0, []) := rfl
theorem tX0_nextLine_113 : tbX0_nextLine 113 = (.aload_n 0, 114, 0, 0, 0, 0, []) := rfl
theorem tX0_nextLine_114 : tbX0_nextLine 114 = (.iload 5, 116, 0, 0, 0, 0, []) := rfl
theorem tX0_nextLine_116 : tbX0_nextLine 116 = (.iload_n 2, 117, 0, 0, 0, 0, []) := rfl
theorem tX0_nextLine_117 : tbX0_nextLine 117 = (.invokevirtual 186, 120, 21, 2, 0, 0, []) := rfl
theorem tX0_nextLine_120 : tbX0_nextLine 120 = (.ifCond .eq 19, 123, 139, 0, 0, 0, []) := rfl
theorem tX0_nextLine_123 : tbX0_nextLine 123 = (.iload 5, 125, 0, 0, 0, 0, []) := rfl
theorem tX0_nextLine_125 : tbX0_nextLine 125 = (.istore_n 1, 126, 0, 0, 0, 0, []) := rfl
theorem tX0_nextLine_126 : tbX0_nextLine 126 = (.aload_n 0, 127, 0, 0, 0, 0, []) := rfl
theorem tX0_nextLine_127 : tbX0_nextLine 127 = (.getfield 20, 130, 0, 1, 0, 0, [(0, 0)]) := rfl
theorem tX0_nextLine_130 : tbX0_nextLine 130 = (.iload 5, 132, 0, 0, 0, 0, []) := rfl
theorem tX0_nextLine_132 : tbX0_nextLine 132 = (.aaload, 133, 0, 0, 0, 0, []) := rfl
theorem tX0_nextLine_133 : tbX0_nextLine 133 = (.getfield 102, 136, 3, 1, 0, 0, []) := rfl
theorem tX0_nextLine_136 : tbX0_nextLine 136 = (.iconst 1, 137, 0, 0, 0, 1, []) := rfl
theorem tX0_nextLine_137 : tbX0_nextLine 137 = (.iadd, 138, 0, 0, 0, 0, []) := rfl
theorem tX0_nextLine_138 : tbX0_nextLine 138 = (.istore_n 2, 139, 0, 0, 0, 0, []) := rfl
theorem tX0_nextLine_139 : tbX0_nextLine 139 = (.iinc 4 1, 142, 0, 0, 0, 1, []) := rfl
theorem tX0_nextLine_142 : tbX0_nextLine 142 = (.goto (-109), 145, 33, 0, 0, 0, []) := rfl
theorem tX0_nextLine_145 : tbX0_nextLine 145 = (.iload_n 1, 146, 0, 0, 0, 0, []) := rfl
theorem tX0_nextLine_146 : tbX0_nextLine 146 = (.ireturn, 147, 0, 0, 0, 0, []) := rfl
def ltX0_passOver : List (Nat × pm_E) := [(0, .aload_n 0, 1, 0, 0, 0, 0, []), (1, .iload_n 1, 2, 0, 0, 0, 0, []), (2, .invokevirtual 108, 5, 3, 1, 0, 0, []), (5, .ifCond .eq 18, 8, 23, 0, 0, 0, []), (8, .aload_n 0, 9, 0, 0, 0, 0, []), (9, .getfield 20, 12, 0, 1, 0, 0, [(0, 0)]), (12, .iload_n 1, 13, 0, 0, 0, 0, []), (13, .aaload, 14, 0, 0, 0, 0, []), (14, .iconst 0, 15, 0, 0, 0, 0, []), (15, .putfield 130, 18, 3, 3, 0, 0, [(0, 0)]), (18, .aload_n 0, 19, 0, 0, 0, 0, []), (19, .iload_n 1, 20, 0, 0, 0, 0, []), (20, .invokevirtual 160, 23, 17, 1, 0, 0, []), (23, .return_, 24, 0, 0, 0, 0, [])]
def tbX0_passOver : Nat → pm_E := pm_lk ltX0_passOver
theorem okX0_passOver : ∀ pc, (tbX0_passOver pc).1 = .nop ∨ pm_ok mX0_passOver pw_Ms pc (tbX0_passOver pc) := pm_lk_ok (by decide +kernel)
theorem nr_X0_passOver : mX0_passOver.2.2.2 = none := rfl
theorem tX0_passOver_0 : tbX0_passOver 0 = (.aload_n 0, 1, 0, 0, 0, 0, []) := rfl
theorem tX0_passOver_1 : tbX0_passOver 1 = (.iload_n 1, 2, 0, 0, 0, 0, []) := rfl
theorem tX0_passOver_2 : tbX0_passOver 2 = (.invokevirtual 108, 5, 3, 1, 0, 0, []) := rfl
theorem tX0_passOver_5 : tbX0_passOver 5 = (.ifCond .eq 18, 8, 23, 0, 0, 0, []) := rfl
theorem tX0_passOver_8 : tbX0_passOver 8 = (.aload_n 0, 9, 0, 0, 0, 0, []) := rfl
theorem tX0_passOver_9 : tbX0_passOver 9 = (.getfield 20, 12, 0, 1, 0, 0, [(0, 0)]) := rfl
theorem tX0_passOver_12 : tbX0_passOver 12 = (.iload_n 1, 13, 0, 0, 0, 0, []) := rfl
theorem tX0_passOver_13 : tbX0_passOver 13 = (.aaload, 14, 0, 0, 0, 0, []) := rfl
theorem tX0_passOver_14 : tbX0_passOver 14 = (.iconst 0, 15, 0, 0, 0, 0, []) := rfl
theorem tX0_passOver_15 : tbX0_passOver 15 = (.putfield 130, 18, 3, 3, 0, 0, [(0, 0)]) := rfl
theorem tX0_passOver_18 : tbX0_passOver 18 = (.aload_n 0, 19, 0, 0, 0, 0, []) := rfl
theorem tX0_passOver_19 : tbX0_passOver 19 = (.iload_n 1, 20, 0, 0, 0, 0, []) := rfl
theorem tX0_passOver_20 : tbX0_passOver 20 = (.invokevirtual 160, 23, 17, 1, 0, 0, []) := rfl
theorem tX0_passOver_23 : tbX0_passOver 23 = (.return_, 24, 0, 0, 0, 0, []) := rfl
def ltX0_lowestRank : List (Nat × pm_E) := [(0, .aload_n 0, 1, 0, 0, 0, 0, []), (1, .getfield 28, 4, 0, 9, 0, 0, [(0, 0)]), (4, .aload_n 0, 5, 0, 0, 0, 0, []), (5, .getfield 28, 8, 0, 9, 0, 0, [(0, 0)]), (8, .getfield 91, 11, 5, 1, 0, 0, []), (11, .iconst 1, 12, 0, 0, 0, 1, []), (12, .isub, 13, 0, 0, 0, 0, []), (13, .invokevirtual 164, 16, 60, 1, 5, 0, []), (16, .istore_n 1, 17, 0, 0, 0, 0, []), (17, .aload_n 0, 18, 0, 0, 0, 0, []), (18, .iload_n 1, 19, 0, 0, 0, 0, []), (19, .invokevirtual 108, 22, 3, 1, 0, 0, []), (22, .ifCond .eq 24, 25, 46, 0, 0, 0, []), (25, .aload_n 0, 26, 0, 0, 0, 0, []), (26, .getfield 68, 29, 0, 6, 0, 0, []), (29, .aload_n 0, 30, 0, 0, 0, 0, []), (30, .getfield 20, 33, 0, 1, 0, 0, [(0, 0)]), (33, .iload_n 1, 34, 0, 0, 0, 0, []), (34, .aaload, 35, 0, 0, 0, 0, []), (35, .getfield 102, 38, 3, 1, 0, 0, []), (38, .iconst 1, 39, 0, 0, 0, 1, []), (39, .iadd, 40, 0, 0, 0, 0, []), (40, .invokestatic 154, 43, 157, 2, 0, 0, []), (43, .goto 7, 46, 50, 0, 0, 0, []), (46, .aload_n 0, 47, 0, 0, 0, 0, []), (47, .getfield 68, 50, 0, 6, 0, 0, []), (50, .ireturn, 51, 0, 0, 0, 0, [])]
def tbX0_lowestRank : Nat → pm_E := pm_lk ltX0_lowestRank
theorem okX0_lowestRank : ∀ pc, (tbX0_lowestRank pc).1 = .nop ∨ pm_ok mX0_lowestRank pw_Ms pc (tbX0_lowestRank pc) := pm_lk_ok (by decide +kernel)
theorem nr_X0_lowestRank : mX0_lowestRank.2.2.2 = (some .int) := rfl
theorem tX0_lowestRank_0 : tbX0_lowestRank 0 = (.aload_n 0, 1, 0, 0, 0, 0, []) := rfl
theorem tX0_lowestRank_1 : tbX0_lowestRank 1 = (.getfield 28, 4, 0, 9, 0, 0, [(0, 0)]) := rfl
theorem tX0_lowestRank_4 : tbX0_lowestRank 4 = (.aload_n 0, 5, 0, 0, 0, 0, []) := rfl
theorem tX0_lowestRank_5 : tbX0_lowestRank 5 = (.getfield 28, 8, 0, 9, 0, 0, [(0, 0)]) := rfl
theorem tX0_lowestRank_8 : tbX0_lowestRank 8 = (.getfield 91, 11, 5, 1, 0, 0, []) := rfl
theorem tX0_lowestRank_11 : tbX0_lowestRank 11 = (.iconst 1, 12, 0, 0, 0, 1, []) := rfl
theorem tX0_lowestRank_12 : tbX0_lowestRank 12 = (.isub, 13, 0, 0, 0, 0, []) := rfl
theorem tX0_lowestRank_13 : tbX0_lowestRank 13 = (.invokevirtual 164, 16, 60, 1, 5, 0, []) := rfl
theorem tX0_lowestRank_16 : tbX0_lowestRank 16 = (.istore_n 1, 17, 0, 0, 0, 0, []) := rfl
theorem tX0_lowestRank_17 : tbX0_lowestRank 17 = (.aload_n 0, 18, 0, 0, 0, 0, []) := rfl
theorem tX0_lowestRank_18 : tbX0_lowestRank 18 = (.iload_n 1, 19, 0, 0, 0, 0, []) := rfl
theorem tX0_lowestRank_19 : tbX0_lowestRank 19 = (.invokevirtual 108, 22, 3, 1, 0, 0, []) := rfl
theorem tX0_lowestRank_22 : tbX0_lowestRank 22 = (.ifCond .eq 24, 25, 46, 0, 0, 0, []) := rfl
theorem tX0_lowestRank_25 : tbX0_lowestRank 25 = (.aload_n 0, 26, 0, 0, 0, 0, []) := rfl
theorem tX0_lowestRank_26 : tbX0_lowestRank 26 = (.getfield 68, 29, 0, 6, 0, 0, []) := rfl
theorem tX0_lowestRank_29 : tbX0_lowestRank 29 = (.aload_n 0, 30, 0, 0, 0, 0, []) := rfl
theorem tX0_lowestRank_30 : tbX0_lowestRank 30 = (.getfield 20, 33, 0, 1, 0, 0, [(0, 0)]) := rfl
theorem tX0_lowestRank_33 : tbX0_lowestRank 33 = (.iload_n 1, 34, 0, 0, 0, 0, []) := rfl
theorem tX0_lowestRank_34 : tbX0_lowestRank 34 = (.aaload, 35, 0, 0, 0, 0, []) := rfl
theorem tX0_lowestRank_35 : tbX0_lowestRank 35 = (.getfield 102, 38, 3, 1, 0, 0, []) := rfl
theorem tX0_lowestRank_38 : tbX0_lowestRank 38 = (.iconst 1, 39, 0, 0, 0, 1, []) := rfl
theorem tX0_lowestRank_39 : tbX0_lowestRank 39 = (.iadd, 40, 0, 0, 0, 0, []) := rfl
theorem tX0_lowestRank_40 : tbX0_lowestRank 40 = (.invokestatic 154, 43, 157, 2, 0, 0, []) := rfl
theorem tX0_lowestRank_43 : tbX0_lowestRank 43 = (.goto 7, 46, 50, 0, 0, 0, []) := rfl
theorem tX0_lowestRank_46 : tbX0_lowestRank 46 = (.aload_n 0, 47, 0, 0, 0, 0, []) := rfl
theorem tX0_lowestRank_47 : tbX0_lowestRank 47 = (.getfield 68, 50, 0, 6, 0, 0, []) := rfl
theorem tX0_lowestRank_50 : tbX0_lowestRank 50 = (.ireturn, 51, 0, 0, 0, 0, []) := rfl
def ltX0_isReady : List (Nat × pm_E) := [(0, .aload_n 0, 1, 0, 0, 0, 0, []), (1, .iload_n 1, 2, 0, 0, 0, 0, []), (2, .invokevirtual 108, 5, 3, 1, 0, 0, []), (5, .ifCond .ne 5, 8, 10, 0, 0, 0, []), (8, .iconst 0, 9, 0, 0, 0, 0, []), (9, .ireturn, 10, 0, 0, 0, 0, []), (10, .aload_n 0, 11, 0, 0, 0, 0, []), (11, .getfield 20, 14, 0, 1, 0, 0, [(0, 0)]), (14, .iload_n 1, 15, 0, 0, 0, 0, []), (15, .aaload, 16, 0, 0, 0, 0, []), (16, .astore_n 3, 17, 0, 0, 0, 0, []), (17, .aload_n 3, 18, 0, 0, 0, 0, []), (18, .getfield 130, 21, 3, 3, 0, 0, []), (21, .ifCond .eq 30, 24, 51, 0, 0, 0, []), (24, .aload_n 3, 25, 0, 0, 0, 0, []), (25, .getfield 145, 28, 3, 5, 0, 0, []), (28, .ifCond .ne 23, 31, 51, 0, 0, 0, []), (31, .aload_n 3, 32, 0, 0, 0, 0, []), (32, .getfield 102, 35, 3, 1, 0, 0, []), (35, .iload_n 2, 36, 0, 0, 0, 0, []), (36, .if_icmp .lt 15, 39, 51, 0, 0, 0, []), (39, .aload_n 0, 40, 0, 0, 0, 0, []), (40, .iload_n 1, 41, 0, 0, 0, 0, []), (41, .invokevirtual 190, 44, 22, 1, 0, 0, []), (44, .ifCond .ne 7, 47, 51, 0, 0, 0, []), (47, .iconst 1, 48, 0, 0, 0, 1, []), (48, .goto 4, 51, 52, 0, 0, 0, []), (51, .iconst 0, 52, 0, 0, 0, 0, []), (52, .ireturn, 53, 0, 0, 0, 0, [])]
def tbX0_isReady : Nat → pm_E := pm_lk ltX0_isReady
theorem okX0_isReady : ∀ pc, (tbX0_isReady pc).1 = .nop ∨ pm_ok mX0_isReady pw_Ms pc (tbX0_isReady pc) := pm_lk_ok (by decide +kernel)
theorem nr_X0_isReady : mX0_isReady.2.2.2 = (some .boolean) := rfl
theorem tX0_isReady_0 : tbX0_isReady 0 = (.aload_n 0, 1, 0, 0, 0, 0, []) := rfl
theorem tX0_isReady_1 : tbX0_isReady 1 = (.iload_n 1, 2, 0, 0, 0, 0, []) := rfl
theorem tX0_isReady_2 : tbX0_isReady 2 = (.invokevirtual 108, 5, 3, 1, 0, 0, []) := rfl
theorem tX0_isReady_5 : tbX0_isReady 5 = (.ifCond .ne 5, 8, 10, 0, 0, 0, []) := rfl
theorem tX0_isReady_8 : tbX0_isReady 8 = (.iconst 0, 9, 0, 0, 0, 0, []) := rfl
theorem tX0_isReady_9 : tbX0_isReady 9 = (.ireturn, 10, 0, 0, 0, 0, []) := rfl
theorem tX0_isReady_10 : tbX0_isReady 10 = (.aload_n 0, 11, 0, 0, 0, 0, []) := rfl
theorem tX0_isReady_11 : tbX0_isReady 11 = (.getfield 20, 14, 0, 1, 0, 0, [(0, 0)]) := rfl
theorem tX0_isReady_14 : tbX0_isReady 14 = (.iload_n 1, 15, 0, 0, 0, 0, []) := rfl
theorem tX0_isReady_15 : tbX0_isReady 15 = (.aaload, 16, 0, 0, 0, 0, []) := rfl
theorem tX0_isReady_16 : tbX0_isReady 16 = (.astore_n 3, 17, 0, 0, 0, 0, []) := rfl
theorem tX0_isReady_17 : tbX0_isReady 17 = (.aload_n 3, 18, 0, 0, 0, 0, []) := rfl
theorem tX0_isReady_18 : tbX0_isReady 18 = (.getfield 130, 21, 3, 3, 0, 0, []) := rfl
theorem tX0_isReady_21 : tbX0_isReady 21 = (.ifCond .eq 30, 24, 51, 0, 0, 0, []) := rfl
theorem tX0_isReady_24 : tbX0_isReady 24 = (.aload_n 3, 25, 0, 0, 0, 0, []) := rfl
theorem tX0_isReady_25 : tbX0_isReady 25 = (.getfield 145, 28, 3, 5, 0, 0, []) := rfl
theorem tX0_isReady_28 : tbX0_isReady 28 = (.ifCond .ne 23, 31, 51, 0, 0, 0, []) := rfl
theorem tX0_isReady_31 : tbX0_isReady 31 = (.aload_n 3, 32, 0, 0, 0, 0, []) := rfl
theorem tX0_isReady_32 : tbX0_isReady 32 = (.getfield 102, 35, 3, 1, 0, 0, []) := rfl
theorem tX0_isReady_35 : tbX0_isReady 35 = (.iload_n 2, 36, 0, 0, 0, 0, []) := rfl
theorem tX0_isReady_36 : tbX0_isReady 36 = (.if_icmp .lt 15, 39, 51, 0, 0, 0, []) := rfl
theorem tX0_isReady_39 : tbX0_isReady 39 = (.aload_n 0, 40, 0, 0, 0, 0, []) := rfl
theorem tX0_isReady_40 : tbX0_isReady 40 = (.iload_n 1, 41, 0, 0, 0, 0, []) := rfl
theorem tX0_isReady_41 : tbX0_isReady 41 = (.invokevirtual 190, 44, 22, 1, 0, 0, []) := rfl
theorem tX0_isReady_44 : tbX0_isReady 44 = (.ifCond .ne 7, 47, 51, 0, 0, 0, []) := rfl
theorem tX0_isReady_47 : tbX0_isReady 47 = (.iconst 1, 48, 0, 0, 0, 1, []) := rfl
theorem tX0_isReady_48 : tbX0_isReady 48 = (.goto 4, 51, 52, 0, 0, 0, []) := rfl
theorem tX0_isReady_51 : tbX0_isReady 51 = (.iconst 0, 52, 0, 0, 0, 0, []) := rfl
theorem tX0_isReady_52 : tbX0_isReady 52 = (.ireturn, 53, 0, 0, 0, 0, []) := rfl
def ltX0_isMasked : List (Nat × pm_E) := [(0, .aload_n 0, 1, 0, 0, 0, 0, []), (1, .getfield 20, 4, 0, 1, 0, 0, [(0, 0)]), (4, .iload_n 1, 5, 0, 0, 0, 0, []), (5, .aaload, 6, 0, 0, 0, 0, []), (6, .astore_n 2, 7, 0, 0, 0, 0, []), (7, .aload_n 2, 8, 0, 0, 0, 0, []), (8, .getfield 111, 11, 3, 4, 0, 0, []), (11, .ifCond .ne 15, 14, 26, 0, 0, 0, []), (14, .aload_n 2, 15, 0, 0, 0, 0, []), (15, .getfield 101, 18, 3, 12, 0, 0, []), (18, .aload_n 0, 19, 0, 0, 0, 0, []), (19, .getfield 62, 22, 0, 4, 0, 0, []), (22, .iand, 23, 0, 0, 0, 0, []), (23, .ifCond .eq 7, 26, 30, 0, 0, 0, []), (26, .iconst 1, 27, 0, 0, 0, 1, []), (27, .goto 4, 30, 31, 0, 0, 0, []), (30, .iconst 0, 31, 0, 0, 0, 0, []), (31, .ireturn, 32, 0, 0, 0, 0, [])]
def tbX0_isMasked : Nat → pm_E := pm_lk ltX0_isMasked
theorem okX0_isMasked : ∀ pc, (tbX0_isMasked pc).1 = .nop ∨ pm_ok mX0_isMasked pw_Ms pc (tbX0_isMasked pc) := pm_lk_ok (by decide +kernel)
theorem nr_X0_isMasked : mX0_isMasked.2.2.2 = (some .boolean) := rfl
theorem tX0_isMasked_0 : tbX0_isMasked 0 = (.aload_n 0, 1, 0, 0, 0, 0, []) := rfl
theorem tX0_isMasked_1 : tbX0_isMasked 1 = (.getfield 20, 4, 0, 1, 0, 0, [(0, 0)]) := rfl
theorem tX0_isMasked_4 : tbX0_isMasked 4 = (.iload_n 1, 5, 0, 0, 0, 0, []) := rfl
theorem tX0_isMasked_5 : tbX0_isMasked 5 = (.aaload, 6, 0, 0, 0, 0, []) := rfl
theorem tX0_isMasked_6 : tbX0_isMasked 6 = (.astore_n 2, 7, 0, 0, 0, 0, []) := rfl
theorem tX0_isMasked_7 : tbX0_isMasked 7 = (.aload_n 2, 8, 0, 0, 0, 0, []) := rfl
theorem tX0_isMasked_8 : tbX0_isMasked 8 = (.getfield 111, 11, 3, 4, 0, 0, []) := rfl
theorem tX0_isMasked_11 : tbX0_isMasked 11 = (.ifCond .ne 15, 14, 26, 0, 0, 0, []) := rfl
theorem tX0_isMasked_14 : tbX0_isMasked 14 = (.aload_n 2, 15, 0, 0, 0, 0, []) := rfl
theorem tX0_isMasked_15 : tbX0_isMasked 15 = (.getfield 101, 18, 3, 12, 0, 0, []) := rfl
theorem tX0_isMasked_18 : tbX0_isMasked 18 = (.aload_n 0, 19, 0, 0, 0, 0, []) := rfl
theorem tX0_isMasked_19 : tbX0_isMasked 19 = (.getfield 62, 22, 0, 4, 0, 0, []) := rfl
theorem tX0_isMasked_22 : tbX0_isMasked 22 = (.iand, 23, 0, 0, 0, 0, []) := rfl
theorem tX0_isMasked_23 : tbX0_isMasked 23 = (.ifCond .eq 7, 26, 30, 0, 0, 0, []) := rfl
theorem tX0_isMasked_26 : tbX0_isMasked 26 = (.iconst 1, 27, 0, 0, 0, 1, []) := rfl
theorem tX0_isMasked_27 : tbX0_isMasked 27 = (.goto 4, 30, 31, 0, 0, 0, []) := rfl
theorem tX0_isMasked_30 : tbX0_isMasked 30 = (.iconst 0, 31, 0, 0, 0, 0, []) := rfl
theorem tX0_isMasked_31 : tbX0_isMasked 31 = (.ireturn, 32, 0, 0, 0, 0, []) := rfl
def ltX0_litSet : List (Nat × pm_E) := [(0, .iconst 0, 1, 0, 0, 0, 0, []), (1, .istore_n 1, 2, 0, 0, 0, 0, []), (2, .iconst 0, 3, 0, 0, 0, 0, []), (3, .istore_n 2, 4, 0, 0, 0, 0, []), (4, .iload_n 2, 5, 0, 0, 0, 0, []), (5, .aload_n 0, 6, 0, 0, 0, 0, []), (6, .getfield 59, 9, 0, 3, 0, 0, []), (9, .if_icmp .ge 26, 12, 35, 0, 0, 0, []), (12, .iload_n 1, 13, 0, 0, 0, 0, []), (13, .aload_n 0, 14, 0, 0, 0, 0, []), (14, .getfield 20, 17, 0, 1, 0, 0, [(0, 0)]), (17, .iload_n 2, 18, 0, 0, 0, 0, []), (18, .aaload, 19, 0, 0, 0, 0, []), (19, .getfield 130, 22, 3, 3, 0, 0, []), (22, .invokestatic 193, 25, 92, 1, 0, 0, []), (25, .iload_n 2, 26, 0, 0, 0, 0, []), (26, .ishl, 27, 0, 0, 0, 0, []), (27, .ior, 28, 0, 0, 0, 0, []), (28, .istore_n 1, 29, 0, 0, 0, 0, []), (29, .iinc 2 1, 32, 0, 0, 0, 1, []), (32, .goto (-28), 35, 4, 0, 0, 0, []), (35, .iload_n 1, 36, 0, 0, 0, 0, []), (36, .ireturn, 37, 0, 0, 0, 0, [])]
def tbX0_litSet : Nat → pm_E := pm_lk ltX0_litSet
theorem okX0_litSet : ∀ pc, (tbX0_litSet pc).1 = .nop ∨ pm_ok mX0_litSet pw_Ms pc (tbX0_litSet pc) := pm_lk_ok (by decide +kernel)
theorem nr_X0_litSet : mX0_litSet.2.2.2 = (some .int) := rfl
theorem tX0_litSet_0 : tbX0_litSet 0 = (.iconst 0, 1, 0, 0, 0, 0, []) := rfl
theorem tX0_litSet_1 : tbX0_litSet 1 = (.istore_n 1, 2, 0, 0, 0, 0, []) := rfl
theorem tX0_litSet_2 : tbX0_litSet 2 = (.iconst 0, 3, 0, 0, 0, 0, []) := rfl
theorem tX0_litSet_3 : tbX0_litSet 3 = (.istore_n 2, 4, 0, 0, 0, 0, []) := rfl
theorem tX0_litSet_4 : tbX0_litSet 4 = (.iload_n 2, 5, 0, 0, 0, 0, []) := rfl
theorem tX0_litSet_5 : tbX0_litSet 5 = (.aload_n 0, 6, 0, 0, 0, 0, []) := rfl
theorem tX0_litSet_6 : tbX0_litSet 6 = (.getfield 59, 9, 0, 3, 0, 0, []) := rfl
theorem tX0_litSet_9 : tbX0_litSet 9 = (.if_icmp .ge 26, 12, 35, 0, 0, 0, []) := rfl
theorem tX0_litSet_12 : tbX0_litSet 12 = (.iload_n 1, 13, 0, 0, 0, 0, []) := rfl
theorem tX0_litSet_13 : tbX0_litSet 13 = (.aload_n 0, 14, 0, 0, 0, 0, []) := rfl
theorem tX0_litSet_14 : tbX0_litSet 14 = (.getfield 20, 17, 0, 1, 0, 0, [(0, 0)]) := rfl
theorem tX0_litSet_17 : tbX0_litSet 17 = (.iload_n 2, 18, 0, 0, 0, 0, []) := rfl
theorem tX0_litSet_18 : tbX0_litSet 18 = (.aaload, 19, 0, 0, 0, 0, []) := rfl
theorem tX0_litSet_19 : tbX0_litSet 19 = (.getfield 130, 22, 3, 3, 0, 0, []) := rfl
theorem tX0_litSet_22 : tbX0_litSet 22 = (.invokestatic 193, 25, 92, 1, 0, 0, []) := rfl
theorem tX0_litSet_25 : tbX0_litSet 25 = (.iload_n 2, 26, 0, 0, 0, 0, []) := rfl
theorem tX0_litSet_26 : tbX0_litSet 26 = (.ishl, 27, 0, 0, 0, 0, []) := rfl
theorem tX0_litSet_27 : tbX0_litSet 27 = (.ior, 28, 0, 0, 0, 0, []) := rfl
theorem tX0_litSet_28 : tbX0_litSet 28 = (.istore_n 1, 29, 0, 0, 0, 0, []) := rfl
theorem tX0_litSet_29 : tbX0_litSet 29 = (.iinc 2 1, 32, 0, 0, 0, 1, []) := rfl
theorem tX0_litSet_32 : tbX0_litSet 32 = (.goto (-28), 35, 4, 0, 0, 0, []) := rfl
theorem tX0_litSet_35 : tbX0_litSet 35 = (.iload_n 1, 36, 0, 0, 0, 0, []) := rfl
theorem tX0_litSet_36 : tbX0_litSet 36 = (.ireturn, 37, 0, 0, 0, 0, []) := rfl
def ltX0_readySet : List (Nat × pm_E) := [(0, .aload_n 0, 1, 0, 0, 0, 0, []), (1, .invokevirtual 183, 4, 20, 0, 0, 0, []), (4, .istore_n 1, 5, 0, 0, 0, 0, []), (5, .iconst 0, 6, 0, 0, 0, 0, []), (6, .istore_n 2, 7, 0, 0, 0, 0, []), (7, .iconst 0, 8, 0, 0, 0, 0, []), (8, .istore_n 3, 9, 0, 0, 0, 0, []), (9, .iload_n 3, 10, 0, 0, 0, 0, []), (10, .aload_n 0, 11, 0, 0, 0, 0, []), (11, .getfield 59, 14, 0, 3, 0, 0, []), (14, .if_icmp .ge 23, 17, 37, 0, 0, 0, []), (17, .iload_n 2, 18, 0, 0, 0, 0, []), (18, .aload_n 0, 19, 0, 0, 0, 0, []), (19, .iload_n 3, 20, 0, 0, 0, 0, []), (20, .iload_n 1, 21, 0, 0, 0, 0, []), (21, .invokevirtual 186, 24, 21, 2, 0, 0, []), (24, .invokestatic 193, 27, 92, 1, 0, 0, []), (27, .iload_n 3, 28, 0, 0, 0, 0, []), (28, .ishl, 29, 0, 0, 0, 0, []), (29, .ior, 30, 0, 0, 0, 0, []), (30, .istore_n 2, 31, 0, 0, 0, 0, []), (31, .iinc 3 1, 34, 0, 0, 0, 1, []), (34, .goto (-25), 37, 9, 0, 0, 0, []), (37, .iload_n 2, 38, 0, 0, 0, 0, []), (38, .ireturn, 39, 0, 0, 0, 0, [])]
def tbX0_readySet : Nat → pm_E := pm_lk ltX0_readySet
theorem okX0_readySet : ∀ pc, (tbX0_readySet pc).1 = .nop ∨ pm_ok mX0_readySet pw_Ms pc (tbX0_readySet pc) := pm_lk_ok (by decide +kernel)
theorem nr_X0_readySet : mX0_readySet.2.2.2 = (some .int) := rfl
theorem tX0_readySet_0 : tbX0_readySet 0 = (.aload_n 0, 1, 0, 0, 0, 0, []) := rfl
theorem tX0_readySet_1 : tbX0_readySet 1 = (.invokevirtual 183, 4, 20, 0, 0, 0, []) := rfl
theorem tX0_readySet_4 : tbX0_readySet 4 = (.istore_n 1, 5, 0, 0, 0, 0, []) := rfl
theorem tX0_readySet_5 : tbX0_readySet 5 = (.iconst 0, 6, 0, 0, 0, 0, []) := rfl
theorem tX0_readySet_6 : tbX0_readySet 6 = (.istore_n 2, 7, 0, 0, 0, 0, []) := rfl
theorem tX0_readySet_7 : tbX0_readySet 7 = (.iconst 0, 8, 0, 0, 0, 0, []) := rfl
theorem tX0_readySet_8 : tbX0_readySet 8 = (.istore_n 3, 9, 0, 0, 0, 0, []) := rfl
theorem tX0_readySet_9 : tbX0_readySet 9 = (.iload_n 3, 10, 0, 0, 0, 0, []) := rfl
theorem tX0_readySet_10 : tbX0_readySet 10 = (.aload_n 0, 11, 0, 0, 0, 0, []) := rfl
theorem tX0_readySet_11 : tbX0_readySet 11 = (.getfield 59, 14, 0, 3, 0, 0, []) := rfl
theorem tX0_readySet_14 : tbX0_readySet 14 = (.if_icmp .ge 23, 17, 37, 0, 0, 0, []) := rfl
theorem tX0_readySet_17 : tbX0_readySet 17 = (.iload_n 2, 18, 0, 0, 0, 0, []) := rfl
theorem tX0_readySet_18 : tbX0_readySet 18 = (.aload_n 0, 19, 0, 0, 0, 0, []) := rfl
theorem tX0_readySet_19 : tbX0_readySet 19 = (.iload_n 3, 20, 0, 0, 0, 0, []) := rfl
theorem tX0_readySet_20 : tbX0_readySet 20 = (.iload_n 1, 21, 0, 0, 0, 0, []) := rfl
theorem tX0_readySet_21 : tbX0_readySet 21 = (.invokevirtual 186, 24, 21, 2, 0, 0, []) := rfl
theorem tX0_readySet_24 : tbX0_readySet 24 = (.invokestatic 193, 27, 92, 1, 0, 0, []) := rfl
theorem tX0_readySet_27 : tbX0_readySet 27 = (.iload_n 3, 28, 0, 0, 0, 0, []) := rfl
theorem tX0_readySet_28 : tbX0_readySet 28 = (.ishl, 29, 0, 0, 0, 0, []) := rfl
theorem tX0_readySet_29 : tbX0_readySet 29 = (.ior, 30, 0, 0, 0, 0, []) := rfl
theorem tX0_readySet_30 : tbX0_readySet 30 = (.istore_n 2, 31, 0, 0, 0, 0, []) := rfl
theorem tX0_readySet_31 : tbX0_readySet 31 = (.iinc 3 1, 34, 0, 0, 0, 1, []) := rfl
theorem tX0_readySet_34 : tbX0_readySet 34 = (.goto (-25), 37, 9, 0, 0, 0, []) := rfl
theorem tX0_readySet_37 : tbX0_readySet 37 = (.iload_n 2, 38, 0, 0, 0, 0, []) := rfl
theorem tX0_readySet_38 : tbX0_readySet 38 = (.ireturn, 39, 0, 0, 0, 0, []) := rfl
def ltX0_stageSet : List (Nat × pm_E) := [(0, .iconst 0, 1, 0, 0, 0, 0, []), (1, .istore_n 2, 2, 0, 0, 0, 0, []), (2, .iconst 0, 3, 0, 0, 0, 0, []), (3, .istore_n 3, 4, 0, 0, 0, 0, []), (4, .iload_n 3, 5, 0, 0, 0, 0, []), (5, .aload_n 0, 6, 0, 0, 0, 0, []), (6, .getfield 59, 9, 0, 3, 0, 0, []), (9, .if_icmp .ge 35, 12, 44, 0, 0, 0, []), (12, .iload_n 2, 13, 0, 0, 0, 0, []), (13, .aload_n 0, 14, 0, 0, 0, 0, []), (14, .getfield 20, 17, 0, 1, 0, 0, [(0, 0)]), (17, .iload_n 3, 18, 0, 0, 0, 0, []), (18, .aaload, 19, 0, 0, 0, 0, []), (19, .getfield 145, 22, 3, 5, 0, 0, []), (22, .iload_n 1, 23, 0, 0, 0, 0, []), (23, .if_icmp .ne 7, 26, 30, 0, 0, 0, []), (26, .iconst 1, 27, 0, 0, 0, 1, []), (27, .goto 4, 30, 31, 0, 0, 0, []), (30, .iconst 0, 31, 0, 0, 0, 0, []), (31, .invokestatic 193, 34, 92, 1, 0, 0, []), (34, .iload_n 3, 35, 0, 0, 0, 0, []), (35, .ishl, 36, 0, 0, 0, 0, []), (36, .ior, 37, 0, 0, 0, 0, []), (37, .istore_n 2, 38, 0, 0, 0, 0, []), (38, .iinc 3 1, 41, 0, 0, 0, 1, []), (41, .goto (-37), 44, 4, 0, 0, 0, []), (44, .iload_n 2, 45, 0, 0, 0, 0, []), (45, .ireturn, 46, 0, 0, 0, 0, [])]
def tbX0_stageSet : Nat → pm_E := pm_lk ltX0_stageSet
theorem okX0_stageSet : ∀ pc, (tbX0_stageSet pc).1 = .nop ∨ pm_ok mX0_stageSet pw_Ms pc (tbX0_stageSet pc) := pm_lk_ok (by decide +kernel)
theorem nr_X0_stageSet : mX0_stageSet.2.2.2 = (some .int) := rfl
theorem tX0_stageSet_0 : tbX0_stageSet 0 = (.iconst 0, 1, 0, 0, 0, 0, []) := rfl
theorem tX0_stageSet_1 : tbX0_stageSet 1 = (.istore_n 2, 2, 0, 0, 0, 0, []) := rfl
theorem tX0_stageSet_2 : tbX0_stageSet 2 = (.iconst 0, 3, 0, 0, 0, 0, []) := rfl
theorem tX0_stageSet_3 : tbX0_stageSet 3 = (.istore_n 3, 4, 0, 0, 0, 0, []) := rfl
theorem tX0_stageSet_4 : tbX0_stageSet 4 = (.iload_n 3, 5, 0, 0, 0, 0, []) := rfl
theorem tX0_stageSet_5 : tbX0_stageSet 5 = (.aload_n 0, 6, 0, 0, 0, 0, []) := rfl
theorem tX0_stageSet_6 : tbX0_stageSet 6 = (.getfield 59, 9, 0, 3, 0, 0, []) := rfl
theorem tX0_stageSet_9 : tbX0_stageSet 9 = (.if_icmp .ge 35, 12, 44, 0, 0, 0, []) := rfl
theorem tX0_stageSet_12 : tbX0_stageSet 12 = (.iload_n 2, 13, 0, 0, 0, 0, []) := rfl
theorem tX0_stageSet_13 : tbX0_stageSet 13 = (.aload_n 0, 14, 0, 0, 0, 0, []) := rfl
theorem tX0_stageSet_14 : tbX0_stageSet 14 = (.getfield 20, 17, 0, 1, 0, 0, [(0, 0)]) := rfl
theorem tX0_stageSet_17 : tbX0_stageSet 17 = (.iload_n 3, 18, 0, 0, 0, 0, []) := rfl
theorem tX0_stageSet_18 : tbX0_stageSet 18 = (.aaload, 19, 0, 0, 0, 0, []) := rfl
theorem tX0_stageSet_19 : tbX0_stageSet 19 = (.getfield 145, 22, 3, 5, 0, 0, []) := rfl
theorem tX0_stageSet_22 : tbX0_stageSet 22 = (.iload_n 1, 23, 0, 0, 0, 0, []) := rfl
theorem tX0_stageSet_23 : tbX0_stageSet 23 = (.if_icmp .ne 7, 26, 30, 0, 0, 0, []) := rfl
theorem tX0_stageSet_26 : tbX0_stageSet 26 = (.iconst 1, 27, 0, 0, 0, 1, []) := rfl
theorem tX0_stageSet_27 : tbX0_stageSet 27 = (.goto 4, 30, 31, 0, 0, 0, []) := rfl
theorem tX0_stageSet_30 : tbX0_stageSet 30 = (.iconst 0, 31, 0, 0, 0, 0, []) := rfl
theorem tX0_stageSet_31 : tbX0_stageSet 31 = (.invokestatic 193, 34, 92, 1, 0, 0, []) := rfl
theorem tX0_stageSet_34 : tbX0_stageSet 34 = (.iload_n 3, 35, 0, 0, 0, 0, []) := rfl
theorem tX0_stageSet_35 : tbX0_stageSet 35 = (.ishl, 36, 0, 0, 0, 0, []) := rfl
theorem tX0_stageSet_36 : tbX0_stageSet 36 = (.ior, 37, 0, 0, 0, 0, []) := rfl
theorem tX0_stageSet_37 : tbX0_stageSet 37 = (.istore_n 2, 38, 0, 0, 0, 0, []) := rfl
theorem tX0_stageSet_38 : tbX0_stageSet 38 = (.iinc 3 1, 41, 0, 0, 0, 1, []) := rfl
theorem tX0_stageSet_41 : tbX0_stageSet 41 = (.goto (-37), 44, 4, 0, 0, 0, []) := rfl
theorem tX0_stageSet_44 : tbX0_stageSet 44 = (.iload_n 2, 45, 0, 0, 0, 0, []) := rfl
theorem tX0_stageSet_45 : tbX0_stageSet 45 = (.ireturn, 46, 0, 0, 0, 0, []) := rfl
def ltX0_ownMaskSet : List (Nat × pm_E) := [(0, .iconst 0, 1, 0, 0, 0, 0, []), (1, .istore_n 1, 2, 0, 0, 0, 0, []), (2, .iconst 0, 3, 0, 0, 0, 0, []), (3, .istore_n 2, 4, 0, 0, 0, 0, []), (4, .iload_n 2, 5, 0, 0, 0, 0, []), (5, .aload_n 0, 6, 0, 0, 0, 0, []), (6, .getfield 59, 9, 0, 3, 0, 0, []), (9, .if_icmp .ge 26, 12, 35, 0, 0, 0, []), (12, .iload_n 1, 13, 0, 0, 0, 0, []), (13, .aload_n 0, 14, 0, 0, 0, 0, []), (14, .getfield 20, 17, 0, 1, 0, 0, [(0, 0)]), (17, .iload_n 2, 18, 0, 0, 0, 0, []), (18, .aaload, 19, 0, 0, 0, 0, []), (19, .getfield 111, 22, 3, 4, 0, 0, []), (22, .invokestatic 193, 25, 92, 1, 0, 0, []), (25, .iload_n 2, 26, 0, 0, 0, 0, []), (26, .ishl, 27, 0, 0, 0, 0, []), (27, .ior, 28, 0, 0, 0, 0, []), (28, .istore_n 1, 29, 0, 0, 0, 0, []), (29, .iinc 2 1, 32, 0, 0, 0, 1, []), (32, .goto (-28), 35, 4, 0, 0, 0, []), (35, .iload_n 1, 36, 0, 0, 0, 0, []), (36, .ireturn, 37, 0, 0, 0, 0, [])]
def tbX0_ownMaskSet : Nat → pm_E := pm_lk ltX0_ownMaskSet
theorem okX0_ownMaskSet : ∀ pc, (tbX0_ownMaskSet pc).1 = .nop ∨ pm_ok mX0_ownMaskSet pw_Ms pc (tbX0_ownMaskSet pc) := pm_lk_ok (by decide +kernel)
theorem nr_X0_ownMaskSet : mX0_ownMaskSet.2.2.2 = (some .int) := rfl
theorem tX0_ownMaskSet_0 : tbX0_ownMaskSet 0 = (.iconst 0, 1, 0, 0, 0, 0, []) := rfl
theorem tX0_ownMaskSet_1 : tbX0_ownMaskSet 1 = (.istore_n 1, 2, 0, 0, 0, 0, []) := rfl
theorem tX0_ownMaskSet_2 : tbX0_ownMaskSet 2 = (.iconst 0, 3, 0, 0, 0, 0, []) := rfl
theorem tX0_ownMaskSet_3 : tbX0_ownMaskSet 3 = (.istore_n 2, 4, 0, 0, 0, 0, []) := rfl
theorem tX0_ownMaskSet_4 : tbX0_ownMaskSet 4 = (.iload_n 2, 5, 0, 0, 0, 0, []) := rfl
theorem tX0_ownMaskSet_5 : tbX0_ownMaskSet 5 = (.aload_n 0, 6, 0, 0, 0, 0, []) := rfl
theorem tX0_ownMaskSet_6 : tbX0_ownMaskSet 6 = (.getfield 59, 9, 0, 3, 0, 0, []) := rfl
theorem tX0_ownMaskSet_9 : tbX0_ownMaskSet 9 = (.if_icmp .ge 26, 12, 35, 0, 0, 0, []) := rfl
theorem tX0_ownMaskSet_12 : tbX0_ownMaskSet 12 = (.iload_n 1, 13, 0, 0, 0, 0, []) := rfl
theorem tX0_ownMaskSet_13 : tbX0_ownMaskSet 13 = (.aload_n 0, 14, 0, 0, 0, 0, []) := rfl
theorem tX0_ownMaskSet_14 : tbX0_ownMaskSet 14 = (.getfield 20, 17, 0, 1, 0, 0, [(0, 0)]) := rfl
theorem tX0_ownMaskSet_17 : tbX0_ownMaskSet 17 = (.iload_n 2, 18, 0, 0, 0, 0, []) := rfl
theorem tX0_ownMaskSet_18 : tbX0_ownMaskSet 18 = (.aaload, 19, 0, 0, 0, 0, []) := rfl
theorem tX0_ownMaskSet_19 : tbX0_ownMaskSet 19 = (.getfield 111, 22, 3, 4, 0, 0, []) := rfl
theorem tX0_ownMaskSet_22 : tbX0_ownMaskSet 22 = (.invokestatic 193, 25, 92, 1, 0, 0, []) := rfl
theorem tX0_ownMaskSet_25 : tbX0_ownMaskSet 25 = (.iload_n 2, 26, 0, 0, 0, 0, []) := rfl
theorem tX0_ownMaskSet_26 : tbX0_ownMaskSet 26 = (.ishl, 27, 0, 0, 0, 0, []) := rfl
theorem tX0_ownMaskSet_27 : tbX0_ownMaskSet 27 = (.ior, 28, 0, 0, 0, 0, []) := rfl
theorem tX0_ownMaskSet_28 : tbX0_ownMaskSet 28 = (.istore_n 1, 29, 0, 0, 0, 0, []) := rfl
theorem tX0_ownMaskSet_29 : tbX0_ownMaskSet 29 = (.iinc 2 1, 32, 0, 0, 0, 1, []) := rfl
theorem tX0_ownMaskSet_32 : tbX0_ownMaskSet 32 = (.goto (-28), 35, 4, 0, 0, 0, []) := rfl
theorem tX0_ownMaskSet_35 : tbX0_ownMaskSet 35 = (.iload_n 1, 36, 0, 0, 0, 0, []) := rfl
theorem tX0_ownMaskSet_36 : tbX0_ownMaskSet 36 = (.ireturn, 37, 0, 0, 0, 0, []) := rfl
def ltX0_anyMaskSet : List (Nat × pm_E) := [(0, .iconst 0, 1, 0, 0, 0, 0, []), (1, .istore_n 1, 2, 0, 0, 0, 0, []), (2, .iconst 0, 3, 0, 0, 0, 0, []), (3, .istore_n 2, 4, 0, 0, 0, 0, []), (4, .iload_n 2, 5, 0, 0, 0, 0, []), (5, .aload_n 0, 6, 0, 0, 0, 0, []), (6, .getfield 59, 9, 0, 3, 0, 0, []), (9, .if_icmp .ge 22, 12, 31, 0, 0, 0, []), (12, .iload_n 1, 13, 0, 0, 0, 0, []), (13, .aload_n 0, 14, 0, 0, 0, 0, []), (14, .iload_n 2, 15, 0, 0, 0, 0, []), (15, .invokevirtual 190, 18, 22, 1, 0, 0, []), (18, .invokestatic 193, 21, 92, 1, 0, 0, []), (21, .iload_n 2, 22, 0, 0, 0, 0, []), (22, .ishl, 23, 0, 0, 0, 0, []), (23, .ior, 24, 0, 0, 0, 0, []), (24, .istore_n 1, 25, 0, 0, 0, 0, []), (25, .iinc 2 1, 28, 0, 0, 0, 1, []), (28, .goto (-24), 31, 4, 0, 0, 0, []), (31, .iload_n 1, 32, 0, 0, 0, 0, []), (32, .ireturn, 33, 0, 0, 0, 0, [])]
def tbX0_anyMaskSet : Nat → pm_E := pm_lk ltX0_anyMaskSet
theorem okX0_anyMaskSet : ∀ pc, (tbX0_anyMaskSet pc).1 = .nop ∨ pm_ok mX0_anyMaskSet pw_Ms pc (tbX0_anyMaskSet pc) := pm_lk_ok (by decide +kernel)
theorem nr_X0_anyMaskSet : mX0_anyMaskSet.2.2.2 = (some .int) := rfl
theorem tX0_anyMaskSet_0 : tbX0_anyMaskSet 0 = (.iconst 0, 1, 0, 0, 0, 0, []) := rfl
theorem tX0_anyMaskSet_1 : tbX0_anyMaskSet 1 = (.istore_n 1, 2, 0, 0, 0, 0, []) := rfl
theorem tX0_anyMaskSet_2 : tbX0_anyMaskSet 2 = (.iconst 0, 3, 0, 0, 0, 0, []) := rfl
theorem tX0_anyMaskSet_3 : tbX0_anyMaskSet 3 = (.istore_n 2, 4, 0, 0, 0, 0, []) := rfl
theorem tX0_anyMaskSet_4 : tbX0_anyMaskSet 4 = (.iload_n 2, 5, 0, 0, 0, 0, []) := rfl
theorem tX0_anyMaskSet_5 : tbX0_anyMaskSet 5 = (.aload_n 0, 6, 0, 0, 0, 0, []) := rfl
theorem tX0_anyMaskSet_6 : tbX0_anyMaskSet 6 = (.getfield 59, 9, 0, 3, 0, 0, []) := rfl
theorem tX0_anyMaskSet_9 : tbX0_anyMaskSet 9 = (.if_icmp .ge 22, 12, 31, 0, 0, 0, []) := rfl
theorem tX0_anyMaskSet_12 : tbX0_anyMaskSet 12 = (.iload_n 1, 13, 0, 0, 0, 0, []) := rfl
theorem tX0_anyMaskSet_13 : tbX0_anyMaskSet 13 = (.aload_n 0, 14, 0, 0, 0, 0, []) := rfl
theorem tX0_anyMaskSet_14 : tbX0_anyMaskSet 14 = (.iload_n 2, 15, 0, 0, 0, 0, []) := rfl
theorem tX0_anyMaskSet_15 : tbX0_anyMaskSet 15 = (.invokevirtual 190, 18, 22, 1, 0, 0, []) := rfl
theorem tX0_anyMaskSet_18 : tbX0_anyMaskSet 18 = (.invokestatic 193, 21, 92, 1, 0, 0, []) := rfl
theorem tX0_anyMaskSet_21 : tbX0_anyMaskSet 21 = (.iload_n 2, 22, 0, 0, 0, 0, []) := rfl
theorem tX0_anyMaskSet_22 : tbX0_anyMaskSet 22 = (.ishl, 23, 0, 0, 0, 0, []) := rfl
theorem tX0_anyMaskSet_23 : tbX0_anyMaskSet 23 = (.ior, 24, 0, 0, 0, 0, []) := rfl
theorem tX0_anyMaskSet_24 : tbX0_anyMaskSet 24 = (.istore_n 1, 25, 0, 0, 0, 0, []) := rfl
theorem tX0_anyMaskSet_25 : tbX0_anyMaskSet 25 = (.iinc 2 1, 28, 0, 0, 0, 1, []) := rfl
theorem tX0_anyMaskSet_28 : tbX0_anyMaskSet 28 = (.goto (-24), 31, 4, 0, 0, 0, []) := rfl
theorem tX0_anyMaskSet_31 : tbX0_anyMaskSet 31 = (.iload_n 1, 32, 0, 0, 0, 0, []) := rfl
theorem tX0_anyMaskSet_32 : tbX0_anyMaskSet 32 = (.ireturn, 33, 0, 0, 0, 0, []) := rfl
def ltX0_linesBelow : List (Nat × pm_E) := [(0, .iconst 0, 1, 0, 0, 0, 0, []), (1, .istore_n 2, 2, 0, 0, 0, 0, []), (2, .iconst 0, 3, 0, 0, 0, 0, []), (3, .istore_n 3, 4, 0, 0, 0, 0, []), (4, .iload_n 3, 5, 0, 0, 0, 0, []), (5, .aload_n 0, 6, 0, 0, 0, 0, []), (6, .getfield 59, 9, 0, 3, 0, 0, []), (9, .if_icmp .ge 27, 12, 36, 0, 0, 0, []), (12, .iload_n 2, 13, 0, 0, 0, 0, []), (13, .aload_n 0, 14, 0, 0, 0, 0, []), (14, .getfield 20, 17, 0, 1, 0, 0, [(0, 0)]), (17, .iload_n 3, 18, 0, 0, 0, 0, []), (18, .aaload, 19, 0, 0, 0, 0, []), (19, .getfield 101, 22, 3, 12, 0, 0, []), (22, .iload_n 1, 23, 0, 0, 0, 0, []), (23, .ishr, 24, 0, 0, 0, 0, []), (24, .iconst 1, 25, 0, 0, 0, 1, []), (25, .iand, 26, 0, 0, 0, 0, []), (26, .iload_n 3, 27, 0, 0, 0, 0, []), (27, .ishl, 28, 0, 0, 0, 0, []), (28, .ior, 29, 0, 0, 0, 0, []), (29, .istore_n 2, 30, 0, 0, 0, 0, []), (30, .iinc 3 1, 33, 0, 0, 0, 1, []), (33, .goto (-29), 36, 4, 0, 0, 0, []), (36, .iload_n 2, 37, 0, 0, 0, 0, []), (37, .ireturn, 38, 0, 0, 0, 0, [])]
def tbX0_linesBelow : Nat → pm_E := pm_lk ltX0_linesBelow
theorem okX0_linesBelow : ∀ pc, (tbX0_linesBelow pc).1 = .nop ∨ pm_ok mX0_linesBelow pw_Ms pc (tbX0_linesBelow pc) := pm_lk_ok (by decide +kernel)
theorem nr_X0_linesBelow : mX0_linesBelow.2.2.2 = (some .int) := rfl
theorem tX0_linesBelow_0 : tbX0_linesBelow 0 = (.iconst 0, 1, 0, 0, 0, 0, []) := rfl
theorem tX0_linesBelow_1 : tbX0_linesBelow 1 = (.istore_n 2, 2, 0, 0, 0, 0, []) := rfl
theorem tX0_linesBelow_2 : tbX0_linesBelow 2 = (.iconst 0, 3, 0, 0, 0, 0, []) := rfl
theorem tX0_linesBelow_3 : tbX0_linesBelow 3 = (.istore_n 3, 4, 0, 0, 0, 0, []) := rfl
theorem tX0_linesBelow_4 : tbX0_linesBelow 4 = (.iload_n 3, 5, 0, 0, 0, 0, []) := rfl
theorem tX0_linesBelow_5 : tbX0_linesBelow 5 = (.aload_n 0, 6, 0, 0, 0, 0, []) := rfl
theorem tX0_linesBelow_6 : tbX0_linesBelow 6 = (.getfield 59, 9, 0, 3, 0, 0, []) := rfl
theorem tX0_linesBelow_9 : tbX0_linesBelow 9 = (.if_icmp .ge 27, 12, 36, 0, 0, 0, []) := rfl
theorem tX0_linesBelow_12 : tbX0_linesBelow 12 = (.iload_n 2, 13, 0, 0, 0, 0, []) := rfl
theorem tX0_linesBelow_13 : tbX0_linesBelow 13 = (.aload_n 0, 14, 0, 0, 0, 0, []) := rfl
theorem tX0_linesBelow_14 : tbX0_linesBelow 14 = (.getfield 20, 17, 0, 1, 0, 0, [(0, 0)]) := rfl
theorem tX0_linesBelow_17 : tbX0_linesBelow 17 = (.iload_n 3, 18, 0, 0, 0, 0, []) := rfl
theorem tX0_linesBelow_18 : tbX0_linesBelow 18 = (.aaload, 19, 0, 0, 0, 0, []) := rfl
theorem tX0_linesBelow_19 : tbX0_linesBelow 19 = (.getfield 101, 22, 3, 12, 0, 0, []) := rfl
theorem tX0_linesBelow_22 : tbX0_linesBelow 22 = (.iload_n 1, 23, 0, 0, 0, 0, []) := rfl
theorem tX0_linesBelow_23 : tbX0_linesBelow 23 = (.ishr, 24, 0, 0, 0, 0, []) := rfl
theorem tX0_linesBelow_24 : tbX0_linesBelow 24 = (.iconst 1, 25, 0, 0, 0, 1, []) := rfl
theorem tX0_linesBelow_25 : tbX0_linesBelow 25 = (.iand, 26, 0, 0, 0, 0, []) := rfl
theorem tX0_linesBelow_26 : tbX0_linesBelow 26 = (.iload_n 3, 27, 0, 0, 0, 0, []) := rfl
theorem tX0_linesBelow_27 : tbX0_linesBelow 27 = (.ishl, 28, 0, 0, 0, 0, []) := rfl
theorem tX0_linesBelow_28 : tbX0_linesBelow 28 = (.ior, 29, 0, 0, 0, 0, []) := rfl
theorem tX0_linesBelow_29 : tbX0_linesBelow 29 = (.istore_n 2, 30, 0, 0, 0, 0, []) := rfl
theorem tX0_linesBelow_30 : tbX0_linesBelow 30 = (.iinc 3 1, 33, 0, 0, 0, 1, []) := rfl
theorem tX0_linesBelow_33 : tbX0_linesBelow 33 = (.goto (-29), 36, 4, 0, 0, 0, []) := rfl
theorem tX0_linesBelow_36 : tbX0_linesBelow 36 = (.iload_n 2, 37, 0, 0, 0, 0, []) := rfl
theorem tX0_linesBelow_37 : tbX0_linesBelow 37 = (.ireturn, 38, 0, 0, 0, 0, []) := rfl
def ltX0_edgeLineSet : List (Nat × pm_E) := [(0, .iconst 0, 1, 0, 0, 0, 0, []), (1, .istore_n 1, 2, 0, 0, 0, 0, []), (2, .iconst 0, 3, 0, 0, 0, 0, []), (3, .istore_n 2, 4, 0, 0, 0, 0, []), (4, .iload_n 2, 5, 0, 0, 0, 0, []), (5, .aload_n 0, 6, 0, 0, 0, 0, []), (6, .getfield 59, 9, 0, 3, 0, 0, []), (9, .if_icmp .ge 34, 12, 43, 0, 0, 0, []), (12, .iload_n 1, 13, 0, 0, 0, 0, []), (13, .aload_n 0, 14, 0, 0, 0, 0, []), (14, .getfield 20, 17, 0, 1, 0, 0, [(0, 0)]), (17, .iload_n 2, 18, 0, 0, 0, 0, []), (18, .aaload, 19, 0, 0, 0, 0, []), (19, .getfield 105, 22, 3, 2, 0, 0, []), (22, .ifCond .ne 7, 25, 29, 0, 0, 0, []), (25, .iconst 1, 26, 0, 0, 0, 1, []), (26, .goto 4, 29, 30, 0, 0, 0, []), (29, .iconst 0, 30, 0, 0, 0, 0, []), (30, .invokestatic 193, 33, 92, 1, 0, 0, []), (33, .iload_n 2, 34, 0, 0, 0, 0, []), (34, .ishl, 35, 0, 0, 0, 0, []), (35, .ior, 36, 0, 0, 0, 0, []), (36, .istore_n 1, 37, 0, 0, 0, 0, []), (37, .iinc 2 1, 40, 0, 0, 0, 1, []), (40, .goto (-36), 43, 4, 0, 0, 0, []), (43, .iload_n 1, 44, 0, 0, 0, 0, []), (44, .ireturn, 45, 0, 0, 0, 0, [])]
def tbX0_edgeLineSet : Nat → pm_E := pm_lk ltX0_edgeLineSet
theorem okX0_edgeLineSet : ∀ pc, (tbX0_edgeLineSet pc).1 = .nop ∨ pm_ok mX0_edgeLineSet pw_Ms pc (tbX0_edgeLineSet pc) := pm_lk_ok (by decide +kernel)
theorem nr_X0_edgeLineSet : mX0_edgeLineSet.2.2.2 = (some .int) := rfl
theorem tX0_edgeLineSet_0 : tbX0_edgeLineSet 0 = (.iconst 0, 1, 0, 0, 0, 0, []) := rfl
theorem tX0_edgeLineSet_1 : tbX0_edgeLineSet 1 = (.istore_n 1, 2, 0, 0, 0, 0, []) := rfl
theorem tX0_edgeLineSet_2 : tbX0_edgeLineSet 2 = (.iconst 0, 3, 0, 0, 0, 0, []) := rfl
theorem tX0_edgeLineSet_3 : tbX0_edgeLineSet 3 = (.istore_n 2, 4, 0, 0, 0, 0, []) := rfl
theorem tX0_edgeLineSet_4 : tbX0_edgeLineSet 4 = (.iload_n 2, 5, 0, 0, 0, 0, []) := rfl
theorem tX0_edgeLineSet_5 : tbX0_edgeLineSet 5 = (.aload_n 0, 6, 0, 0, 0, 0, []) := rfl
theorem tX0_edgeLineSet_6 : tbX0_edgeLineSet 6 = (.getfield 59, 9, 0, 3, 0, 0, []) := rfl
theorem tX0_edgeLineSet_9 : tbX0_edgeLineSet 9 = (.if_icmp .ge 34, 12, 43, 0, 0, 0, []) := rfl
theorem tX0_edgeLineSet_12 : tbX0_edgeLineSet 12 = (.iload_n 1, 13, 0, 0, 0, 0, []) := rfl
theorem tX0_edgeLineSet_13 : tbX0_edgeLineSet 13 = (.aload_n 0, 14, 0, 0, 0, 0, []) := rfl
theorem tX0_edgeLineSet_14 : tbX0_edgeLineSet 14 = (.getfield 20, 17, 0, 1, 0, 0, [(0, 0)]) := rfl
theorem tX0_edgeLineSet_17 : tbX0_edgeLineSet 17 = (.iload_n 2, 18, 0, 0, 0, 0, []) := rfl
theorem tX0_edgeLineSet_18 : tbX0_edgeLineSet 18 = (.aaload, 19, 0, 0, 0, 0, []) := rfl
theorem tX0_edgeLineSet_19 : tbX0_edgeLineSet 19 = (.getfield 105, 22, 3, 2, 0, 0, []) := rfl
theorem tX0_edgeLineSet_22 : tbX0_edgeLineSet 22 = (.ifCond .ne 7, 25, 29, 0, 0, 0, []) := rfl
theorem tX0_edgeLineSet_25 : tbX0_edgeLineSet 25 = (.iconst 1, 26, 0, 0, 0, 1, []) := rfl
theorem tX0_edgeLineSet_26 : tbX0_edgeLineSet 26 = (.goto 4, 29, 30, 0, 0, 0, []) := rfl
theorem tX0_edgeLineSet_29 : tbX0_edgeLineSet 29 = (.iconst 0, 30, 0, 0, 0, 0, []) := rfl
theorem tX0_edgeLineSet_30 : tbX0_edgeLineSet 30 = (.invokestatic 193, 33, 92, 1, 0, 0, []) := rfl
theorem tX0_edgeLineSet_33 : tbX0_edgeLineSet 33 = (.iload_n 2, 34, 0, 0, 0, 0, []) := rfl
theorem tX0_edgeLineSet_34 : tbX0_edgeLineSet 34 = (.ishl, 35, 0, 0, 0, 0, []) := rfl
theorem tX0_edgeLineSet_35 : tbX0_edgeLineSet 35 = (.ior, 36, 0, 0, 0, 0, []) := rfl
theorem tX0_edgeLineSet_36 : tbX0_edgeLineSet 36 = (.istore_n 1, 37, 0, 0, 0, 0, []) := rfl
theorem tX0_edgeLineSet_37 : tbX0_edgeLineSet 37 = (.iinc 2 1, 40, 0, 0, 0, 1, []) := rfl
theorem tX0_edgeLineSet_40 : tbX0_edgeLineSet 40 = (.goto (-36), 43, 4, 0, 0, 0, []) := rfl
theorem tX0_edgeLineSet_43 : tbX0_edgeLineSet 43 = (.iload_n 1, 44, 0, 0, 0, 0, []) := rfl
theorem tX0_edgeLineSet_44 : tbX0_edgeLineSet 44 = (.ireturn, 45, 0, 0, 0, 0, []) := rfl
def ltX0_tellLine : List (Nat × pm_E) := [(0, .aload_n 0, 1, 0, 0, 0, 0, []), (1, .iload_n 1, 2, 0, 0, 0, 0, []), (2, .invokevirtual 108, 5, 3, 1, 0, 0, []), (5, .ifCond .ne 5, 8, 10, 0, 0, 0, []), (8, .iconst (-1), 9, 0, 0, 0, -1, []), (9, .ireturn, 10, 0, 0, 0, 0, []), (10, .aload_n 0, 11, 0, 0, 0, 0, []), (11, .getfield 20, 14, 0, 1, 0, 0, [(0, 0)]), (14, .iload_n 1, 15, 0, 0, 0, 0, []), (15, .aaload, 16, 0, 0, 0, 0, []), (16, .astore_n 3, 17, 0, 0, 0, 0, []), (17, .iload_n 2, 18, 0, 0, 0, 0, []), (18, .tableswitch 176 0 11 #[62, 67, 72, 80, 88, 93, 101, 114, 119, 124, 129, 153], 80, 194, 0, 0, 0, [(0, 80), (1, 85), (2, 90), (3, 98), (4, 106), (5, 111), (6, 119), (7, 132), (8, 137), (9, 142), (10, 147), (11, 171)]), (80, .aload_n 3, 81, 0, 0, 0, 0, []), (81, .getfield 98, 84, 3, 0, 0, 0, []), (84, .ireturn, 85, 0, 0, 0, 0, []), (85, .aload_n 3, 86, 0, 0, 0, 0, []), (86, .getfield 102, 89, 3, 1, 0, 0, []), (89, .ireturn, 90, 0, 0, 0, 0, []), (90, .aload_n 3, 91, 0, 0, 0, 0, []), (91, .getfield 105, 94, 3, 2, 0, 0, []), (94, .invokestatic 193, 97, 92, 1, 0, 0, []), (97, .ireturn, 98, 0, 0, 0, 0, []), (98, .aload_n 3, 99, 0, 0, 0, 0, []), (99, .getfield 130, 102, 3, 3, 0, 0, []), (102, .invokestatic 193, 105, 92, 1, 0, 0, []), (105, .ireturn, 106, 0, 0, 0, 0, []), (106, .aload_n 3, 107, 0, 0, 0, 0, []), (107, .getfield 145, 110, 3, 5, 0, 0, []), (110, .ireturn, 111, 0, 0, 0, 0, []), (111, .aload_n 3, 112, 0, 0, 0, 0, []), (112, .getfield 111, 115, 3, 4, 0, 0, []), (115, .invokestatic 193, 118, 92, 1, 0, 0, []), (118, .ireturn, 119, 0, 0, 0, 0, []), (119, .aload_n 0, 120, 0, 0, 0, 0, []), (120, .iload_n 1, 121, 0, 0, 0, 0, []), (121, .aload_n 0, 122, 0, 0, 0, 0, []), (122, .invokevirtual 183, 125, 20, 0, 0, 0, []), (125, .invokevirtual 186, 128, 21, 2, 0, 0, []), (128, .invokestatic 193, 131, 92, 1, 0, 0, []), (131, .ireturn, 132, 0, 0, 0, 0, []), (132, .aload_n 3, 133, 0, 0, 0, 0, []), (133, .getfield 127, 136, 3, 6, 0, 0, []), (136, .ireturn, 137, 0, 0, 0, 0, []), (137, .aload_n 3, 138, 0, 0, 0, 0, []), (138, .getfield 133, 141, 3, 7, 0, 0, []), (141, .ireturn, 142, 0, 0, 0, 0, []), (142, .aload_n 3, 143, 0, 0, 0, 0, []), (143, .getfield 148, 146, 3, 8, 0, 0, []), (146, .ireturn, 147, 0, 0, 0, 0, []), (147, .aload_n 3, 148, 0, 0, 0, 0, []), (148, .getfield 105, 151, 3, 2, 0, 0, []), (151, .ifCond .ne 10, 154, 161, 0, 0, 0, []), (154, .aload_n 3, 155, 0, 0, 0, 0, []), (155, .getfield 148, 158, 3, 8, 0, 0, []), (158, .ifCond .ne 8, 161, 166, 0, 0, 0, []), (161, .bipush (-4), 163, 0, 0, 0, -4, []), (163, .goto 7, 166, 170, 0, 0, 0, []), (166, .aload_n 3, 167, 0, 0, 0, 0, []), (167, .getfield 151, 170, 3, 9, 0, 0, []), (170, .ireturn, 171, 0, 0, 0, 0, []), (171, .aload_n 3, 172, 0, 0, 0, 0, []), (172, .getfield 145, 175, 3, 5, 0, 0, []), (175, .iconst 2, 176, 0, 0, 0, 2, []), (176, .if_icmp .ne 15, 179, 191, 0, 0, 0, []), (179, .aload_n 3, 180, 0, 0, 0, 0, []), (180, .getfield 170, 183, 3, 11, 0, 0, []), (183, .aload_n 0, 184, 0, 0, 0, 0, []), (184, .getfield 65, 187, 0, 5, 0, 0, []), (187, .isub, 188, 0, 0, 0, 0, []), (188, .goto 5, 191, 193, 0, 0, 0, []), (191, .bipush (-4), 193, 0, 0, 0, -4, []), (193, .ireturn, 194, 0, 0, 0, 0, []), (194, .iconst (-1), 195, 0, 0, 0, -1, []), (195, .ireturn, 196, 0, 0, 0, 0, [])]
def tbX0_tellLine : Nat → pm_E := pm_lk ltX0_tellLine
theorem okX0_tellLine : ∀ pc, (tbX0_tellLine pc).1 = .nop ∨ pm_ok mX0_tellLine pw_Ms pc (tbX0_tellLine pc) := pm_lk_ok (by decide +kernel)
theorem nr_X0_tellLine : mX0_tellLine.2.2.2 = (some .int) := rfl
theorem tX0_tellLine_0 : tbX0_tellLine 0 = (.aload_n 0, 1, 0, 0, 0, 0, []) := rfl
theorem tX0_tellLine_1 : tbX0_tellLine 1 = (.iload_n 1, 2, 0, 0, 0, 0, []) := rfl
theorem tX0_tellLine_2 : tbX0_tellLine 2 = (.invokevirtual 108, 5, 3, 1, 0, 0, []) := rfl
theorem tX0_tellLine_5 : tbX0_tellLine 5 = (.ifCond .ne 5, 8, 10, 0, 0, 0, []) := rfl
theorem tX0_tellLine_8 : tbX0_tellLine 8 = (.iconst (-1), 9, 0, 0, 0, -1, []) := rfl
theorem tX0_tellLine_9 : tbX0_tellLine 9 = (.ireturn, 10, 0, 0, 0, 0, []) := rfl
theorem tX0_tellLine_10 : tbX0_tellLine 10 = (.aload_n 0, 11, 0, 0, 0, 0, []) := rfl
theorem tX0_tellLine_11 : tbX0_tellLine 11 = (.getfield 20, 14, 0, 1, 0, 0, [(0, 0)]) := rfl
theorem tX0_tellLine_14 : tbX0_tellLine 14 = (.iload_n 1, 15, 0, 0, 0, 0, []) := rfl
theorem tX0_tellLine_15 : tbX0_tellLine 15 = (.aaload, 16, 0, 0, 0, 0, []) := rfl
theorem tX0_tellLine_16 : tbX0_tellLine 16 = (.astore_n 3, 17, 0, 0, 0, 0, []) := rfl
theorem tX0_tellLine_17 : tbX0_tellLine 17 = (.iload_n 2, 18, 0, 0, 0, 0, []) := rfl
theorem tX0_tellLine_18 : tbX0_tellLine 18 = (.tableswitch 176 0 11 #[62, 67, 72, 80, 88, 93, 101, 114, 119, 124, 129, 153], 80, 194, 0, 0, 0, [(0, 80), (1, 85), (2, 90), (3, 98), (4, 106), (5, 111), (6, 119), (7, 132), (8, 137), (9, 142), (10, 147), (11, 171)]) := rfl
theorem tX0_tellLine_80 : tbX0_tellLine 80 = (.aload_n 3, 81, 0, 0, 0, 0, []) := rfl
theorem tX0_tellLine_81 : tbX0_tellLine 81 = (.getfield 98, 84, 3, 0, 0, 0, []) := rfl
theorem tX0_tellLine_84 : tbX0_tellLine 84 = (.ireturn, 85, 0, 0, 0, 0, []) := rfl
theorem tX0_tellLine_85 : tbX0_tellLine 85 = (.aload_n 3, 86, 0, 0, 0, 0, []) := rfl
theorem tX0_tellLine_86 : tbX0_tellLine 86 = (.getfield 102, 89, 3, 1, 0, 0, []) := rfl
theorem tX0_tellLine_89 : tbX0_tellLine 89 = (.ireturn, 90, 0, 0, 0, 0, []) := rfl
theorem tX0_tellLine_90 : tbX0_tellLine 90 = (.aload_n 3, 91, 0, 0, 0, 0, []) := rfl
theorem tX0_tellLine_91 : tbX0_tellLine 91 = (.getfield 105, 94, 3, 2, 0, 0, []) := rfl
theorem tX0_tellLine_94 : tbX0_tellLine 94 = (.invokestatic 193, 97, 92, 1, 0, 0, []) := rfl
theorem tX0_tellLine_97 : tbX0_tellLine 97 = (.ireturn, 98, 0, 0, 0, 0, []) := rfl
theorem tX0_tellLine_98 : tbX0_tellLine 98 = (.aload_n 3, 99, 0, 0, 0, 0, []) := rfl
theorem tX0_tellLine_99 : tbX0_tellLine 99 = (.getfield 130, 102, 3, 3, 0, 0, []) := rfl
theorem tX0_tellLine_102 : tbX0_tellLine 102 = (.invokestatic 193, 105, 92, 1, 0, 0, []) := rfl
theorem tX0_tellLine_105 : tbX0_tellLine 105 = (.ireturn, 106, 0, 0, 0, 0, []) := rfl
theorem tX0_tellLine_106 : tbX0_tellLine 106 = (.aload_n 3, 107, 0, 0, 0, 0, []) := rfl
theorem tX0_tellLine_107 : tbX0_tellLine 107 = (.getfield 145, 110, 3, 5, 0, 0, []) := rfl
theorem tX0_tellLine_110 : tbX0_tellLine 110 = (.ireturn, 111, 0, 0, 0, 0, []) := rfl
theorem tX0_tellLine_111 : tbX0_tellLine 111 = (.aload_n 3, 112, 0, 0, 0, 0, []) := rfl
theorem tX0_tellLine_112 : tbX0_tellLine 112 = (.getfield 111, 115, 3, 4, 0, 0, []) := rfl
theorem tX0_tellLine_115 : tbX0_tellLine 115 = (.invokestatic 193, 118, 92, 1, 0, 0, []) := rfl
theorem tX0_tellLine_118 : tbX0_tellLine 118 = (.ireturn, 119, 0, 0, 0, 0, []) := rfl
theorem tX0_tellLine_119 : tbX0_tellLine 119 = (.aload_n 0, 120, 0, 0, 0, 0, []) := rfl
theorem tX0_tellLine_120 : tbX0_tellLine 120 = (.iload_n 1, 121, 0, 0, 0, 0, []) := rfl
theorem tX0_tellLine_121 : tbX0_tellLine 121 = (.aload_n 0, 122, 0, 0, 0, 0, []) := rfl
theorem tX0_tellLine_122 : tbX0_tellLine 122 = (.invokevirtual 183, 125, 20, 0, 0, 0, []) := rfl
theorem tX0_tellLine_125 : tbX0_tellLine 125 = (.invokevirtual 186, 128, 21, 2, 0, 0, []) := rfl
theorem tX0_tellLine_128 : tbX0_tellLine 128 = (.invokestatic 193, 131, 92, 1, 0, 0, []) := rfl
theorem tX0_tellLine_131 : tbX0_tellLine 131 = (.ireturn, 132, 0, 0, 0, 0, []) := rfl
theorem tX0_tellLine_132 : tbX0_tellLine 132 = (.aload_n 3, 133, 0, 0, 0, 0, []) := rfl
theorem tX0_tellLine_133 : tbX0_tellLine 133 = (.getfield 127, 136, 3, 6, 0, 0, []) := rfl
theorem tX0_tellLine_136 : tbX0_tellLine 136 = (.ireturn, 137, 0, 0, 0, 0, []) := rfl
theorem tX0_tellLine_137 : tbX0_tellLine 137 = (.aload_n 3, 138, 0, 0, 0, 0, []) := rfl
theorem tX0_tellLine_138 : tbX0_tellLine 138 = (.getfield 133, 141, 3, 7, 0, 0, []) := rfl
theorem tX0_tellLine_141 : tbX0_tellLine 141 = (.ireturn, 142, 0, 0, 0, 0, []) := rfl
theorem tX0_tellLine_142 : tbX0_tellLine 142 = (.aload_n 3, 143, 0, 0, 0, 0, []) := rfl
theorem tX0_tellLine_143 : tbX0_tellLine 143 = (.getfield 148, 146, 3, 8, 0, 0, []) := rfl
theorem tX0_tellLine_146 : tbX0_tellLine 146 = (.ireturn, 147, 0, 0, 0, 0, []) := rfl
theorem tX0_tellLine_147 : tbX0_tellLine 147 = (.aload_n 3, 148, 0, 0, 0, 0, []) := rfl
theorem tX0_tellLine_148 : tbX0_tellLine 148 = (.getfield 105, 151, 3, 2, 0, 0, []) := rfl
theorem tX0_tellLine_151 : tbX0_tellLine 151 = (.ifCond .ne 10, 154, 161, 0, 0, 0, []) := rfl
theorem tX0_tellLine_154 : tbX0_tellLine 154 = (.aload_n 3, 155, 0, 0, 0, 0, []) := rfl
theorem tX0_tellLine_155 : tbX0_tellLine 155 = (.getfield 148, 158, 3, 8, 0, 0, []) := rfl
theorem tX0_tellLine_158 : tbX0_tellLine 158 = (.ifCond .ne 8, 161, 166, 0, 0, 0, []) := rfl
theorem tX0_tellLine_161 : tbX0_tellLine 161 = (.bipush (-4), 163, 0, 0, 0, -4, []) := rfl
theorem tX0_tellLine_163 : tbX0_tellLine 163 = (.goto 7, 166, 170, 0, 0, 0, []) := rfl
theorem tX0_tellLine_166 : tbX0_tellLine 166 = (.aload_n 3, 167, 0, 0, 0, 0, []) := rfl
theorem tX0_tellLine_167 : tbX0_tellLine 167 = (.getfield 151, 170, 3, 9, 0, 0, []) := rfl
theorem tX0_tellLine_170 : tbX0_tellLine 170 = (.ireturn, 171, 0, 0, 0, 0, []) := rfl
theorem tX0_tellLine_171 : tbX0_tellLine 171 = (.aload_n 3, 172, 0, 0, 0, 0, []) := rfl
theorem tX0_tellLine_172 : tbX0_tellLine 172 = (.getfield 145, 175, 3, 5, 0, 0, []) := rfl
theorem tX0_tellLine_175 : tbX0_tellLine 175 = (.iconst 2, 176, 0, 0, 0, 2, []) := rfl
theorem tX0_tellLine_176 : tbX0_tellLine 176 = (.if_icmp .ne 15, 179, 191, 0, 0, 0, []) := rfl
theorem tX0_tellLine_179 : tbX0_tellLine 179 = (.aload_n 3, 180, 0, 0, 0, 0, []) := rfl
theorem tX0_tellLine_180 : tbX0_tellLine 180 = (.getfield 170, 183, 3, 11, 0, 0, []) := rfl
theorem tX0_tellLine_183 : tbX0_tellLine 183 = (.aload_n 0, 184, 0, 0, 0, 0, []) := rfl
theorem tX0_tellLine_184 : tbX0_tellLine 184 = (.getfield 65, 187, 0, 5, 0, 0, []) := rfl
theorem tX0_tellLine_187 : tbX0_tellLine 187 = (.isub, 188, 0, 0, 0, 0, []) := rfl
theorem tX0_tellLine_188 : tbX0_tellLine 188 = (.goto 5, 191, 193, 0, 0, 0, []) := rfl
theorem tX0_tellLine_191 : tbX0_tellLine 191 = (.bipush (-4), 193, 0, 0, 0, -4, []) := rfl
theorem tX0_tellLine_193 : tbX0_tellLine 193 = (.ireturn, 194, 0, 0, 0, 0, []) := rfl
theorem tX0_tellLine_194 : tbX0_tellLine 194 = (.iconst (-1), 195, 0, 0, 0, -1, []) := rfl
theorem tX0_tellLine_195 : tbX0_tellLine 195 = (.ireturn, 196, 0, 0, 0, 0, []) := rfl
def ltX0_tellNode : List (Nat × pm_E) := [(0, .aload_n 0, 1, 0, 0, 0, 0, []), (1, .iload_n 1, 2, 0, 0, 0, 0, []), (2, .invokevirtual 77, 5, 2, 1, 0, 0, []), (5, .ifCond .ne 5, 8, 10, 0, 0, 0, []), (8, .iconst (-1), 9, 0, 0, 0, -1, []), (9, .ireturn, 10, 0, 0, 0, 0, []), (10, .aload_n 0, 11, 0, 0, 0, 0, []), (11, .getfield 11, 14, 0, 0, 0, 0, [(0, 0)]), (14, .iload_n 1, 15, 0, 0, 0, 0, []), (15, .aaload, 16, 0, 0, 0, 0, []), (16, .astore_n 3, 17, 0, 0, 0, 0, []), (17, .iload_n 2, 18, 0, 0, 0, 0, []), (18, .tableswitch 101 0 5 #[38, 56, 64, 72, 81, 90], 56, 119, 0, 0, 0, [(0, 56), (1, 74), (2, 82), (3, 90), (4, 99), (5, 108)]), (56, .aload_n 3, 57, 0, 0, 0, 0, []), (57, .getfield 39, 60, 4, 1, 0, 0, []), (60, .iconst (-1), 61, 0, 0, 0, -1, []), (61, .if_icmp .ne 8, 64, 69, 0, 0, 0, []), (64, .bipush (-4), 66, 0, 0, 0, -4, []), (66, .goto 7, 69, 73, 0, 0, 0, []), (69, .aload_n 3, 70, 0, 0, 0, 0, []), (70, .getfield 39, 73, 4, 1, 0, 0, []), (73, .ireturn, 74, 0, 0, 0, 0, []), (74, .aload_n 3, 75, 0, 0, 0, 0, []), (75, .getfield 84, 78, 4, 2, 0, 0, []), (78, .invokestatic 193, 81, 92, 1, 0, 0, []), (81, .ireturn, 82, 0, 0, 0, 0, []), (82, .aload_n 3, 83, 0, 0, 0, 0, []), (83, .getfield 88, 86, 4, 0, 0, 0, [(0, 0)]), (86, .getfield 91, 89, 5, 1, 0, 0, []), (89, .ireturn, 90, 0, 0, 0, 0, []), (90, .aload_n 0, 91, 0, 0, 0, 0, []), (91, .getfield 62, 94, 0, 4, 0, 0, []), (94, .iload_n 1, 95, 0, 0, 0, 0, []), (95, .ishr, 96, 0, 0, 0, 0, []), (96, .iconst 1, 97, 0, 0, 0, 1, []), (97, .iand, 98, 0, 0, 0, 0, []), (98, .ireturn, 99, 0, 0, 0, 0, []), (99, .aload_n 0, 100, 0, 0, 0, 0, []), (100, .iload_n 1, 101, 0, 0, 0, 0, []), (101, .invokevirtual 124, 104, 28, 1, 0, 0, []), (104, .invokestatic 118, 107, 156, 1, 0, 0, []), (107, .ireturn, 108, 0, 0, 0, 0, []), (108, .aload_n 0, 109, 0, 0, 0, 0, []), (109, .iload_n 1, 110, 0, 0, 0, 0, []), (110, .invokevirtual 124, 113, 28, 1, 0, 0, []), (113, .aload_n 0, 114, 0, 0, 0, 0, []), (114, .invokevirtual 139, 117, 23, 0, 0, 0, []), (117, .iand, 118, 0, 0, 0, 0, []), (118, .ireturn, 119, 0, 0, 0, 0, []), (119, .iconst (-1), 120, 0, 0, 0, -1, []), (120, .ireturn, 121, 0, 0, 0, 0, [])]
def tbX0_tellNode : Nat → pm_E := pm_lk ltX0_tellNode
theorem okX0_tellNode : ∀ pc, (tbX0_tellNode pc).1 = .nop ∨ pm_ok mX0_tellNode pw_Ms pc (tbX0_tellNode pc) := pm_lk_ok (by decide +kernel)
theorem nr_X0_tellNode : mX0_tellNode.2.2.2 = (some .int) := rfl
theorem tX0_tellNode_0 : tbX0_tellNode 0 = (.aload_n 0, 1, 0, 0, 0, 0, []) := rfl
theorem tX0_tellNode_1 : tbX0_tellNode 1 = (.iload_n 1, 2, 0, 0, 0, 0, []) := rfl
theorem tX0_tellNode_2 : tbX0_tellNode 2 = (.invokevirtual 77, 5, 2, 1, 0, 0, []) := rfl
theorem tX0_tellNode_5 : tbX0_tellNode 5 = (.ifCond .ne 5, 8, 10, 0, 0, 0, []) := rfl
theorem tX0_tellNode_8 : tbX0_tellNode 8 = (.iconst (-1), 9, 0, 0, 0, -1, []) := rfl
theorem tX0_tellNode_9 : tbX0_tellNode 9 = (.ireturn, 10, 0, 0, 0, 0, []) := rfl
theorem tX0_tellNode_10 : tbX0_tellNode 10 = (.aload_n 0, 11, 0, 0, 0, 0, []) := rfl
theorem tX0_tellNode_11 : tbX0_tellNode 11 = (.getfield 11, 14, 0, 0, 0, 0, [(0, 0)]) := rfl
theorem tX0_tellNode_14 : tbX0_tellNode 14 = (.iload_n 1, 15, 0, 0, 0, 0, []) := rfl
theorem tX0_tellNode_15 : tbX0_tellNode 15 = (.aaload, 16, 0, 0, 0, 0, []) := rfl
theorem tX0_tellNode_16 : tbX0_tellNode 16 = (.astore_n 3, 17, 0, 0, 0, 0, []) := rfl
theorem tX0_tellNode_17 : tbX0_tellNode 17 = (.iload_n 2, 18, 0, 0, 0, 0, []) := rfl
theorem tX0_tellNode_18 : tbX0_tellNode 18 = (.tableswitch 101 0 5 #[38, 56, 64, 72, 81, 90], 56, 119, 0, 0, 0, [(0, 56), (1, 74), (2, 82), (3, 90), (4, 99), (5, 108)]) := rfl
theorem tX0_tellNode_56 : tbX0_tellNode 56 = (.aload_n 3, 57, 0, 0, 0, 0, []) := rfl
theorem tX0_tellNode_57 : tbX0_tellNode 57 = (.getfield 39, 60, 4, 1, 0, 0, []) := rfl
theorem tX0_tellNode_60 : tbX0_tellNode 60 = (.iconst (-1), 61, 0, 0, 0, -1, []) := rfl
theorem tX0_tellNode_61 : tbX0_tellNode 61 = (.if_icmp .ne 8, 64, 69, 0, 0, 0, []) := rfl
theorem tX0_tellNode_64 : tbX0_tellNode 64 = (.bipush (-4), 66, 0, 0, 0, -4, []) := rfl
theorem tX0_tellNode_66 : tbX0_tellNode 66 = (.goto 7, 69, 73, 0, 0, 0, []) := rfl
theorem tX0_tellNode_69 : tbX0_tellNode 69 = (.aload_n 3, 70, 0, 0, 0, 0, []) := rfl
theorem tX0_tellNode_70 : tbX0_tellNode 70 = (.getfield 39, 73, 4, 1, 0, 0, []) := rfl
theorem tX0_tellNode_73 : tbX0_tellNode 73 = (.ireturn, 74, 0, 0, 0, 0, []) := rfl
theorem tX0_tellNode_74 : tbX0_tellNode 74 = (.aload_n 3, 75, 0, 0, 0, 0, []) := rfl
theorem tX0_tellNode_75 : tbX0_tellNode 75 = (.getfield 84, 78, 4, 2, 0, 0, []) := rfl
theorem tX0_tellNode_78 : tbX0_tellNode 78 = (.invokestatic 193, 81, 92, 1, 0, 0, []) := rfl
theorem tX0_tellNode_81 : tbX0_tellNode 81 = (.ireturn, 82, 0, 0, 0, 0, []) := rfl
theorem tX0_tellNode_82 : tbX0_tellNode 82 = (.aload_n 3, 83, 0, 0, 0, 0, []) := rfl
theorem tX0_tellNode_83 : tbX0_tellNode 83 = (.getfield 88, 86, 4, 0, 0, 0, [(0, 0)]) := rfl
theorem tX0_tellNode_86 : tbX0_tellNode 86 = (.getfield 91, 89, 5, 1, 0, 0, []) := rfl
theorem tX0_tellNode_89 : tbX0_tellNode 89 = (.ireturn, 90, 0, 0, 0, 0, []) := rfl
theorem tX0_tellNode_90 : tbX0_tellNode 90 = (.aload_n 0, 91, 0, 0, 0, 0, []) := rfl
theorem tX0_tellNode_91 : tbX0_tellNode 91 = (.getfield 62, 94, 0, 4, 0, 0, []) := rfl
theorem tX0_tellNode_94 : tbX0_tellNode 94 = (.iload_n 1, 95, 0, 0, 0, 0, []) := rfl
theorem tX0_tellNode_95 : tbX0_tellNode 95 = (.ishr, 96, 0, 0, 0, 0, []) := rfl
theorem tX0_tellNode_96 : tbX0_tellNode 96 = (.iconst 1, 97, 0, 0, 0, 1, []) := rfl
theorem tX0_tellNode_97 : tbX0_tellNode 97 = (.iand, 98, 0, 0, 0, 0, []) := rfl
theorem tX0_tellNode_98 : tbX0_tellNode 98 = (.ireturn, 99, 0, 0, 0, 0, []) := rfl
theorem tX0_tellNode_99 : tbX0_tellNode 99 = (.aload_n 0, 100, 0, 0, 0, 0, []) := rfl
theorem tX0_tellNode_100 : tbX0_tellNode 100 = (.iload_n 1, 101, 0, 0, 0, 0, []) := rfl
theorem tX0_tellNode_101 : tbX0_tellNode 101 = (.invokevirtual 124, 104, 28, 1, 0, 0, []) := rfl
theorem tX0_tellNode_104 : tbX0_tellNode 104 = (.invokestatic 118, 107, 156, 1, 0, 0, []) := rfl
theorem tX0_tellNode_107 : tbX0_tellNode 107 = (.ireturn, 108, 0, 0, 0, 0, []) := rfl
theorem tX0_tellNode_108 : tbX0_tellNode 108 = (.aload_n 0, 109, 0, 0, 0, 0, []) := rfl
theorem tX0_tellNode_109 : tbX0_tellNode 109 = (.iload_n 1, 110, 0, 0, 0, 0, []) := rfl
theorem tX0_tellNode_110 : tbX0_tellNode 110 = (.invokevirtual 124, 113, 28, 1, 0, 0, []) := rfl
theorem tX0_tellNode_113 : tbX0_tellNode 113 = (.aload_n 0, 114, 0, 0, 0, 0, []) := rfl
theorem tX0_tellNode_114 : tbX0_tellNode 114 = (.invokevirtual 139, 117, 23, 0, 0, 0, []) := rfl
theorem tX0_tellNode_117 : tbX0_tellNode 117 = (.iand, 118, 0, 0, 0, 0, []) := rfl
theorem tX0_tellNode_118 : tbX0_tellNode 118 = (.ireturn, 119, 0, 0, 0, 0, []) := rfl
theorem tX0_tellNode_119 : tbX0_tellNode 119 = (.iconst (-1), 120, 0, 0, 0, -1, []) := rfl
theorem tX0_tellNode_120 : tbX0_tellNode 120 = (.ireturn, 121, 0, 0, 0, 0, []) := rfl
def ltX0_tellInput : List (Nat × pm_E) := [(0, .aload_n 0, 1, 0, 0, 0, 0, []), (1, .iload_n 1, 2, 0, 0, 0, 0, []), (2, .invokevirtual 77, 5, 2, 1, 0, 0, []), (5, .ifCond .eq 7, 8, 12, 0, 0, 0, []), (8, .iload_n 2, 9, 0, 0, 0, 0, []), (9, .ifCond .ge 5, 12, 14, 0, 0, 0, []), (12, .iconst (-1), 13, 0, 0, 0, -1, []), (13, .ireturn, 14, 0, 0, 0, 0, []), (14, .aload_n 0, 15, 0, 0, 0, 0, []), (15, .getfield 11, 18, 0, 0, 0, 0, [(0, 0)]), (18, .iload_n 1, 19, 0, 0, 0, 0, []), (19, .aaload, 20, 0, 0, 0, 0, []), (20, .getfield 88, 23, 4, 0, 0, 0, [(0, 0)]), (23, .iload_n 2, 24, 0, 0, 0, 0, []), (24, .invokevirtual 164, 27, 60, 1, 5, 0, []), (27, .istore_n 3, 28, 0, 0, 0, 0, []), (28, .iload_n 3, 29, 0, 0, 0, 0, []), (29, .iconst (-1), 30, 0, 0, 0, -1, []), (30, .if_icmp .ne 8, 33, 38, 0, 0, 0, []), (33, .bipush (-4), 35, 0, 0, 0, -4, []), (35, .goto 4, 38, 39, 0, 0, 0, []), (38, .iload_n 3, 39, 0, 0, 0, 0, []), (39, .ireturn, 40, 0, 0, 0, 0, [])]
def tbX0_tellInput : Nat → pm_E := pm_lk ltX0_tellInput
theorem okX0_tellInput : ∀ pc, (tbX0_tellInput pc).1 = .nop ∨ pm_ok mX0_tellInput pw_Ms pc (tbX0_tellInput pc) := pm_lk_ok (by decide +kernel)
theorem nr_X0_tellInput : mX0_tellInput.2.2.2 = (some .int) := rfl
theorem tX0_tellInput_0 : tbX0_tellInput 0 = (.aload_n 0, 1, 0, 0, 0, 0, []) := rfl
theorem tX0_tellInput_1 : tbX0_tellInput 1 = (.iload_n 1, 2, 0, 0, 0, 0, []) := rfl
theorem tX0_tellInput_2 : tbX0_tellInput 2 = (.invokevirtual 77, 5, 2, 1, 0, 0, []) := rfl
theorem tX0_tellInput_5 : tbX0_tellInput 5 = (.ifCond .eq 7, 8, 12, 0, 0, 0, []) := rfl
theorem tX0_tellInput_8 : tbX0_tellInput 8 = (.iload_n 2, 9, 0, 0, 0, 0, []) := rfl
theorem tX0_tellInput_9 : tbX0_tellInput 9 = (.ifCond .ge 5, 12, 14, 0, 0, 0, []) := rfl
theorem tX0_tellInput_12 : tbX0_tellInput 12 = (.iconst (-1), 13, 0, 0, 0, -1, []) := rfl
theorem tX0_tellInput_13 : tbX0_tellInput 13 = (.ireturn, 14, 0, 0, 0, 0, []) := rfl
theorem tX0_tellInput_14 : tbX0_tellInput 14 = (.aload_n 0, 15, 0, 0, 0, 0, []) := rfl
theorem tX0_tellInput_15 : tbX0_tellInput 15 = (.getfield 11, 18, 0, 0, 0, 0, [(0, 0)]) := rfl
theorem tX0_tellInput_18 : tbX0_tellInput 18 = (.iload_n 1, 19, 0, 0, 0, 0, []) := rfl
theorem tX0_tellInput_19 : tbX0_tellInput 19 = (.aaload, 20, 0, 0, 0, 0, []) := rfl
theorem tX0_tellInput_20 : tbX0_tellInput 20 = (.getfield 88, 23, 4, 0, 0, 0, [(0, 0)]) := rfl
theorem tX0_tellInput_23 : tbX0_tellInput 23 = (.iload_n 2, 24, 0, 0, 0, 0, []) := rfl
theorem tX0_tellInput_24 : tbX0_tellInput 24 = (.invokevirtual 164, 27, 60, 1, 5, 0, []) := rfl
theorem tX0_tellInput_27 : tbX0_tellInput 27 = (.istore_n 3, 28, 0, 0, 0, 0, []) := rfl
theorem tX0_tellInput_28 : tbX0_tellInput 28 = (.iload_n 3, 29, 0, 0, 0, 0, []) := rfl
theorem tX0_tellInput_29 : tbX0_tellInput 29 = (.iconst (-1), 30, 0, 0, 0, -1, []) := rfl
theorem tX0_tellInput_30 : tbX0_tellInput 30 = (.if_icmp .ne 8, 33, 38, 0, 0, 0, []) := rfl
theorem tX0_tellInput_33 : tbX0_tellInput 33 = (.bipush (-4), 35, 0, 0, 0, -4, []) := rfl
theorem tX0_tellInput_35 : tbX0_tellInput 35 = (.goto 4, 38, 39, 0, 0, 0, []) := rfl
theorem tX0_tellInput_38 : tbX0_tellInput 38 = (.iload_n 3, 39, 0, 0, 0, 0, []) := rfl
theorem tX0_tellInput_39 : tbX0_tellInput 39 = (.ireturn, 40, 0, 0, 0, 0, []) := rfl
def ltX0_tellService : List (Nat × pm_E) := [(0, .iload_n 1, 1, 0, 0, 0, 0, []), (1, .ifCond .ge 5, 4, 6, 0, 0, 0, []), (4, .iconst (-1), 5, 0, 0, 0, -1, []), (5, .ireturn, 6, 0, 0, 0, 0, []), (6, .aload_n 0, 7, 0, 0, 0, 0, []), (7, .getfield 28, 10, 0, 9, 0, 0, [(0, 0)]), (10, .aload_n 0, 11, 0, 0, 0, 0, []), (11, .getfield 28, 14, 0, 9, 0, 0, [(0, 0)]), (14, .getfield 91, 17, 5, 1, 0, 0, []), (17, .iconst 1, 18, 0, 0, 0, 1, []), (18, .isub, 19, 0, 0, 0, 0, []), (19, .iload_n 1, 20, 0, 0, 0, 0, []), (20, .isub, 21, 0, 0, 0, 0, []), (21, .invokevirtual 164, 24, 60, 1, 5, 0, []), (24, .istore_n 2, 25, 0, 0, 0, 0, []), (25, .iload_n 2, 26, 0, 0, 0, 0, []), (26, .iconst (-1), 27, 0, 0, 0, -1, []), (27, .if_icmp .ne 8, 30, 35, 0, 0, 0, []), (30, .bipush (-4), 32, 0, 0, 0, -4, []), (32, .goto 4, 35, 36, 0, 0, 0, []), (35, .iload_n 2, 36, 0, 0, 0, 0, []), (36, .ireturn, 37, 0, 0, 0, 0, [])]
def tbX0_tellService : Nat → pm_E := pm_lk ltX0_tellService
theorem okX0_tellService : ∀ pc, (tbX0_tellService pc).1 = .nop ∨ pm_ok mX0_tellService pw_Ms pc (tbX0_tellService pc) := pm_lk_ok (by decide +kernel)
theorem nr_X0_tellService : mX0_tellService.2.2.2 = (some .int) := rfl
theorem tX0_tellService_0 : tbX0_tellService 0 = (.iload_n 1, 1, 0, 0, 0, 0, []) := rfl
theorem tX0_tellService_1 : tbX0_tellService 1 = (.ifCond .ge 5, 4, 6, 0, 0, 0, []) := rfl
theorem tX0_tellService_4 : tbX0_tellService 4 = (.iconst (-1), 5, 0, 0, 0, -1, []) := rfl
theorem tX0_tellService_5 : tbX0_tellService 5 = (.ireturn, 6, 0, 0, 0, 0, []) := rfl
theorem tX0_tellService_6 : tbX0_tellService 6 = (.aload_n 0, 7, 0, 0, 0, 0, []) := rfl
theorem tX0_tellService_7 : tbX0_tellService 7 = (.getfield 28, 10, 0, 9, 0, 0, [(0, 0)]) := rfl
theorem tX0_tellService_10 : tbX0_tellService 10 = (.aload_n 0, 11, 0, 0, 0, 0, []) := rfl
theorem tX0_tellService_11 : tbX0_tellService 11 = (.getfield 28, 14, 0, 9, 0, 0, [(0, 0)]) := rfl
theorem tX0_tellService_14 : tbX0_tellService 14 = (.getfield 91, 17, 5, 1, 0, 0, []) := rfl
theorem tX0_tellService_17 : tbX0_tellService 17 = (.iconst 1, 18, 0, 0, 0, 1, []) := rfl
theorem tX0_tellService_18 : tbX0_tellService 18 = (.isub, 19, 0, 0, 0, 0, []) := rfl
theorem tX0_tellService_19 : tbX0_tellService 19 = (.iload_n 1, 20, 0, 0, 0, 0, []) := rfl
theorem tX0_tellService_20 : tbX0_tellService 20 = (.isub, 21, 0, 0, 0, 0, []) := rfl
theorem tX0_tellService_21 : tbX0_tellService 21 = (.invokevirtual 164, 24, 60, 1, 5, 0, []) := rfl
theorem tX0_tellService_24 : tbX0_tellService 24 = (.istore_n 2, 25, 0, 0, 0, 0, []) := rfl
theorem tX0_tellService_25 : tbX0_tellService 25 = (.iload_n 2, 26, 0, 0, 0, 0, []) := rfl
theorem tX0_tellService_26 : tbX0_tellService 26 = (.iconst (-1), 27, 0, 0, 0, -1, []) := rfl
theorem tX0_tellService_27 : tbX0_tellService 27 = (.if_icmp .ne 8, 30, 35, 0, 0, 0, []) := rfl
theorem tX0_tellService_30 : tbX0_tellService 30 = (.bipush (-4), 32, 0, 0, 0, -4, []) := rfl
theorem tX0_tellService_32 : tbX0_tellService 32 = (.goto 4, 35, 36, 0, 0, 0, []) := rfl
theorem tX0_tellService_35 : tbX0_tellService 35 = (.iload_n 2, 36, 0, 0, 0, 0, []) := rfl
theorem tX0_tellService_36 : tbX0_tellService 36 = (.ireturn, 37, 0, 0, 0, 0, []) := rfl
def ltX0_tellWaiting : List (Nat × pm_E) := [(0, .iload_n 1, 1, 0, 0, 0, 0, []), (1, .ifCond .ge 5, 4, 6, 0, 0, 0, []), (4, .iconst (-1), 5, 0, 0, 0, -1, []), (5, .ireturn, 6, 0, 0, 0, 0, []), (6, .aload_n 0, 7, 0, 0, 0, 0, []), (7, .getfield 32, 10, 0, 10, 0, 0, [(0, 0)]), (10, .iload_n 1, 11, 0, 0, 0, 0, []), (11, .invokevirtual 164, 14, 60, 1, 5, 0, []), (14, .istore_n 2, 15, 0, 0, 0, 0, []), (15, .iload_n 2, 16, 0, 0, 0, 0, []), (16, .iconst (-1), 17, 0, 0, 0, -1, []), (17, .if_icmp .ne 8, 20, 25, 0, 0, 0, []), (20, .bipush (-4), 22, 0, 0, 0, -4, []), (22, .goto 4, 25, 26, 0, 0, 0, []), (25, .iload_n 2, 26, 0, 0, 0, 0, []), (26, .ireturn, 27, 0, 0, 0, 0, [])]
def tbX0_tellWaiting : Nat → pm_E := pm_lk ltX0_tellWaiting
theorem okX0_tellWaiting : ∀ pc, (tbX0_tellWaiting pc).1 = .nop ∨ pm_ok mX0_tellWaiting pw_Ms pc (tbX0_tellWaiting pc) := pm_lk_ok (by decide +kernel)
theorem nr_X0_tellWaiting : mX0_tellWaiting.2.2.2 = (some .int) := rfl
theorem tX0_tellWaiting_0 : tbX0_tellWaiting 0 = (.iload_n 1, 1, 0, 0, 0, 0, []) := rfl
theorem tX0_tellWaiting_1 : tbX0_tellWaiting 1 = (.ifCond .ge 5, 4, 6, 0, 0, 0, []) := rfl
theorem tX0_tellWaiting_4 : tbX0_tellWaiting 4 = (.iconst (-1), 5, 0, 0, 0, -1, []) := rfl
theorem tX0_tellWaiting_5 : tbX0_tellWaiting 5 = (.ireturn, 6, 0, 0, 0, 0, []) := rfl
theorem tX0_tellWaiting_6 : tbX0_tellWaiting 6 = (.aload_n 0, 7, 0, 0, 0, 0, []) := rfl
theorem tX0_tellWaiting_7 : tbX0_tellWaiting 7 = (.getfield 32, 10, 0, 10, 0, 0, [(0, 0)]) := rfl
theorem tX0_tellWaiting_10 : tbX0_tellWaiting 10 = (.iload_n 1, 11, 0, 0, 0, 0, []) := rfl
theorem tX0_tellWaiting_11 : tbX0_tellWaiting 11 = (.invokevirtual 164, 14, 60, 1, 5, 0, []) := rfl
theorem tX0_tellWaiting_14 : tbX0_tellWaiting 14 = (.istore_n 2, 15, 0, 0, 0, 0, []) := rfl
theorem tX0_tellWaiting_15 : tbX0_tellWaiting 15 = (.iload_n 2, 16, 0, 0, 0, 0, []) := rfl
theorem tX0_tellWaiting_16 : tbX0_tellWaiting 16 = (.iconst (-1), 17, 0, 0, 0, -1, []) := rfl
theorem tX0_tellWaiting_17 : tbX0_tellWaiting 17 = (.if_icmp .ne 8, 20, 25, 0, 0, 0, []) := rfl
theorem tX0_tellWaiting_20 : tbX0_tellWaiting 20 = (.bipush (-4), 22, 0, 0, 0, -4, []) := rfl
theorem tX0_tellWaiting_22 : tbX0_tellWaiting 22 = (.goto 4, 25, 26, 0, 0, 0, []) := rfl
theorem tX0_tellWaiting_25 : tbX0_tellWaiting 25 = (.iload_n 2, 26, 0, 0, 0, 0, []) := rfl
theorem tX0_tellWaiting_26 : tbX0_tellWaiting 26 = (.ireturn, 27, 0, 0, 0, 0, []) := rfl
def ltX0_tellNumber : List (Nat × pm_E) := [(0, .iload_n 1, 1, 0, 0, 0, 0, []), (1, .tableswitch 124 0 10 #[59, 64, 69, 74, 79, 84, 97, 103, 109, 114, 119], 60, 125, 0, 0, 0, [(0, 60), (1, 65), (2, 70), (3, 75), (4, 80), (5, 85), (6, 98), (7, 104), (8, 110), (9, 115), (10, 120)]), (60, .aload_n 0, 61, 0, 0, 0, 0, []), (61, .getfield 46, 64, 0, 2, 0, 0, []), (64, .ireturn, 65, 0, 0, 0, 0, []), (65, .aload_n 0, 66, 0, 0, 0, 0, []), (66, .getfield 59, 69, 0, 3, 0, 0, []), (69, .ireturn, 70, 0, 0, 0, 0, []), (70, .aload_n 0, 71, 0, 0, 0, 0, []), (71, .getfield 65, 74, 0, 5, 0, 0, []), (74, .ireturn, 75, 0, 0, 0, 0, []), (75, .aload_n 0, 76, 0, 0, 0, 0, []), (76, .invokevirtual 197, 79, 36, 0, 0, 0, []), (79, .ireturn, 80, 0, 0, 0, 0, []), (80, .aload_n 0, 81, 0, 0, 0, 0, []), (81, .invokevirtual 200, 84, 37, 0, 0, 0, []), (84, .ireturn, 85, 0, 0, 0, 0, []), (85, .aload_n 0, 86, 0, 0, 0, 0, []), (86, .invokevirtual 139, 89, 23, 0, 0, 0, []), (89, .aload_n 0, 90, 0, 0, 0, 0, []), (90, .invokevirtual 203, 93, 29, 0, 0, 0, []), (93, .iand, 94, 0, 0, 0, 0, []), (94, .invokestatic 118, 97, 156, 1, 0, 0, []), (97, .ireturn, 98, 0, 0, 0, 0, []), (98, .aload_n 0, 99, 0, 0, 0, 0, []), (99, .iconst 0, 100, 0, 0, 0, 0, []), (100, .invokevirtual 206, 103, 38, 1, 0, 0, []), (103, .ireturn, 104, 0, 0, 0, 0, []), (104, .aload_n 0, 105, 0, 0, 0, 0, []), (105, .iconst 1, 106, 0, 0, 0, 1, []), (106, .invokevirtual 206, 109, 38, 1, 0, 0, []), (109, .ireturn, 110, 0, 0, 0, 0, []), (110, .aload_n 0, 111, 0, 0, 0, 0, []), (111, .getfield 68, 114, 0, 6, 0, 0, []), (114, .ireturn, 115, 0, 0, 0, 0, []), (115, .aload_n 0, 116, 0, 0, 0, 0, []), (116, .getfield 49, 119, 0, 7, 0, 0, []), (119, .ireturn, 120, 0, 0, 0, 0, []), (120, .aload_n 0, 121, 0, 0, 0, 0, []), (121, .getfield 71, 124, 0, 8, 0, 0, []), (124, .ireturn, 125, 0, 0, 0, 0, []), (125, .iconst (-1), 126, 0, 0, 0, -1, []), (126, .ireturn, 127, 0, 0, 0, 0, [])]
def tbX0_tellNumber : Nat → pm_E := pm_lk ltX0_tellNumber
theorem okX0_tellNumber : ∀ pc, (tbX0_tellNumber pc).1 = .nop ∨ pm_ok mX0_tellNumber pw_Ms pc (tbX0_tellNumber pc) := pm_lk_ok (by decide +kernel)
theorem nr_X0_tellNumber : mX0_tellNumber.2.2.2 = (some .int) := rfl
theorem tX0_tellNumber_0 : tbX0_tellNumber 0 = (.iload_n 1, 1, 0, 0, 0, 0, []) := rfl
theorem tX0_tellNumber_1 : tbX0_tellNumber 1 = (.tableswitch 124 0 10 #[59, 64, 69, 74, 79, 84, 97, 103, 109, 114, 119], 60, 125, 0, 0, 0, [(0, 60), (1, 65), (2, 70), (3, 75), (4, 80), (5, 85), (6, 98), (7, 104), (8, 110), (9, 115), (10, 120)]) := rfl
theorem tX0_tellNumber_60 : tbX0_tellNumber 60 = (.aload_n 0, 61, 0, 0, 0, 0, []) := rfl
theorem tX0_tellNumber_61 : tbX0_tellNumber 61 = (.getfield 46, 64, 0, 2, 0, 0, []) := rfl
theorem tX0_tellNumber_64 : tbX0_tellNumber 64 = (.ireturn, 65, 0, 0, 0, 0, []) := rfl
theorem tX0_tellNumber_65 : tbX0_tellNumber 65 = (.aload_n 0, 66, 0, 0, 0, 0, []) := rfl
theorem tX0_tellNumber_66 : tbX0_tellNumber 66 = (.getfield 59, 69, 0, 3, 0, 0, []) := rfl
theorem tX0_tellNumber_69 : tbX0_tellNumber 69 = (.ireturn, 70, 0, 0, 0, 0, []) := rfl
theorem tX0_tellNumber_70 : tbX0_tellNumber 70 = (.aload_n 0, 71, 0, 0, 0, 0, []) := rfl
theorem tX0_tellNumber_71 : tbX0_tellNumber 71 = (.getfield 65, 74, 0, 5, 0, 0, []) := rfl
theorem tX0_tellNumber_74 : tbX0_tellNumber 74 = (.ireturn, 75, 0, 0, 0, 0, []) := rfl
theorem tX0_tellNumber_75 : tbX0_tellNumber 75 = (.aload_n 0, 76, 0, 0, 0, 0, []) := rfl
theorem tX0_tellNumber_76 : tbX0_tellNumber 76 = (.invokevirtual 197, 79, 36, 0, 0, 0, []) := rfl
theorem tX0_tellNumber_79 : tbX0_tellNumber 79 = (.ireturn, 80, 0, 0, 0, 0, []) := rfl
theorem tX0_tellNumber_80 : tbX0_tellNumber 80 = (.aload_n 0, 81, 0, 0, 0, 0, []) := rfl
theorem tX0_tellNumber_81 : tbX0_tellNumber 81 = (.invokevirtual 200, 84, 37, 0, 0, 0, []) := rfl
theorem tX0_tellNumber_84 : tbX0_tellNumber 84 = (.ireturn, 85, 0, 0, 0, 0, []) := rfl
theorem tX0_tellNumber_85 : tbX0_tellNumber 85 = (.aload_n 0, 86, 0, 0, 0, 0, []) := rfl
theorem tX0_tellNumber_86 : tbX0_tellNumber 86 = (.invokevirtual 139, 89, 23, 0, 0, 0, []) := rfl
theorem tX0_tellNumber_89 : tbX0_tellNumber 89 = (.aload_n 0, 90, 0, 0, 0, 0, []) := rfl
theorem tX0_tellNumber_90 : tbX0_tellNumber 90 = (.invokevirtual 203, 93, 29, 0, 0, 0, []) := rfl
theorem tX0_tellNumber_93 : tbX0_tellNumber 93 = (.iand, 94, 0, 0, 0, 0, []) := rfl
theorem tX0_tellNumber_94 : tbX0_tellNumber 94 = (.invokestatic 118, 97, 156, 1, 0, 0, []) := rfl
theorem tX0_tellNumber_97 : tbX0_tellNumber 97 = (.ireturn, 98, 0, 0, 0, 0, []) := rfl
theorem tX0_tellNumber_98 : tbX0_tellNumber 98 = (.aload_n 0, 99, 0, 0, 0, 0, []) := rfl
theorem tX0_tellNumber_99 : tbX0_tellNumber 99 = (.iconst 0, 100, 0, 0, 0, 0, []) := rfl
theorem tX0_tellNumber_100 : tbX0_tellNumber 100 = (.invokevirtual 206, 103, 38, 1, 0, 0, []) := rfl
theorem tX0_tellNumber_103 : tbX0_tellNumber 103 = (.ireturn, 104, 0, 0, 0, 0, []) := rfl
theorem tX0_tellNumber_104 : tbX0_tellNumber 104 = (.aload_n 0, 105, 0, 0, 0, 0, []) := rfl
theorem tX0_tellNumber_105 : tbX0_tellNumber 105 = (.iconst 1, 106, 0, 0, 0, 1, []) := rfl
theorem tX0_tellNumber_106 : tbX0_tellNumber 106 = (.invokevirtual 206, 109, 38, 1, 0, 0, []) := rfl
theorem tX0_tellNumber_109 : tbX0_tellNumber 109 = (.ireturn, 110, 0, 0, 0, 0, []) := rfl
theorem tX0_tellNumber_110 : tbX0_tellNumber 110 = (.aload_n 0, 111, 0, 0, 0, 0, []) := rfl
theorem tX0_tellNumber_111 : tbX0_tellNumber 111 = (.getfield 68, 114, 0, 6, 0, 0, []) := rfl
theorem tX0_tellNumber_114 : tbX0_tellNumber 114 = (.ireturn, 115, 0, 0, 0, 0, []) := rfl
theorem tX0_tellNumber_115 : tbX0_tellNumber 115 = (.aload_n 0, 116, 0, 0, 0, 0, []) := rfl
theorem tX0_tellNumber_116 : tbX0_tellNumber 116 = (.getfield 49, 119, 0, 7, 0, 0, []) := rfl
theorem tX0_tellNumber_119 : tbX0_tellNumber 119 = (.ireturn, 120, 0, 0, 0, 0, []) := rfl
theorem tX0_tellNumber_120 : tbX0_tellNumber 120 = (.aload_n 0, 121, 0, 0, 0, 0, []) := rfl
theorem tX0_tellNumber_121 : tbX0_tellNumber 121 = (.getfield 71, 124, 0, 8, 0, 0, []) := rfl
theorem tX0_tellNumber_124 : tbX0_tellNumber 124 = (.ireturn, 125, 0, 0, 0, 0, []) := rfl
theorem tX0_tellNumber_125 : tbX0_tellNumber 125 = (.iconst (-1), 126, 0, 0, 0, -1, []) := rfl
theorem tX0_tellNumber_126 : tbX0_tellNumber 126 = (.ireturn, 127, 0, 0, 0, 0, []) := rfl
def ltX0_allEdges : List (Nat × pm_E) := [(0, .iconst 0, 1, 0, 0, 0, 0, []), (1, .istore_n 1, 2, 0, 0, 0, 0, []), (2, .iconst 0, 3, 0, 0, 0, 0, []), (3, .istore_n 2, 4, 0, 0, 0, 0, []), (4, .iload_n 2, 5, 0, 0, 0, 0, []), (5, .aload_n 0, 6, 0, 0, 0, 0, []), (6, .getfield 59, 9, 0, 3, 0, 0, []), (9, .if_icmp .ge 21, 12, 30, 0, 0, 0, []), (12, .iload_n 1, 13, 0, 0, 0, 0, []), (13, .aload_n 0, 14, 0, 0, 0, 0, []), (14, .getfield 20, 17, 0, 1, 0, 0, [(0, 0)]), (17, .iload_n 2, 18, 0, 0, 0, 0, []), (18, .aaload, 19, 0, 0, 0, 0, []), (19, .getfield 127, 22, 3, 6, 0, 0, []), (22, .iadd, 23, 0, 0, 0, 0, []), (23, .istore_n 1, 24, 0, 0, 0, 0, []), (24, .iinc 2 1, 27, 0, 0, 0, 1, []), (27, .goto (-23), 30, 4, 0, 0, 0, []), (30, .iload_n 1, 31, 0, 0, 0, 0, []), (31, .ireturn, 32, 0, 0, 0, 0, [])]
def tbX0_allEdges : Nat → pm_E := pm_lk ltX0_allEdges
theorem okX0_allEdges : ∀ pc, (tbX0_allEdges pc).1 = .nop ∨ pm_ok mX0_allEdges pw_Ms pc (tbX0_allEdges pc) := pm_lk_ok (by decide +kernel)
theorem nr_X0_allEdges : mX0_allEdges.2.2.2 = (some .int) := rfl
theorem tX0_allEdges_0 : tbX0_allEdges 0 = (.iconst 0, 1, 0, 0, 0, 0, []) := rfl
theorem tX0_allEdges_1 : tbX0_allEdges 1 = (.istore_n 1, 2, 0, 0, 0, 0, []) := rfl
theorem tX0_allEdges_2 : tbX0_allEdges 2 = (.iconst 0, 3, 0, 0, 0, 0, []) := rfl
theorem tX0_allEdges_3 : tbX0_allEdges 3 = (.istore_n 2, 4, 0, 0, 0, 0, []) := rfl
theorem tX0_allEdges_4 : tbX0_allEdges 4 = (.iload_n 2, 5, 0, 0, 0, 0, []) := rfl
theorem tX0_allEdges_5 : tbX0_allEdges 5 = (.aload_n 0, 6, 0, 0, 0, 0, []) := rfl
theorem tX0_allEdges_6 : tbX0_allEdges 6 = (.getfield 59, 9, 0, 3, 0, 0, []) := rfl
theorem tX0_allEdges_9 : tbX0_allEdges 9 = (.if_icmp .ge 21, 12, 30, 0, 0, 0, []) := rfl
theorem tX0_allEdges_12 : tbX0_allEdges 12 = (.iload_n 1, 13, 0, 0, 0, 0, []) := rfl
theorem tX0_allEdges_13 : tbX0_allEdges 13 = (.aload_n 0, 14, 0, 0, 0, 0, []) := rfl
theorem tX0_allEdges_14 : tbX0_allEdges 14 = (.getfield 20, 17, 0, 1, 0, 0, [(0, 0)]) := rfl
theorem tX0_allEdges_17 : tbX0_allEdges 17 = (.iload_n 2, 18, 0, 0, 0, 0, []) := rfl
theorem tX0_allEdges_18 : tbX0_allEdges 18 = (.aaload, 19, 0, 0, 0, 0, []) := rfl
theorem tX0_allEdges_19 : tbX0_allEdges 19 = (.getfield 127, 22, 3, 6, 0, 0, []) := rfl
theorem tX0_allEdges_22 : tbX0_allEdges 22 = (.iadd, 23, 0, 0, 0, 0, []) := rfl
theorem tX0_allEdges_23 : tbX0_allEdges 23 = (.istore_n 1, 24, 0, 0, 0, 0, []) := rfl
theorem tX0_allEdges_24 : tbX0_allEdges 24 = (.iinc 2 1, 27, 0, 0, 0, 1, []) := rfl
theorem tX0_allEdges_27 : tbX0_allEdges 27 = (.goto (-23), 30, 4, 0, 0, 0, []) := rfl
theorem tX0_allEdges_30 : tbX0_allEdges 30 = (.iload_n 1, 31, 0, 0, 0, 0, []) := rfl
theorem tX0_allEdges_31 : tbX0_allEdges 31 = (.ireturn, 32, 0, 0, 0, 0, []) := rfl
def ltX0_allLost : List (Nat × pm_E) := [(0, .iconst 0, 1, 0, 0, 0, 0, []), (1, .istore_n 1, 2, 0, 0, 0, 0, []), (2, .iconst 0, 3, 0, 0, 0, 0, []), (3, .istore_n 2, 4, 0, 0, 0, 0, []), (4, .iload_n 2, 5, 0, 0, 0, 0, []), (5, .aload_n 0, 6, 0, 0, 0, 0, []), (6, .getfield 59, 9, 0, 3, 0, 0, []), (9, .if_icmp .ge 21, 12, 30, 0, 0, 0, []), (12, .iload_n 1, 13, 0, 0, 0, 0, []), (13, .aload_n 0, 14, 0, 0, 0, 0, []), (14, .getfield 20, 17, 0, 1, 0, 0, [(0, 0)]), (17, .iload_n 2, 18, 0, 0, 0, 0, []), (18, .aaload, 19, 0, 0, 0, 0, []), (19, .getfield 133, 22, 3, 7, 0, 0, []), (22, .iadd, 23, 0, 0, 0, 0, []), (23, .istore_n 1, 24, 0, 0, 0, 0, []), (24, .iinc 2 1, 27, 0, 0, 0, 1, []), (27, .goto (-23), 30, 4, 0, 0, 0, []), (30, .iload_n 1, 31, 0, 0, 0, 0, []), (31, .ireturn, 32, 0, 0, 0, 0, [])]
def tbX0_allLost : Nat → pm_E := pm_lk ltX0_allLost
theorem okX0_allLost : ∀ pc, (tbX0_allLost pc).1 = .nop ∨ pm_ok mX0_allLost pw_Ms pc (tbX0_allLost pc) := pm_lk_ok (by decide +kernel)
theorem nr_X0_allLost : mX0_allLost.2.2.2 = (some .int) := rfl
theorem tX0_allLost_0 : tbX0_allLost 0 = (.iconst 0, 1, 0, 0, 0, 0, []) := rfl
theorem tX0_allLost_1 : tbX0_allLost 1 = (.istore_n 1, 2, 0, 0, 0, 0, []) := rfl
theorem tX0_allLost_2 : tbX0_allLost 2 = (.iconst 0, 3, 0, 0, 0, 0, []) := rfl
theorem tX0_allLost_3 : tbX0_allLost 3 = (.istore_n 2, 4, 0, 0, 0, 0, []) := rfl
theorem tX0_allLost_4 : tbX0_allLost 4 = (.iload_n 2, 5, 0, 0, 0, 0, []) := rfl
theorem tX0_allLost_5 : tbX0_allLost 5 = (.aload_n 0, 6, 0, 0, 0, 0, []) := rfl
theorem tX0_allLost_6 : tbX0_allLost 6 = (.getfield 59, 9, 0, 3, 0, 0, []) := rfl
theorem tX0_allLost_9 : tbX0_allLost 9 = (.if_icmp .ge 21, 12, 30, 0, 0, 0, []) := rfl
theorem tX0_allLost_12 : tbX0_allLost 12 = (.iload_n 1, 13, 0, 0, 0, 0, []) := rfl
theorem tX0_allLost_13 : tbX0_allLost 13 = (.aload_n 0, 14, 0, 0, 0, 0, []) := rfl
theorem tX0_allLost_14 : tbX0_allLost 14 = (.getfield 20, 17, 0, 1, 0, 0, [(0, 0)]) := rfl
theorem tX0_allLost_17 : tbX0_allLost 17 = (.iload_n 2, 18, 0, 0, 0, 0, []) := rfl
theorem tX0_allLost_18 : tbX0_allLost 18 = (.aaload, 19, 0, 0, 0, 0, []) := rfl
theorem tX0_allLost_19 : tbX0_allLost 19 = (.getfield 133, 22, 3, 7, 0, 0, []) := rfl
theorem tX0_allLost_22 : tbX0_allLost 22 = (.iadd, 23, 0, 0, 0, 0, []) := rfl
theorem tX0_allLost_23 : tbX0_allLost 23 = (.istore_n 1, 24, 0, 0, 0, 0, []) := rfl
theorem tX0_allLost_24 : tbX0_allLost 24 = (.iinc 2 1, 27, 0, 0, 0, 1, []) := rfl
theorem tX0_allLost_27 : tbX0_allLost 27 = (.goto (-23), 30, 4, 0, 0, 0, []) := rfl
theorem tX0_allLost_30 : tbX0_allLost 30 = (.iload_n 1, 31, 0, 0, 0, 0, []) := rfl
theorem tX0_allLost_31 : tbX0_allLost 31 = (.ireturn, 32, 0, 0, 0, 0, []) := rfl
def ltX0_allTaken : List (Nat × pm_E) := [(0, .iconst 0, 1, 0, 0, 0, 0, []), (1, .istore_n 2, 2, 0, 0, 0, 0, []), (2, .iconst 0, 3, 0, 0, 0, 0, []), (3, .istore_n 3, 4, 0, 0, 0, 0, []), (4, .iload_n 3, 5, 0, 0, 0, 0, []), (5, .aload_n 0, 6, 0, 0, 0, 0, []), (6, .getfield 59, 9, 0, 3, 0, 0, []), (9, .if_icmp .ge 34, 12, 43, 0, 0, 0, []), (12, .aload_n 0, 13, 0, 0, 0, 0, []), (13, .getfield 20, 16, 0, 1, 0, 0, [(0, 0)]), (16, .iload_n 3, 17, 0, 0, 0, 0, []), (17, .aaload, 18, 0, 0, 0, 0, []), (18, .getfield 105, 21, 3, 2, 0, 0, []), (21, .iload_n 1, 22, 0, 0, 0, 0, []), (22, .if_icmp .ne 15, 25, 37, 0, 0, 0, []), (25, .iload_n 2, 26, 0, 0, 0, 0, []), (26, .aload_n 0, 27, 0, 0, 0, 0, []), (27, .getfield 20, 30, 0, 1, 0, 0, [(0, 0)]), (30, .iload_n 3, 31, 0, 0, 0, 0, []), (31, .aaload, 32, 0, 0, 0, 0, []), (32, .getfield 148, 35, 3, 8, 0, 0, []), (35, .iadd, 36, 0, 0, 0, 0, []), (36, .istore_n 2, 37, 0, 0, 0, 0, []), (37, .iinc 3 1, 40, 0, 0, 0, 1, []), (40, .goto (-36), 43, 4, 0, 0, 0, []), (43, .iload_n 2, 44, 0, 0, 0, 0, []), (44, .ireturn, 45, 0, 0, 0, 0, [])]
def tbX0_allTaken : Nat → pm_E := pm_lk ltX0_allTaken
theorem okX0_allTaken : ∀ pc, (tbX0_allTaken pc).1 = .nop ∨ pm_ok mX0_allTaken pw_Ms pc (tbX0_allTaken pc) := pm_lk_ok (by decide +kernel)
theorem nr_X0_allTaken : mX0_allTaken.2.2.2 = (some .int) := rfl
theorem tX0_allTaken_0 : tbX0_allTaken 0 = (.iconst 0, 1, 0, 0, 0, 0, []) := rfl
theorem tX0_allTaken_1 : tbX0_allTaken 1 = (.istore_n 2, 2, 0, 0, 0, 0, []) := rfl
theorem tX0_allTaken_2 : tbX0_allTaken 2 = (.iconst 0, 3, 0, 0, 0, 0, []) := rfl
theorem tX0_allTaken_3 : tbX0_allTaken 3 = (.istore_n 3, 4, 0, 0, 0, 0, []) := rfl
theorem tX0_allTaken_4 : tbX0_allTaken 4 = (.iload_n 3, 5, 0, 0, 0, 0, []) := rfl
theorem tX0_allTaken_5 : tbX0_allTaken 5 = (.aload_n 0, 6, 0, 0, 0, 0, []) := rfl
theorem tX0_allTaken_6 : tbX0_allTaken 6 = (.getfield 59, 9, 0, 3, 0, 0, []) := rfl
theorem tX0_allTaken_9 : tbX0_allTaken 9 = (.if_icmp .ge 34, 12, 43, 0, 0, 0, []) := rfl
theorem tX0_allTaken_12 : tbX0_allTaken 12 = (.aload_n 0, 13, 0, 0, 0, 0, []) := rfl
theorem tX0_allTaken_13 : tbX0_allTaken 13 = (.getfield 20, 16, 0, 1, 0, 0, [(0, 0)]) := rfl
theorem tX0_allTaken_16 : tbX0_allTaken 16 = (.iload_n 3, 17, 0, 0, 0, 0, []) := rfl
theorem tX0_allTaken_17 : tbX0_allTaken 17 = (.aaload, 18, 0, 0, 0, 0, []) := rfl
theorem tX0_allTaken_18 : tbX0_allTaken 18 = (.getfield 105, 21, 3, 2, 0, 0, []) := rfl
theorem tX0_allTaken_21 : tbX0_allTaken 21 = (.iload_n 1, 22, 0, 0, 0, 0, []) := rfl
theorem tX0_allTaken_22 : tbX0_allTaken 22 = (.if_icmp .ne 15, 25, 37, 0, 0, 0, []) := rfl
theorem tX0_allTaken_25 : tbX0_allTaken 25 = (.iload_n 2, 26, 0, 0, 0, 0, []) := rfl
theorem tX0_allTaken_26 : tbX0_allTaken 26 = (.aload_n 0, 27, 0, 0, 0, 0, []) := rfl
theorem tX0_allTaken_27 : tbX0_allTaken 27 = (.getfield 20, 30, 0, 1, 0, 0, [(0, 0)]) := rfl
theorem tX0_allTaken_30 : tbX0_allTaken 30 = (.iload_n 3, 31, 0, 0, 0, 0, []) := rfl
theorem tX0_allTaken_31 : tbX0_allTaken 31 = (.aaload, 32, 0, 0, 0, 0, []) := rfl
theorem tX0_allTaken_32 : tbX0_allTaken 32 = (.getfield 148, 35, 3, 8, 0, 0, []) := rfl
theorem tX0_allTaken_35 : tbX0_allTaken 35 = (.iadd, 36, 0, 0, 0, 0, []) := rfl
theorem tX0_allTaken_36 : tbX0_allTaken 36 = (.istore_n 2, 37, 0, 0, 0, 0, []) := rfl
theorem tX0_allTaken_37 : tbX0_allTaken 37 = (.iinc 3 1, 40, 0, 0, 0, 1, []) := rfl
theorem tX0_allTaken_40 : tbX0_allTaken 40 = (.goto (-36), 43, 4, 0, 0, 0, []) := rfl
theorem tX0_allTaken_43 : tbX0_allTaken 43 = (.iload_n 2, 44, 0, 0, 0, 0, []) := rfl
theorem tX0_allTaken_44 : tbX0_allTaken 44 = (.ireturn, 45, 0, 0, 0, 0, []) := rfl
