/-! code tables 2, by program -/
def ltX7_init : List (Nat × pm_E) := [(0, .aload_n 0, 1, 0, 0, 0, 0, []), (4, .aload_n 0, 5, 0, 0, 0, 0, []), (5, .sipush 374, 8, 0, 0, 0, 374, []), (13, .aload_n 0, 14, 0, 0, 0, 0, []), (14, .sipush 1496, 17, 0, 0, 0, 1496, []), (22, .aload_n 0, 23, 0, 0, 0, 0, []), (23, .sipush 374, 26, 0, 0, 0, 374, []), (31, .aload_n 0, 32, 0, 0, 0, 0, []), (32, .bipush 16, 34, 0, 0, 0, 16, []), (39, .aload_n 0, 40, 0, 0, 0, 0, []), (40, .bipush 6, 42, 0, 0, 0, 6, []), (47, .aload_n 0, 48, 0, 0, 0, 0, []), (48, .bipush 6, 50, 0, 0, 0, 6, []), (55, .aload_n 0, 56, 0, 0, 0, 0, []), (56, .bipush 60, 58, 0, 0, 0, 60, []), (63, .aload_n 0, 64, 0, 0, 0, 0, []), (64, .getfield 7, 67, 7, 0, 0, 0, [(0, 0)]), (67, .iconst 2, 68, 0, 0, 0, 2, []), (68, .iconst 3, 69, 0, 0, 0, 3, []), (69, .iastore, 70, 0, 0, 0, 0, []), (70, .aload_n 0, 71, 0, 0, 0, 0, []), (71, .getfield 7, 74, 7, 0, 0, 0, [(0, 0)]), (74, .iconst 3, 75, 0, 0, 0, 3, []), (75, .iconst 1, 76, 0, 0, 0, 1, []), (76, .iastore, 77, 0, 0, 0, 0, []), (77, .aload_n 0, 78, 0, 0, 0, 0, []), (78, .getfield 7, 81, 7, 0, 0, 0, [(0, 0)]), (81, .bipush 16, 83, 0, 0, 0, 16, []), (83, .iconst (-1), 84, 0, 0, 0, -1, []), (84, .iastore, 85, 0, 0, 0, 0, []), (85, .return_, 86, 0, 0, 0, 0, [])]
def tbX7_init : Nat → pm_E := pm_lk ltX7_init
theorem okX7_init : ∀ pc, (tbX7_init pc).1 = .nop ∨ pm_ok mX7_init pw_Ms pc (tbX7_init pc) := pm_lk_ok (by decide +kernel)
theorem nr_X7_init : mX7_init.2.2.2 = none := rfl
theorem tX7_init_0 : tbX7_init 0 = (.aload_n 0, 1, 0, 0, 0, 0, []) := rfl
theorem tX7_init_4 : tbX7_init 4 = (.aload_n 0, 5, 0, 0, 0, 0, []) := rfl
theorem tX7_init_5 : tbX7_init 5 = (.sipush 374, 8, 0, 0, 0, 374, []) := rfl
theorem tX7_init_13 : tbX7_init 13 = (.aload_n 0, 14, 0, 0, 0, 0, []) := rfl
theorem tX7_init_14 : tbX7_init 14 = (.sipush 1496, 17, 0, 0, 0, 1496, []) := rfl
theorem tX7_init_22 : tbX7_init 22 = (.aload_n 0, 23, 0, 0, 0, 0, []) := rfl
theorem tX7_init_23 : tbX7_init 23 = (.sipush 374, 26, 0, 0, 0, 374, []) := rfl
theorem tX7_init_31 : tbX7_init 31 = (.aload_n 0, 32, 0, 0, 0, 0, []) := rfl
theorem tX7_init_32 : tbX7_init 32 = (.bipush 16, 34, 0, 0, 0, 16, []) := rfl
theorem tX7_init_39 : tbX7_init 39 = (.aload_n 0, 40, 0, 0, 0, 0, []) := rfl
theorem tX7_init_40 : tbX7_init 40 = (.bipush 6, 42, 0, 0, 0, 6, []) := rfl
theorem tX7_init_47 : tbX7_init 47 = (.aload_n 0, 48, 0, 0, 0, 0, []) := rfl
theorem tX7_init_48 : tbX7_init 48 = (.bipush 6, 50, 0, 0, 0, 6, []) := rfl
theorem tX7_init_55 : tbX7_init 55 = (.aload_n 0, 56, 0, 0, 0, 0, []) := rfl
theorem tX7_init_56 : tbX7_init 56 = (.bipush 60, 58, 0, 0, 0, 60, []) := rfl
theorem tX7_init_63 : tbX7_init 63 = (.aload_n 0, 64, 0, 0, 0, 0, []) := rfl
theorem tX7_init_64 : tbX7_init 64 = (.getfield 7, 67, 7, 0, 0, 0, [(0, 0)]) := rfl
theorem tX7_init_67 : tbX7_init 67 = (.iconst 2, 68, 0, 0, 0, 2, []) := rfl
theorem tX7_init_68 : tbX7_init 68 = (.iconst 3, 69, 0, 0, 0, 3, []) := rfl
theorem tX7_init_69 : tbX7_init 69 = (.iastore, 70, 0, 0, 0, 0, []) := rfl
theorem tX7_init_70 : tbX7_init 70 = (.aload_n 0, 71, 0, 0, 0, 0, []) := rfl
theorem tX7_init_71 : tbX7_init 71 = (.getfield 7, 74, 7, 0, 0, 0, [(0, 0)]) := rfl
theorem tX7_init_74 : tbX7_init 74 = (.iconst 3, 75, 0, 0, 0, 3, []) := rfl
theorem tX7_init_75 : tbX7_init 75 = (.iconst 1, 76, 0, 0, 0, 1, []) := rfl
theorem tX7_init_76 : tbX7_init 76 = (.iastore, 77, 0, 0, 0, 0, []) := rfl
theorem tX7_init_77 : tbX7_init 77 = (.aload_n 0, 78, 0, 0, 0, 0, []) := rfl
theorem tX7_init_78 : tbX7_init 78 = (.getfield 7, 81, 7, 0, 0, 0, [(0, 0)]) := rfl
theorem tX7_init_81 : tbX7_init 81 = (.bipush 16, 83, 0, 0, 0, 16, []) := rfl
theorem tX7_init_83 : tbX7_init 83 = (.iconst (-1), 84, 0, 0, 0, -1, []) := rfl
theorem tX7_init_84 : tbX7_init 84 = (.iastore, 85, 0, 0, 0, 0, []) := rfl
theorem tX7_init_85 : tbX7_init 85 = (.return_, 86, 0, 0, 0, 0, []) := rfl
def ltX7_in : List (Nat × pm_E) := [(0, .iload_n 0, 1, 0, 0, 0, 0, []), (1, .iload_n 1, 2, 0, 0, 0, 0, []), (2, .if_icmp .lt 12, 5, 14, 0, 0, 0, []), (5, .iload_n 0, 6, 0, 0, 0, 0, []), (6, .iload_n 2, 7, 0, 0, 0, 0, []), (7, .if_icmp .gt 7, 10, 14, 0, 0, 0, []), (10, .iconst 1, 11, 0, 0, 0, 1, []), (11, .goto 4, 14, 15, 0, 0, 0, []), (14, .iconst 0, 15, 0, 0, 0, 0, []), (15, .ireturn, 16, 0, 0, 0, 0, [])]
def tbX7_in : Nat → pm_E := pm_lk ltX7_in
theorem okX7_in : ∀ pc, (tbX7_in pc).1 = .nop ∨ pm_ok mX7_in pw_Ms pc (tbX7_in pc) := pm_lk_ok (by decide +kernel)
theorem nr_X7_in : mX7_in.2.2.2 = (some .boolean) := rfl
theorem tX7_in_0 : tbX7_in 0 = (.iload_n 0, 1, 0, 0, 0, 0, []) := rfl
theorem tX7_in_1 : tbX7_in 1 = (.iload_n 1, 2, 0, 0, 0, 0, []) := rfl
theorem tX7_in_2 : tbX7_in 2 = (.if_icmp .lt 12, 5, 14, 0, 0, 0, []) := rfl
theorem tX7_in_5 : tbX7_in 5 = (.iload_n 0, 6, 0, 0, 0, 0, []) := rfl
theorem tX7_in_6 : tbX7_in 6 = (.iload_n 2, 7, 0, 0, 0, 0, []) := rfl
theorem tX7_in_7 : tbX7_in 7 = (.if_icmp .gt 7, 10, 14, 0, 0, 0, []) := rfl
theorem tX7_in_10 : tbX7_in 10 = (.iconst 1, 11, 0, 0, 0, 1, []) := rfl
theorem tX7_in_11 : tbX7_in 11 = (.goto 4, 14, 15, 0, 0, 0, []) := rfl
theorem tX7_in_14 : tbX7_in 14 = (.iconst 0, 15, 0, 0, 0, 0, []) := rfl
theorem tX7_in_15 : tbX7_in 15 = (.ireturn, 16, 0, 0, 0, 0, []) := rfl
def ltX7_record : List (Nat × pm_E) := [(0, .aload_n 0, 1, 0, 0, 0, 0, []), (1, .getfield 31, 4, 7, 8, 0, 0, []), (4, .iconst 4, 5, 0, 0, 0, 4, []), (5, .if_icmp .ne 44, 8, 49, 0, 0, 0, []), (8, .iconst 0, 9, 0, 0, 0, 0, []), (9, .istore_n 1, 10, 0, 0, 0, 0, []), (10, .iload_n 1, 11, 0, 0, 0, 0, []), (11, .sipush 1122, 14, 0, 0, 0, 1122, []), (14, .if_icmp .ge 25, 17, 39, 0, 0, 0, []), (17, .aload_n 0, 18, 0, 0, 0, 0, []), (18, .getfield 13, 21, 7, 1, 0, 0, [(0, 0)]), (21, .iload_n 1, 22, 0, 0, 0, 0, []), (22, .aload_n 0, 23, 0, 0, 0, 0, []), (23, .getfield 13, 26, 7, 1, 0, 0, [(0, 0)]), (26, .sipush 374, 29, 0, 0, 0, 374, []), (29, .iload_n 1, 30, 0, 0, 0, 0, []), (30, .iadd, 31, 0, 0, 0, 0, []), (31, .iaload, 32, 0, 0, 0, 0, []), (32, .iastore, 33, 0, 0, 0, 0, []), (33, .iinc 1 1, 36, 0, 0, 0, 1, []), (36, .goto (-26), 39, 10, 0, 0, 0, []), (39, .aload_n 0, 40, 0, 0, 0, 0, []), (40, .dup, 41, 0, 0, 0, 0, []), (41, .getfield 31, 44, 7, 8, 0, 0, []), (44, .iconst 1, 45, 0, 0, 0, 1, []), (45, .isub, 46, 0, 0, 0, 0, []), (46, .putfield 31, 49, 7, 8, 0, 0, []), (49, .iconst 0, 50, 0, 0, 0, 0, []), (50, .istore_n 1, 51, 0, 0, 0, 0, []), (51, .iload_n 1, 52, 0, 0, 0, 0, []), (52, .sipush 374, 55, 0, 0, 0, 374, []), (55, .if_icmp .ge 30, 58, 85, 0, 0, 0, []), (58, .aload_n 0, 59, 0, 0, 0, 0, []), (59, .getfield 13, 62, 7, 1, 0, 0, [(0, 0)]), (62, .sipush 374, 65, 0, 0, 0, 374, []), (65, .aload_n 0, 66, 0, 0, 0, 0, []), (66, .getfield 31, 69, 7, 8, 0, 0, []), (69, .imul, 70, 0, 0, 0, 0, []), (70, .iload_n 1, 71, 0, 0, 0, 0, []), (71, .iadd, 72, 0, 0, 0, 0, []), (72, .aload_n 0, 73, 0, 0, 0, 0, []), (73, .getfield 7, 76, 7, 0, 0, 0, [(0, 0)]), (76, .iload_n 1, 77, 0, 0, 0, 0, []), (77, .iaload, 78, 0, 0, 0, 0, []), (78, .iastore, 79, 0, 0, 0, 0, []), (79, .iinc 1 1, 82, 0, 0, 0, 1, []), (82, .goto (-31), 85, 51, 0, 0, 0, []), (85, .aload_n 0, 86, 0, 0, 0, 0, []), (86, .dup, 87, 0, 0, 0, 0, []), (87, .getfield 31, 90, 7, 8, 0, 0, []), (90, .iconst 1, 91, 0, 0, 0, 1, []), (91, .iadd, 92, 0, 0, 0, 0, []), (92, .putfield 31, 95, 7, 8, 0, 0, []), (95, .return_, 96, 0, 0, 0, 0, [])]
def tbX7_record : Nat → pm_E := pm_lk ltX7_record
theorem okX7_record : ∀ pc, (tbX7_record pc).1 = .nop ∨ pm_ok mX7_record pw_Ms pc (tbX7_record pc) := pm_lk_ok (by decide +kernel)
theorem nr_X7_record : mX7_record.2.2.2 = none := rfl
theorem tX7_record_0 : tbX7_record 0 = (.aload_n 0, 1, 0, 0, 0, 0, []) := rfl
theorem tX7_record_1 : tbX7_record 1 = (.getfield 31, 4, 7, 8, 0, 0, []) := rfl
theorem tX7_record_4 : tbX7_record 4 = (.iconst 4, 5, 0, 0, 0, 4, []) := rfl
theorem tX7_record_5 : tbX7_record 5 = (.if_icmp .ne 44, 8, 49, 0, 0, 0, []) := rfl
theorem tX7_record_8 : tbX7_record 8 = (.iconst 0, 9, 0, 0, 0, 0, []) := rfl
theorem tX7_record_9 : tbX7_record 9 = (.istore_n 1, 10, 0, 0, 0, 0, []) := rfl
theorem tX7_record_10 : tbX7_record 10 = (.iload_n 1, 11, 0, 0, 0, 0, []) := rfl
theorem tX7_record_11 : tbX7_record 11 = (.sipush 1122, 14, 0, 0, 0, 1122, []) := rfl
theorem tX7_record_14 : tbX7_record 14 = (.if_icmp .ge 25, 17, 39, 0, 0, 0, []) := rfl
theorem tX7_record_17 : tbX7_record 17 = (.aload_n 0, 18, 0, 0, 0, 0, []) := rfl
theorem tX7_record_18 : tbX7_record 18 = (.getfield 13, 21, 7, 1, 0, 0, [(0, 0)]) := rfl
theorem tX7_record_21 : tbX7_record 21 = (.iload_n 1, 22, 0, 0, 0, 0, []) := rfl
theorem tX7_record_22 : tbX7_record 22 = (.aload_n 0, 23, 0, 0, 0, 0, []) := rfl
theorem tX7_record_23 : tbX7_record 23 = (.getfield 13, 26, 7, 1, 0, 0, [(0, 0)]) := rfl
theorem tX7_record_26 : tbX7_record 26 = (.sipush 374, 29, 0, 0, 0, 374, []) := rfl
theorem tX7_record_29 : tbX7_record 29 = (.iload_n 1, 30, 0, 0, 0, 0, []) := rfl
theorem tX7_record_30 : tbX7_record 30 = (.iadd, 31, 0, 0, 0, 0, []) := rfl
theorem tX7_record_31 : tbX7_record 31 = (.iaload, 32, 0, 0, 0, 0, []) := rfl
theorem tX7_record_32 : tbX7_record 32 = (.iastore, 33, 0, 0, 0, 0, []) := rfl
theorem tX7_record_33 : tbX7_record 33 = (.iinc 1 1, 36, 0, 0, 0, 1, []) := rfl
theorem tX7_record_36 : tbX7_record 36 = (.goto (-26), 39, 10, 0, 0, 0, []) := rfl
theorem tX7_record_39 : tbX7_record 39 = (.aload_n 0, 40, 0, 0, 0, 0, []) := rfl
theorem tX7_record_40 : tbX7_record 40 = (.dup, 41, 0, 0, 0, 0, []) := rfl
theorem tX7_record_41 : tbX7_record 41 = (.getfield 31, 44, 7, 8, 0, 0, []) := rfl
theorem tX7_record_44 : tbX7_record 44 = (.iconst 1, 45, 0, 0, 0, 1, []) := rfl
theorem tX7_record_45 : tbX7_record 45 = (.isub, 46, 0, 0, 0, 0, []) := rfl
theorem tX7_record_46 : tbX7_record 46 = (.putfield 31, 49, 7, 8, 0, 0, []) := rfl
theorem tX7_record_49 : tbX7_record 49 = (.iconst 0, 50, 0, 0, 0, 0, []) := rfl
theorem tX7_record_50 : tbX7_record 50 = (.istore_n 1, 51, 0, 0, 0, 0, []) := rfl
theorem tX7_record_51 : tbX7_record 51 = (.iload_n 1, 52, 0, 0, 0, 0, []) := rfl
theorem tX7_record_52 : tbX7_record 52 = (.sipush 374, 55, 0, 0, 0, 374, []) := rfl
theorem tX7_record_55 : tbX7_record 55 = (.if_icmp .ge 30, 58, 85, 0, 0, 0, []) := rfl
theorem tX7_record_58 : tbX7_record 58 = (.aload_n 0, 59, 0, 0, 0, 0, []) := rfl
theorem tX7_record_59 : tbX7_record 59 = (.getfield 13, 62, 7, 1, 0, 0, [(0, 0)]) := rfl
theorem tX7_record_62 : tbX7_record 62 = (.sipush 374, 65, 0, 0, 0, 374, []) := rfl
theorem tX7_record_65 : tbX7_record 65 = (.aload_n 0, 66, 0, 0, 0, 0, []) := rfl
theorem tX7_record_66 : tbX7_record 66 = (.getfield 31, 69, 7, 8, 0, 0, []) := rfl
theorem tX7_record_69 : tbX7_record 69 = (.imul, 70, 0, 0, 0, 0, []) := rfl
theorem tX7_record_70 : tbX7_record 70 = (.iload_n 1, 71, 0, 0, 0, 0, []) := rfl
theorem tX7_record_71 : tbX7_record 71 = (.iadd, 72, 0, 0, 0, 0, []) := rfl
theorem tX7_record_72 : tbX7_record 72 = (.aload_n 0, 73, 0, 0, 0, 0, []) := rfl
theorem tX7_record_73 : tbX7_record 73 = (.getfield 7, 76, 7, 0, 0, 0, [(0, 0)]) := rfl
theorem tX7_record_76 : tbX7_record 76 = (.iload_n 1, 77, 0, 0, 0, 0, []) := rfl
theorem tX7_record_77 : tbX7_record 77 = (.iaload, 78, 0, 0, 0, 0, []) := rfl
theorem tX7_record_78 : tbX7_record 78 = (.iastore, 79, 0, 0, 0, 0, []) := rfl
theorem tX7_record_79 : tbX7_record 79 = (.iinc 1 1, 82, 0, 0, 0, 1, []) := rfl
theorem tX7_record_82 : tbX7_record 82 = (.goto (-31), 85, 51, 0, 0, 0, []) := rfl
theorem tX7_record_85 : tbX7_record 85 = (.aload_n 0, 86, 0, 0, 0, 0, []) := rfl
theorem tX7_record_86 : tbX7_record 86 = (.dup, 87, 0, 0, 0, 0, []) := rfl
theorem tX7_record_87 : tbX7_record 87 = (.getfield 31, 90, 7, 8, 0, 0, []) := rfl
theorem tX7_record_90 : tbX7_record 90 = (.iconst 1, 91, 0, 0, 0, 1, []) := rfl
theorem tX7_record_91 : tbX7_record 91 = (.iadd, 92, 0, 0, 0, 0, []) := rfl
theorem tX7_record_92 : tbX7_record 92 = (.putfield 31, 95, 7, 8, 0, 0, []) := rfl
theorem tX7_record_95 : tbX7_record 95 = (.return_, 96, 0, 0, 0, 0, []) := rfl
def ltX7_layAside : List (Nat × pm_E) := [(0, .iconst 0, 1, 0, 0, 0, 0, []), (1, .istore_n 1, 2, 0, 0, 0, 0, []), (2, .iload_n 1, 3, 0, 0, 0, 0, []), (3, .sipush 374, 6, 0, 0, 0, 374, []), (6, .if_icmp .ge 21, 9, 27, 0, 0, 0, []), (9, .aload_n 0, 10, 0, 0, 0, 0, []), (10, .getfield 16, 13, 7, 2, 0, 0, [(0, 0)]), (13, .iload_n 1, 14, 0, 0, 0, 0, []), (14, .aload_n 0, 15, 0, 0, 0, 0, []), (15, .getfield 7, 18, 7, 0, 0, 0, [(0, 0)]), (18, .iload_n 1, 19, 0, 0, 0, 0, []), (19, .iaload, 20, 0, 0, 0, 0, []), (20, .iastore, 21, 0, 0, 0, 0, []), (21, .iinc 1 1, 24, 0, 0, 0, 1, []), (24, .goto (-22), 27, 2, 0, 0, 0, []), (27, .return_, 28, 0, 0, 0, 0, [])]
def tbX7_layAside : Nat → pm_E := pm_lk ltX7_layAside
theorem okX7_layAside : ∀ pc, (tbX7_layAside pc).1 = .nop ∨ pm_ok mX7_layAside pw_Ms pc (tbX7_layAside pc) := pm_lk_ok (by decide +kernel)
theorem nr_X7_layAside : mX7_layAside.2.2.2 = none := rfl
theorem tX7_layAside_0 : tbX7_layAside 0 = (.iconst 0, 1, 0, 0, 0, 0, []) := rfl
theorem tX7_layAside_1 : tbX7_layAside 1 = (.istore_n 1, 2, 0, 0, 0, 0, []) := rfl
theorem tX7_layAside_2 : tbX7_layAside 2 = (.iload_n 1, 3, 0, 0, 0, 0, []) := rfl
theorem tX7_layAside_3 : tbX7_layAside 3 = (.sipush 374, 6, 0, 0, 0, 374, []) := rfl
theorem tX7_layAside_6 : tbX7_layAside 6 = (.if_icmp .ge 21, 9, 27, 0, 0, 0, []) := rfl
theorem tX7_layAside_9 : tbX7_layAside 9 = (.aload_n 0, 10, 0, 0, 0, 0, []) := rfl
theorem tX7_layAside_10 : tbX7_layAside 10 = (.getfield 16, 13, 7, 2, 0, 0, [(0, 0)]) := rfl
theorem tX7_layAside_13 : tbX7_layAside 13 = (.iload_n 1, 14, 0, 0, 0, 0, []) := rfl
theorem tX7_layAside_14 : tbX7_layAside 14 = (.aload_n 0, 15, 0, 0, 0, 0, []) := rfl
theorem tX7_layAside_15 : tbX7_layAside 15 = (.getfield 7, 18, 7, 0, 0, 0, [(0, 0)]) := rfl
theorem tX7_layAside_18 : tbX7_layAside 18 = (.iload_n 1, 19, 0, 0, 0, 0, []) := rfl
theorem tX7_layAside_19 : tbX7_layAside 19 = (.iaload, 20, 0, 0, 0, 0, []) := rfl
theorem tX7_layAside_20 : tbX7_layAside 20 = (.iastore, 21, 0, 0, 0, 0, []) := rfl
theorem tX7_layAside_21 : tbX7_layAside 21 = (.iinc 1 1, 24, 0, 0, 0, 1, []) := rfl
theorem tX7_layAside_24 : tbX7_layAside 24 = (.goto (-22), 27, 2, 0, 0, 0, []) := rfl
theorem tX7_layAside_27 : tbX7_layAside 27 = (.return_, 28, 0, 0, 0, 0, []) := rfl
def ltX7_layBack : List (Nat × pm_E) := [(0, .iconst 0, 1, 0, 0, 0, 0, []), (1, .istore_n 1, 2, 0, 0, 0, 0, []), (2, .iload_n 1, 3, 0, 0, 0, 0, []), (3, .sipush 374, 6, 0, 0, 0, 374, []), (6, .if_icmp .ge 21, 9, 27, 0, 0, 0, []), (9, .aload_n 0, 10, 0, 0, 0, 0, []), (10, .getfield 7, 13, 7, 0, 0, 0, [(0, 0)]), (13, .iload_n 1, 14, 0, 0, 0, 0, []), (14, .aload_n 0, 15, 0, 0, 0, 0, []), (15, .getfield 16, 18, 7, 2, 0, 0, [(0, 0)]), (18, .iload_n 1, 19, 0, 0, 0, 0, []), (19, .iaload, 20, 0, 0, 0, 0, []), (20, .iastore, 21, 0, 0, 0, 0, []), (21, .iinc 1 1, 24, 0, 0, 0, 1, []), (24, .goto (-22), 27, 2, 0, 0, 0, []), (27, .return_, 28, 0, 0, 0, 0, [])]
def tbX7_layBack : Nat → pm_E := pm_lk ltX7_layBack
theorem okX7_layBack : ∀ pc, (tbX7_layBack pc).1 = .nop ∨ pm_ok mX7_layBack pw_Ms pc (tbX7_layBack pc) := pm_lk_ok (by decide +kernel)
theorem nr_X7_layBack : mX7_layBack.2.2.2 = none := rfl
theorem tX7_layBack_0 : tbX7_layBack 0 = (.iconst 0, 1, 0, 0, 0, 0, []) := rfl
theorem tX7_layBack_1 : tbX7_layBack 1 = (.istore_n 1, 2, 0, 0, 0, 0, []) := rfl
theorem tX7_layBack_2 : tbX7_layBack 2 = (.iload_n 1, 3, 0, 0, 0, 0, []) := rfl
theorem tX7_layBack_3 : tbX7_layBack 3 = (.sipush 374, 6, 0, 0, 0, 374, []) := rfl
theorem tX7_layBack_6 : tbX7_layBack 6 = (.if_icmp .ge 21, 9, 27, 0, 0, 0, []) := rfl
theorem tX7_layBack_9 : tbX7_layBack 9 = (.aload_n 0, 10, 0, 0, 0, 0, []) := rfl
theorem tX7_layBack_10 : tbX7_layBack 10 = (.getfield 7, 13, 7, 0, 0, 0, [(0, 0)]) := rfl
theorem tX7_layBack_13 : tbX7_layBack 13 = (.iload_n 1, 14, 0, 0, 0, 0, []) := rfl
theorem tX7_layBack_14 : tbX7_layBack 14 = (.aload_n 0, 15, 0, 0, 0, 0, []) := rfl
theorem tX7_layBack_15 : tbX7_layBack 15 = (.getfield 16, 18, 7, 2, 0, 0, [(0, 0)]) := rfl
theorem tX7_layBack_18 : tbX7_layBack 18 = (.iload_n 1, 19, 0, 0, 0, 0, []) := rfl
theorem tX7_layBack_19 : tbX7_layBack 19 = (.iaload, 20, 0, 0, 0, 0, []) := rfl
theorem tX7_layBack_20 : tbX7_layBack 20 = (.iastore, 21, 0, 0, 0, 0, []) := rfl
theorem tX7_layBack_21 : tbX7_layBack 21 = (.iinc 1 1, 24, 0, 0, 0, 1, []) := rfl
theorem tX7_layBack_24 : tbX7_layBack 24 = (.goto (-22), 27, 2, 0, 0, 0, []) := rfl
theorem tX7_layBack_27 : tbX7_layBack 27 = (.return_, 28, 0, 0, 0, 0, []) := rfl
def ltX7_n : List (Nat × pm_E) := [(0, .bipush 16, 2, 0, 0, 0, 16, []), (2, .bipush 25, 4, 0, 0, 0, 25, []), (4, .iload_n 0, 5, 0, 0, 0, 0, []), (5, .imul, 6, 0, 0, 0, 0, []), (6, .iadd, 7, 0, 0, 0, 0, []), (7, .ireturn, 8, 0, 0, 0, 0, [])]
def tbX7_n : Nat → pm_E := pm_lk ltX7_n
theorem okX7_n : ∀ pc, (tbX7_n pc).1 = .nop ∨ pm_ok mX7_n pw_Ms pc (tbX7_n pc) := pm_lk_ok (by decide +kernel)
theorem nr_X7_n : mX7_n.2.2.2 = (some .int) := rfl
theorem tX7_n_0 : tbX7_n 0 = (.bipush 16, 2, 0, 0, 0, 16, []) := rfl
theorem tX7_n_2 : tbX7_n 2 = (.bipush 25, 4, 0, 0, 0, 25, []) := rfl
theorem tX7_n_4 : tbX7_n 4 = (.iload_n 0, 5, 0, 0, 0, 0, []) := rfl
theorem tX7_n_5 : tbX7_n 5 = (.imul, 6, 0, 0, 0, 0, []) := rfl
theorem tX7_n_6 : tbX7_n 6 = (.iadd, 7, 0, 0, 0, 0, []) := rfl
theorem tX7_n_7 : tbX7_n 7 = (.ireturn, 8, 0, 0, 0, 0, []) := rfl
def ltX7_l : List (Nat × pm_E) := [(0, .sipush 166, 3, 0, 0, 0, 166, []), (3, .bipush 13, 5, 0, 0, 0, 13, []), (5, .iload_n 0, 6, 0, 0, 0, 0, []), (6, .imul, 7, 0, 0, 0, 0, []), (7, .iadd, 8, 0, 0, 0, 0, []), (8, .ireturn, 9, 0, 0, 0, 0, [])]
def tbX7_l : Nat → pm_E := pm_lk ltX7_l
theorem okX7_l : ∀ pc, (tbX7_l pc).1 = .nop ∨ pm_ok mX7_l pw_Ms pc (tbX7_l pc) := pm_lk_ok (by decide +kernel)
theorem nr_X7_l : mX7_l.2.2.2 = (some .int) := rfl
theorem tX7_l_0 : tbX7_l 0 = (.sipush 166, 3, 0, 0, 0, 166, []) := rfl
theorem tX7_l_3 : tbX7_l 3 = (.bipush 13, 5, 0, 0, 0, 13, []) := rfl
theorem tX7_l_5 : tbX7_l 5 = (.iload_n 0, 6, 0, 0, 0, 0, []) := rfl
theorem tX7_l_6 : tbX7_l 6 = (.imul, 7, 0, 0, 0, 0, []) := rfl
theorem tX7_l_7 : tbX7_l 7 = (.iadd, 8, 0, 0, 0, 0, []) := rfl
theorem tX7_l_8 : tbX7_l 8 = (.ireturn, 9, 0, 0, 0, 0, []) := rfl
def ltX7_isNode : List (Nat × pm_E) := [(0, .iload_n 1, 1, 0, 0, 0, 0, []), (1, .iconst 0, 2, 0, 0, 0, 0, []), (2, .aload_n 0, 3, 0, 0, 0, 0, []), (3, .getfield 7, 6, 7, 0, 0, 0, [(0, 0)]), (6, .iconst 3, 7, 0, 0, 0, 3, []), (7, .iaload, 8, 0, 0, 0, 0, []), (8, .iconst 1, 9, 0, 0, 0, 1, []), (9, .isub, 10, 0, 0, 0, 0, []), (10, .invokestatic 35, 13, 94, 3, 0, 0, []), (13, .ireturn, 14, 0, 0, 0, 0, [])]
def tbX7_isNode : Nat → pm_E := pm_lk ltX7_isNode
theorem okX7_isNode : ∀ pc, (tbX7_isNode pc).1 = .nop ∨ pm_ok mX7_isNode pw_Ms pc (tbX7_isNode pc) := pm_lk_ok (by decide +kernel)
theorem nr_X7_isNode : mX7_isNode.2.2.2 = (some .boolean) := rfl
theorem tX7_isNode_0 : tbX7_isNode 0 = (.iload_n 1, 1, 0, 0, 0, 0, []) := rfl
theorem tX7_isNode_1 : tbX7_isNode 1 = (.iconst 0, 2, 0, 0, 0, 0, []) := rfl
theorem tX7_isNode_2 : tbX7_isNode 2 = (.aload_n 0, 3, 0, 0, 0, 0, []) := rfl
theorem tX7_isNode_3 : tbX7_isNode 3 = (.getfield 7, 6, 7, 0, 0, 0, [(0, 0)]) := rfl
theorem tX7_isNode_6 : tbX7_isNode 6 = (.iconst 3, 7, 0, 0, 0, 3, []) := rfl
theorem tX7_isNode_7 : tbX7_isNode 7 = (.iaload, 8, 0, 0, 0, 0, []) := rfl
theorem tX7_isNode_8 : tbX7_isNode 8 = (.iconst 1, 9, 0, 0, 0, 1, []) := rfl
theorem tX7_isNode_9 : tbX7_isNode 9 = (.isub, 10, 0, 0, 0, 0, []) := rfl
theorem tX7_isNode_10 : tbX7_isNode 10 = (.invokestatic 35, 13, 94, 3, 0, 0, []) := rfl
theorem tX7_isNode_13 : tbX7_isNode 13 = (.ireturn, 14, 0, 0, 0, 0, []) := rfl
def ltX7_isLine : List (Nat × pm_E) := [(0, .iload_n 1, 1, 0, 0, 0, 0, []), (1, .iconst 0, 2, 0, 0, 0, 0, []), (2, .aload_n 0, 3, 0, 0, 0, 0, []), (3, .getfield 7, 6, 7, 0, 0, 0, [(0, 0)]), (6, .iconst 4, 7, 0, 0, 0, 4, []), (7, .iaload, 8, 0, 0, 0, 0, []), (8, .iconst 1, 9, 0, 0, 0, 1, []), (9, .isub, 10, 0, 0, 0, 0, []), (10, .invokestatic 35, 13, 94, 3, 0, 0, []), (13, .ireturn, 14, 0, 0, 0, 0, [])]
def tbX7_isLine : Nat → pm_E := pm_lk ltX7_isLine
theorem okX7_isLine : ∀ pc, (tbX7_isLine pc).1 = .nop ∨ pm_ok mX7_isLine pw_Ms pc (tbX7_isLine pc) := pm_lk_ok (by decide +kernel)
theorem nr_X7_isLine : mX7_isLine.2.2.2 = (some .boolean) := rfl
theorem tX7_isLine_0 : tbX7_isLine 0 = (.iload_n 1, 1, 0, 0, 0, 0, []) := rfl
theorem tX7_isLine_1 : tbX7_isLine 1 = (.iconst 0, 2, 0, 0, 0, 0, []) := rfl
theorem tX7_isLine_2 : tbX7_isLine 2 = (.aload_n 0, 3, 0, 0, 0, 0, []) := rfl
theorem tX7_isLine_3 : tbX7_isLine 3 = (.getfield 7, 6, 7, 0, 0, 0, [(0, 0)]) := rfl
theorem tX7_isLine_6 : tbX7_isLine 6 = (.iconst 4, 7, 0, 0, 0, 4, []) := rfl
theorem tX7_isLine_7 : tbX7_isLine 7 = (.iaload, 8, 0, 0, 0, 0, []) := rfl
theorem tX7_isLine_8 : tbX7_isLine 8 = (.iconst 1, 9, 0, 0, 0, 1, []) := rfl
theorem tX7_isLine_9 : tbX7_isLine 9 = (.isub, 10, 0, 0, 0, 0, []) := rfl
theorem tX7_isLine_10 : tbX7_isLine 10 = (.invokestatic 35, 13, 94, 3, 0, 0, []) := rfl
theorem tX7_isLine_13 : tbX7_isLine 13 = (.ireturn, 14, 0, 0, 0, 0, []) := rfl
def ltX7_isBit : List (Nat × pm_E) := [(0, .iload_n 0, 1, 0, 0, 0, 0, []), (1, .ifCond .eq 8, 4, 9, 0, 0, 0, []), (4, .iload_n 0, 5, 0, 0, 0, 0, []), (5, .iconst 1, 6, 0, 0, 0, 1, []), (6, .if_icmp .ne 7, 9, 13, 0, 0, 0, []), (9, .iconst 1, 10, 0, 0, 0, 1, []), (10, .goto 4, 13, 14, 0, 0, 0, []), (13, .iconst 0, 14, 0, 0, 0, 0, []), (14, .ireturn, 15, 0, 0, 0, 0, [])]
def tbX7_isBit : Nat → pm_E := pm_lk ltX7_isBit
theorem okX7_isBit : ∀ pc, (tbX7_isBit pc).1 = .nop ∨ pm_ok mX7_isBit pw_Ms pc (tbX7_isBit pc) := pm_lk_ok (by decide +kernel)
theorem nr_X7_isBit : mX7_isBit.2.2.2 = (some .boolean) := rfl
theorem tX7_isBit_0 : tbX7_isBit 0 = (.iload_n 0, 1, 0, 0, 0, 0, []) := rfl
theorem tX7_isBit_1 : tbX7_isBit 1 = (.ifCond .eq 8, 4, 9, 0, 0, 0, []) := rfl
theorem tX7_isBit_4 : tbX7_isBit 4 = (.iload_n 0, 5, 0, 0, 0, 0, []) := rfl
theorem tX7_isBit_5 : tbX7_isBit 5 = (.iconst 1, 6, 0, 0, 0, 1, []) := rfl
theorem tX7_isBit_6 : tbX7_isBit 6 = (.if_icmp .ne 7, 9, 13, 0, 0, 0, []) := rfl
theorem tX7_isBit_9 : tbX7_isBit 9 = (.iconst 1, 10, 0, 0, 0, 1, []) := rfl
theorem tX7_isBit_10 : tbX7_isBit 10 = (.goto 4, 13, 14, 0, 0, 0, []) := rfl
theorem tX7_isBit_13 : tbX7_isBit 13 = (.iconst 0, 14, 0, 0, 0, 0, []) := rfl
theorem tX7_isBit_14 : tbX7_isBit 14 = (.ireturn, 15, 0, 0, 0, 0, []) := rfl
def ltX7_hang : List (Nat × pm_E) := [(0, .aload_n 0, 1, 0, 0, 0, 0, []), (1, .getfield 7, 4, 7, 0, 0, 0, [(0, 0)]), (4, .iload_n 1, 5, 0, 0, 0, 0, []), (5, .invokestatic 39, 8, 98, 1, 0, 0, []), (8, .iconst 4, 9, 0, 0, 0, 4, []), (9, .iadd, 10, 0, 0, 0, 0, []), (10, .aload_n 0, 11, 0, 0, 0, 0, []), (11, .getfield 7, 14, 7, 0, 0, 0, [(0, 0)]), (14, .iload_n 1, 15, 0, 0, 0, 0, []), (15, .invokestatic 39, 18, 98, 1, 0, 0, []), (18, .iconst 3, 19, 0, 0, 0, 3, []), (19, .iadd, 20, 0, 0, 0, 0, []), (20, .iaload, 21, 0, 0, 0, 0, []), (21, .iadd, 22, 0, 0, 0, 0, []), (22, .iload_n 2, 23, 0, 0, 0, 0, []), (23, .iastore, 24, 0, 0, 0, 0, []), (24, .aload_n 0, 25, 0, 0, 0, 0, []), (25, .getfield 7, 28, 7, 0, 0, 0, [(0, 0)]), (28, .iload_n 1, 29, 0, 0, 0, 0, []), (29, .invokestatic 39, 32, 98, 1, 0, 0, []), (32, .iconst 3, 33, 0, 0, 0, 3, []), (33, .iadd, 34, 0, 0, 0, 0, []), (34, .dup2, 35, 0, 0, 0, 0, []), (35, .iaload, 36, 0, 0, 0, 0, []), (36, .iconst 1, 37, 0, 0, 0, 1, []), (37, .iadd, 38, 0, 0, 0, 0, []), (38, .iastore, 39, 0, 0, 0, 0, []), (39, .return_, 40, 0, 0, 0, 0, [])]
def tbX7_hang : Nat → pm_E := pm_lk ltX7_hang
theorem okX7_hang : ∀ pc, (tbX7_hang pc).1 = .nop ∨ pm_ok mX7_hang pw_Ms pc (tbX7_hang pc) := pm_lk_ok (by decide +kernel)
theorem nr_X7_hang : mX7_hang.2.2.2 = none := rfl
theorem tX7_hang_0 : tbX7_hang 0 = (.aload_n 0, 1, 0, 0, 0, 0, []) := rfl
theorem tX7_hang_1 : tbX7_hang 1 = (.getfield 7, 4, 7, 0, 0, 0, [(0, 0)]) := rfl
theorem tX7_hang_4 : tbX7_hang 4 = (.iload_n 1, 5, 0, 0, 0, 0, []) := rfl
theorem tX7_hang_5 : tbX7_hang 5 = (.invokestatic 39, 8, 98, 1, 0, 0, []) := rfl
theorem tX7_hang_8 : tbX7_hang 8 = (.iconst 4, 9, 0, 0, 0, 4, []) := rfl
theorem tX7_hang_9 : tbX7_hang 9 = (.iadd, 10, 0, 0, 0, 0, []) := rfl
theorem tX7_hang_10 : tbX7_hang 10 = (.aload_n 0, 11, 0, 0, 0, 0, []) := rfl
theorem tX7_hang_11 : tbX7_hang 11 = (.getfield 7, 14, 7, 0, 0, 0, [(0, 0)]) := rfl
theorem tX7_hang_14 : tbX7_hang 14 = (.iload_n 1, 15, 0, 0, 0, 0, []) := rfl
theorem tX7_hang_15 : tbX7_hang 15 = (.invokestatic 39, 18, 98, 1, 0, 0, []) := rfl
theorem tX7_hang_18 : tbX7_hang 18 = (.iconst 3, 19, 0, 0, 0, 3, []) := rfl
theorem tX7_hang_19 : tbX7_hang 19 = (.iadd, 20, 0, 0, 0, 0, []) := rfl
theorem tX7_hang_20 : tbX7_hang 20 = (.iaload, 21, 0, 0, 0, 0, []) := rfl
theorem tX7_hang_21 : tbX7_hang 21 = (.iadd, 22, 0, 0, 0, 0, []) := rfl
theorem tX7_hang_22 : tbX7_hang 22 = (.iload_n 2, 23, 0, 0, 0, 0, []) := rfl
theorem tX7_hang_23 : tbX7_hang 23 = (.iastore, 24, 0, 0, 0, 0, []) := rfl
theorem tX7_hang_24 : tbX7_hang 24 = (.aload_n 0, 25, 0, 0, 0, 0, []) := rfl
theorem tX7_hang_25 : tbX7_hang 25 = (.getfield 7, 28, 7, 0, 0, 0, [(0, 0)]) := rfl
theorem tX7_hang_28 : tbX7_hang 28 = (.iload_n 1, 29, 0, 0, 0, 0, []) := rfl
theorem tX7_hang_29 : tbX7_hang 29 = (.invokestatic 39, 32, 98, 1, 0, 0, []) := rfl
theorem tX7_hang_32 : tbX7_hang 32 = (.iconst 3, 33, 0, 0, 0, 3, []) := rfl
theorem tX7_hang_33 : tbX7_hang 33 = (.iadd, 34, 0, 0, 0, 0, []) := rfl
theorem tX7_hang_34 : tbX7_hang 34 = (.dup2, 35, 0, 0, 0, 0, []) := rfl
theorem tX7_hang_35 : tbX7_hang 35 = (.iaload, 36, 0, 0, 0, 0, []) := rfl
theorem tX7_hang_36 : tbX7_hang 36 = (.iconst 1, 37, 0, 0, 0, 1, []) := rfl
theorem tX7_hang_37 : tbX7_hang 37 = (.iadd, 38, 0, 0, 0, 0, []) := rfl
theorem tX7_hang_38 : tbX7_hang 38 = (.iastore, 39, 0, 0, 0, 0, []) := rfl
theorem tX7_hang_39 : tbX7_hang 39 = (.return_, 40, 0, 0, 0, 0, []) := rfl
def ltX7_node : List (Nat × pm_E) := [(0, .aload_n 0, 1, 0, 0, 0, 0, []), (1, .iload_n 1, 2, 0, 0, 0, 0, []), (2, .invokevirtual 43, 5, 100, 1, 7, 0, []), (5, .ifCond .eq 10, 8, 15, 0, 0, 0, []), (8, .iload_n 2, 9, 0, 0, 0, 0, []), (9, .invokestatic 47, 12, 102, 1, 0, 0, []), (12, .ifCond .ne 5, 15, 17, 0, 0, 0, []), (15, .iconst (-1), 16, 0, 0, 0, -1, []), (16, .ireturn, 17, 0, 0, 0, 0, []), (17, .aload_n 0, 18, 0, 0, 0, 0, []), (18, .getfield 7, 21, 7, 0, 0, 0, [(0, 0)]), (21, .iconst 3, 22, 0, 0, 0, 3, []), (22, .iaload, 23, 0, 0, 0, 0, []), (23, .bipush 6, 25, 0, 0, 0, 6, []), (25, .if_icmp .ne 6, 28, 31, 0, 0, 0, []), (28, .bipush (-3), 30, 0, 0, 0, -3, []), (30, .ireturn, 31, 0, 0, 0, 0, []), (31, .aload_n 0, 32, 0, 0, 0, 0, []), (32, .invokevirtual 50, 35, 95, 0, 7, 0, []), (35, .aload_n 0, 36, 0, 0, 0, 0, []), (36, .getfield 7, 39, 7, 0, 0, 0, [(0, 0)]), (39, .iconst 3, 40, 0, 0, 0, 3, []), (40, .iaload, 41, 0, 0, 0, 0, []), (41, .istore_n 3, 42, 0, 0, 0, 0, []), (42, .aload_n 0, 43, 0, 0, 0, 0, []), (43, .getfield 7, 46, 7, 0, 0, 0, [(0, 0)]), (46, .iload_n 3, 47, 0, 0, 0, 0, []), (47, .invokestatic 39, 50, 98, 1, 0, 0, []), (50, .iconst 0, 51, 0, 0, 0, 0, []), (51, .iadd, 52, 0, 0, 0, 0, []), (52, .iload_n 1, 53, 0, 0, 0, 0, []), (53, .iastore, 54, 0, 0, 0, 0, []), (54, .aload_n 0, 55, 0, 0, 0, 0, []), (55, .getfield 7, 58, 7, 0, 0, 0, [(0, 0)]), (58, .iload_n 3, 59, 0, 0, 0, 0, []), (59, .invokestatic 39, 62, 98, 1, 0, 0, []), (62, .iconst 1, 63, 0, 0, 0, 1, []), (63, .iadd, 64, 0, 0, 0, 0, []), (64, .iload_n 2, 65, 0, 0, 0, 0, []), (65, .iastore, 66, 0, 0, 0, 0, []), (66, .aload_n 0, 67, 0, 0, 0, 0, []), (67, .getfield 7, 70, 7, 0, 0, 0, [(0, 0)]), (70, .iconst 3, 71, 0, 0, 0, 3, []), (71, .dup2, 72, 0, 0, 0, 0, []), (72, .iaload, 73, 0, 0, 0, 0, []), (73, .iconst 1, 74, 0, 0, 0, 1, []), (74, .iadd, 75, 0, 0, 0, 0, []), (75, .iastore, 76, 0, 0, 0, 0, []), (76, .aload_n 0, 77, 0, 0, 0, 0, []), (77, .iload_n 1, 78, 0, 0, 0, 0, []), (78, .bipush 100, 80, 0, 0, 0, 100, []), (80, .iload_n 3, 81, 0, 0, 0, 0, []), (81, .iadd, 82, 0, 0, 0, 0, []), (82, .invokevirtual 53, 85, 103, 2, 7, 0, []), (85, .iload_n 3, 86, 0, 0, 0, 0, []), (86, .ireturn, 87, 0, 0, 0, 0, [])]
def tbX7_node : Nat → pm_E := pm_lk ltX7_node
theorem okX7_node : ∀ pc, (tbX7_node pc).1 = .nop ∨ pm_ok mX7_node pw_Ms pc (tbX7_node pc) := pm_lk_ok (by decide +kernel)
theorem nr_X7_node : mX7_node.2.2.2 = (some .int) := rfl
theorem tX7_node_0 : tbX7_node 0 = (.aload_n 0, 1, 0, 0, 0, 0, []) := rfl
theorem tX7_node_1 : tbX7_node 1 = (.iload_n 1, 2, 0, 0, 0, 0, []) := rfl
theorem tX7_node_2 : tbX7_node 2 = (.invokevirtual 43, 5, 100, 1, 7, 0, []) := rfl
theorem tX7_node_5 : tbX7_node 5 = (.ifCond .eq 10, 8, 15, 0, 0, 0, []) := rfl
theorem tX7_node_8 : tbX7_node 8 = (.iload_n 2, 9, 0, 0, 0, 0, []) := rfl
theorem tX7_node_9 : tbX7_node 9 = (.invokestatic 47, 12, 102, 1, 0, 0, []) := rfl
theorem tX7_node_12 : tbX7_node 12 = (.ifCond .ne 5, 15, 17, 0, 0, 0, []) := rfl
theorem tX7_node_15 : tbX7_node 15 = (.iconst (-1), 16, 0, 0, 0, -1, []) := rfl
theorem tX7_node_16 : tbX7_node 16 = (.ireturn, 17, 0, 0, 0, 0, []) := rfl
theorem tX7_node_17 : tbX7_node 17 = (.aload_n 0, 18, 0, 0, 0, 0, []) := rfl
theorem tX7_node_18 : tbX7_node 18 = (.getfield 7, 21, 7, 0, 0, 0, [(0, 0)]) := rfl
theorem tX7_node_21 : tbX7_node 21 = (.iconst 3, 22, 0, 0, 0, 3, []) := rfl
theorem tX7_node_22 : tbX7_node 22 = (.iaload, 23, 0, 0, 0, 0, []) := rfl
theorem tX7_node_23 : tbX7_node 23 = (.bipush 6, 25, 0, 0, 0, 6, []) := rfl
theorem tX7_node_25 : tbX7_node 25 = (.if_icmp .ne 6, 28, 31, 0, 0, 0, []) := rfl
theorem tX7_node_28 : tbX7_node 28 = (.bipush (-3), 30, 0, 0, 0, -3, []) := rfl
theorem tX7_node_30 : tbX7_node 30 = (.ireturn, 31, 0, 0, 0, 0, []) := rfl
theorem tX7_node_31 : tbX7_node 31 = (.aload_n 0, 32, 0, 0, 0, 0, []) := rfl
theorem tX7_node_32 : tbX7_node 32 = (.invokevirtual 50, 35, 95, 0, 7, 0, []) := rfl
theorem tX7_node_35 : tbX7_node 35 = (.aload_n 0, 36, 0, 0, 0, 0, []) := rfl
theorem tX7_node_36 : tbX7_node 36 = (.getfield 7, 39, 7, 0, 0, 0, [(0, 0)]) := rfl
theorem tX7_node_39 : tbX7_node 39 = (.iconst 3, 40, 0, 0, 0, 3, []) := rfl
theorem tX7_node_40 : tbX7_node 40 = (.iaload, 41, 0, 0, 0, 0, []) := rfl
theorem tX7_node_41 : tbX7_node 41 = (.istore_n 3, 42, 0, 0, 0, 0, []) := rfl
theorem tX7_node_42 : tbX7_node 42 = (.aload_n 0, 43, 0, 0, 0, 0, []) := rfl
theorem tX7_node_43 : tbX7_node 43 = (.getfield 7, 46, 7, 0, 0, 0, [(0, 0)]) := rfl
theorem tX7_node_46 : tbX7_node 46 = (.iload_n 3, 47, 0, 0, 0, 0, []) := rfl
theorem tX7_node_47 : tbX7_node 47 = (.invokestatic 39, 50, 98, 1, 0, 0, []) := rfl
theorem tX7_node_50 : tbX7_node 50 = (.iconst 0, 51, 0, 0, 0, 0, []) := rfl
theorem tX7_node_51 : tbX7_node 51 = (.iadd, 52, 0, 0, 0, 0, []) := rfl
theorem tX7_node_52 : tbX7_node 52 = (.iload_n 1, 53, 0, 0, 0, 0, []) := rfl
theorem tX7_node_53 : tbX7_node 53 = (.iastore, 54, 0, 0, 0, 0, []) := rfl
theorem tX7_node_54 : tbX7_node 54 = (.aload_n 0, 55, 0, 0, 0, 0, []) := rfl
theorem tX7_node_55 : tbX7_node 55 = (.getfield 7, 58, 7, 0, 0, 0, [(0, 0)]) := rfl
theorem tX7_node_58 : tbX7_node 58 = (.iload_n 3, 59, 0, 0, 0, 0, []) := rfl
theorem tX7_node_59 : tbX7_node 59 = (.invokestatic 39, 62, 98, 1, 0, 0, []) := rfl
theorem tX7_node_62 : tbX7_node 62 = (.iconst 1, 63, 0, 0, 0, 1, []) := rfl
theorem tX7_node_63 : tbX7_node 63 = (.iadd, 64, 0, 0, 0, 0, []) := rfl
theorem tX7_node_64 : tbX7_node 64 = (.iload_n 2, 65, 0, 0, 0, 0, []) := rfl
theorem tX7_node_65 : tbX7_node 65 = (.iastore, 66, 0, 0, 0, 0, []) := rfl
theorem tX7_node_66 : tbX7_node 66 = (.aload_n 0, 67, 0, 0, 0, 0, []) := rfl
theorem tX7_node_67 : tbX7_node 67 = (.getfield 7, 70, 7, 0, 0, 0, [(0, 0)]) := rfl
theorem tX7_node_70 : tbX7_node 70 = (.iconst 3, 71, 0, 0, 0, 3, []) := rfl
theorem tX7_node_71 : tbX7_node 71 = (.dup2, 72, 0, 0, 0, 0, []) := rfl
theorem tX7_node_72 : tbX7_node 72 = (.iaload, 73, 0, 0, 0, 0, []) := rfl
theorem tX7_node_73 : tbX7_node 73 = (.iconst 1, 74, 0, 0, 0, 1, []) := rfl
theorem tX7_node_74 : tbX7_node 74 = (.iadd, 75, 0, 0, 0, 0, []) := rfl
theorem tX7_node_75 : tbX7_node 75 = (.iastore, 76, 0, 0, 0, 0, []) := rfl
theorem tX7_node_76 : tbX7_node 76 = (.aload_n 0, 77, 0, 0, 0, 0, []) := rfl
theorem tX7_node_77 : tbX7_node 77 = (.iload_n 1, 78, 0, 0, 0, 0, []) := rfl
theorem tX7_node_78 : tbX7_node 78 = (.bipush 100, 80, 0, 0, 0, 100, []) := rfl
theorem tX7_node_80 : tbX7_node 80 = (.iload_n 3, 81, 0, 0, 0, 0, []) := rfl
theorem tX7_node_81 : tbX7_node 81 = (.iadd, 82, 0, 0, 0, 0, []) := rfl
theorem tX7_node_82 : tbX7_node 82 = (.invokevirtual 53, 85, 103, 2, 7, 0, []) := rfl
theorem tX7_node_85 : tbX7_node 85 = (.iload_n 3, 86, 0, 0, 0, 0, []) := rfl
theorem tX7_node_86 : tbX7_node 86 = (.ireturn, 87, 0, 0, 0, 0, []) := rfl
def ltX7_line : List (Nat × pm_E) := [(0, .aload_n 0, 1, 0, 0, 0, 0, []), (1, .iload_n 1, 2, 0, 0, 0, 0, []), (2, .invokevirtual 43, 5, 100, 1, 7, 0, []), (5, .ifCond .eq 20, 8, 25, 0, 0, 0, []), (8, .iload_n 2, 9, 0, 0, 0, 0, []), (9, .iconst 0, 10, 0, 0, 0, 0, []), (10, .bipush 7, 12, 0, 0, 0, 7, []), (12, .invokestatic 35, 15, 94, 3, 0, 0, []), (15, .ifCond .eq 10, 18, 25, 0, 0, 0, []), (18, .iload_n 3, 19, 0, 0, 0, 0, []), (19, .invokestatic 47, 22, 102, 1, 0, 0, []), (22, .ifCond .ne 5, 25, 27, 0, 0, 0, []), (25, .iconst (-1), 26, 0, 0, 0, -1, []), (26, .ireturn, 27, 0, 0, 0, 0, []), (27, .aload_n 0, 28, 0, 0, 0, 0, []), (28, .getfield 7, 31, 7, 0, 0, 0, [(0, 0)]), (31, .iconst 4, 32, 0, 0, 0, 4, []), (32, .iaload, 33, 0, 0, 0, 0, []), (33, .bipush 16, 35, 0, 0, 0, 16, []), (35, .if_icmp .ne 6, 38, 41, 0, 0, 0, []), (38, .bipush (-3), 40, 0, 0, 0, -3, []), (40, .ireturn, 41, 0, 0, 0, 0, []), (41, .aload_n 0, 42, 0, 0, 0, 0, []), (42, .invokevirtual 50, 45, 95, 0, 7, 0, []), (45, .aload_n 0, 46, 0, 0, 0, 0, []), (46, .getfield 7, 49, 7, 0, 0, 0, [(0, 0)]), (49, .iconst 4, 50, 0, 0, 0, 4, []), (50, .iaload, 51, 0, 0, 0, 0, []), (51, .istore 4, 53, 0, 0, 0, 0, []), (53, .aload_n 0, 54, 0, 0, 0, 0, []), (54, .getfield 7, 57, 7, 0, 0, 0, [(0, 0)]), (57, .iload 4, 59, 0, 0, 0, 0, []), (59, .invokestatic 57, 62, 99, 1, 0, 0, []), (62, .iconst 0, 63, 0, 0, 0, 0, []), (63, .iadd, 64, 0, 0, 0, 0, []), (64, .iload_n 1, 65, 0, 0, 0, 0, []), (65, .iastore, 66, 0, 0, 0, 0, []), (66, .aload_n 0, 67, 0, 0, 0, 0, []), (67, .getfield 7, 70, 7, 0, 0, 0, [(0, 0)]), (70, .iload 4, 72, 0, 0, 0, 0, []), (72, .invokestatic 57, 75, 99, 1, 0, 0, []), (75, .iconst 1, 76, 0, 0, 0, 1, []), (76, .iadd, 77, 0, 0, 0, 0, []), (77, .iload_n 2, 78, 0, 0, 0, 0, []), (78, .iastore, 79, 0, 0, 0, 0, []), (79, .aload_n 0, 80, 0, 0, 0, 0, []), (80, .getfield 7, 83, 7, 0, 0, 0, [(0, 0)]), (83, .iload 4, 85, 0, 0, 0, 0, []), (85, .invokestatic 57, 88, 99, 1, 0, 0, []), (88, .iconst 2, 89, 0, 0, 0, 2, []), (89, .iadd, 90, 0, 0, 0, 0, []), (90, .iload_n 3, 91, 0, 0, 0, 0, []), (91, .iastore, 92, 0, 0, 0, 0, []), (92, .aload_n 0, 93, 0, 0, 0, 0, []), (93, .getfield 7, 96, 7, 0, 0, 0, [(0, 0)]), (96, .iconst 4, 97, 0, 0, 0, 4, []), (97, .dup2, 98, 0, 0, 0, 0, []), (98, .iaload, 99, 0, 0, 0, 0, []), (99, .iconst 1, 100, 0, 0, 0, 1, []), (100, .iadd, 101, 0, 0, 0, 0, []), (101, .iastore, 102, 0, 0, 0, 0, []), (102, .aload_n 0, 103, 0, 0, 0, 0, []), (103, .iload_n 1, 104, 0, 0, 0, 0, []), (104, .iload 4, 106, 0, 0, 0, 0, []), (106, .invokevirtual 53, 109, 103, 2, 7, 0, []), (109, .iload 4, 111, 0, 0, 0, 0, []), (111, .ireturn, 112, 0, 0, 0, 0, [])]
def tbX7_line : Nat → pm_E := pm_lk ltX7_line
theorem okX7_line : ∀ pc, (tbX7_line pc).1 = .nop ∨ pm_ok mX7_line pw_Ms pc (tbX7_line pc) := pm_lk_ok (by decide +kernel)
theorem nr_X7_line : mX7_line.2.2.2 = (some .int) := rfl
theorem tX7_line_0 : tbX7_line 0 = (.aload_n 0, 1, 0, 0, 0, 0, []) := rfl
theorem tX7_line_1 : tbX7_line 1 = (.iload_n 1, 2, 0, 0, 0, 0, []) := rfl
theorem tX7_line_2 : tbX7_line 2 = (.invokevirtual 43, 5, 100, 1, 7, 0, []) := rfl
theorem tX7_line_5 : tbX7_line 5 = (.ifCond .eq 20, 8, 25, 0, 0, 0, []) := rfl
theorem tX7_line_8 : tbX7_line 8 = (.iload_n 2, 9, 0, 0, 0, 0, []) := rfl
theorem tX7_line_9 : tbX7_line 9 = (.iconst 0, 10, 0, 0, 0, 0, []) := rfl
theorem tX7_line_10 : tbX7_line 10 = (.bipush 7, 12, 0, 0, 0, 7, []) := rfl
theorem tX7_line_12 : tbX7_line 12 = (.invokestatic 35, 15, 94, 3, 0, 0, []) := rfl
theorem tX7_line_15 : tbX7_line 15 = (.ifCond .eq 10, 18, 25, 0, 0, 0, []) := rfl
theorem tX7_line_18 : tbX7_line 18 = (.iload_n 3, 19, 0, 0, 0, 0, []) := rfl
theorem tX7_line_19 : tbX7_line 19 = (.invokestatic 47, 22, 102, 1, 0, 0, []) := rfl
theorem tX7_line_22 : tbX7_line 22 = (.ifCond .ne 5, 25, 27, 0, 0, 0, []) := rfl
theorem tX7_line_25 : tbX7_line 25 = (.iconst (-1), 26, 0, 0, 0, -1, []) := rfl
theorem tX7_line_26 : tbX7_line 26 = (.ireturn, 27, 0, 0, 0, 0, []) := rfl
theorem tX7_line_27 : tbX7_line 27 = (.aload_n 0, 28, 0, 0, 0, 0, []) := rfl
theorem tX7_line_28 : tbX7_line 28 = (.getfield 7, 31, 7, 0, 0, 0, [(0, 0)]) := rfl
theorem tX7_line_31 : tbX7_line 31 = (.iconst 4, 32, 0, 0, 0, 4, []) := rfl
theorem tX7_line_32 : tbX7_line 32 = (.iaload, 33, 0, 0, 0, 0, []) := rfl
theorem tX7_line_33 : tbX7_line 33 = (.bipush 16, 35, 0, 0, 0, 16, []) := rfl
theorem tX7_line_35 : tbX7_line 35 = (.if_icmp .ne 6, 38, 41, 0, 0, 0, []) := rfl
theorem tX7_line_38 : tbX7_line 38 = (.bipush (-3), 40, 0, 0, 0, -3, []) := rfl
theorem tX7_line_40 : tbX7_line 40 = (.ireturn, 41, 0, 0, 0, 0, []) := rfl
theorem tX7_line_41 : tbX7_line 41 = (.aload_n 0, 42, 0, 0, 0, 0, []) := rfl
theorem tX7_line_42 : tbX7_line 42 = (.invokevirtual 50, 45, 95, 0, 7, 0, []) := rfl
theorem tX7_line_45 : tbX7_line 45 = (.aload_n 0, 46, 0, 0, 0, 0, []) := rfl
theorem tX7_line_46 : tbX7_line 46 = (.getfield 7, 49, 7, 0, 0, 0, [(0, 0)]) := rfl
theorem tX7_line_49 : tbX7_line 49 = (.iconst 4, 50, 0, 0, 0, 4, []) := rfl
theorem tX7_line_50 : tbX7_line 50 = (.iaload, 51, 0, 0, 0, 0, []) := rfl
theorem tX7_line_51 : tbX7_line 51 = (.istore 4, 53, 0, 0, 0, 0, []) := rfl
theorem tX7_line_53 : tbX7_line 53 = (.aload_n 0, 54, 0, 0, 0, 0, []) := rfl
theorem tX7_line_54 : tbX7_line 54 = (.getfield 7, 57, 7, 0, 0, 0, [(0, 0)]) := rfl
theorem tX7_line_57 : tbX7_line 57 = (.iload 4, 59, 0, 0, 0, 0, []) := rfl
theorem tX7_line_59 : tbX7_line 59 = (.invokestatic 57, 62, 99, 1, 0, 0, []) := rfl
theorem tX7_line_62 : tbX7_line 62 = (.iconst 0, 63, 0, 0, 0, 0, []) := rfl
theorem tX7_line_63 : tbX7_line 63 = (.iadd, 64, 0, 0, 0, 0, []) := rfl
theorem tX7_line_64 : tbX7_line 64 = (.iload_n 1, 65, 0, 0, 0, 0, []) := rfl
theorem tX7_line_65 : tbX7_line 65 = (.iastore, 66, 0, 0, 0, 0, []) := rfl
theorem tX7_line_66 : tbX7_line 66 = (.aload_n 0, 67, 0, 0, 0, 0, []) := rfl
theorem tX7_line_67 : tbX7_line 67 = (.getfield 7, 70, 7, 0, 0, 0, [(0, 0)]) := rfl
theorem tX7_line_70 : tbX7_line 70 = (.iload 4, 72, 0, 0, 0, 0, []) := rfl
theorem tX7_line_72 : tbX7_line 72 = (.invokestatic 57, 75, 99, 1, 0, 0, []) := rfl
theorem tX7_line_75 : tbX7_line 75 = (.iconst 1, 76, 0, 0, 0, 1, []) := rfl
theorem tX7_line_76 : tbX7_line 76 = (.iadd, 77, 0, 0, 0, 0, []) := rfl
theorem tX7_line_77 : tbX7_line 77 = (.iload_n 2, 78, 0, 0, 0, 0, []) := rfl
theorem tX7_line_78 : tbX7_line 78 = (.iastore, 79, 0, 0, 0, 0, []) := rfl
theorem tX7_line_79 : tbX7_line 79 = (.aload_n 0, 80, 0, 0, 0, 0, []) := rfl
theorem tX7_line_80 : tbX7_line 80 = (.getfield 7, 83, 7, 0, 0, 0, [(0, 0)]) := rfl
theorem tX7_line_83 : tbX7_line 83 = (.iload 4, 85, 0, 0, 0, 0, []) := rfl
theorem tX7_line_85 : tbX7_line 85 = (.invokestatic 57, 88, 99, 1, 0, 0, []) := rfl
theorem tX7_line_88 : tbX7_line 88 = (.iconst 2, 89, 0, 0, 0, 2, []) := rfl
theorem tX7_line_89 : tbX7_line 89 = (.iadd, 90, 0, 0, 0, 0, []) := rfl
theorem tX7_line_90 : tbX7_line 90 = (.iload_n 3, 91, 0, 0, 0, 0, []) := rfl
theorem tX7_line_91 : tbX7_line 91 = (.iastore, 92, 0, 0, 0, 0, []) := rfl
theorem tX7_line_92 : tbX7_line 92 = (.aload_n 0, 93, 0, 0, 0, 0, []) := rfl
theorem tX7_line_93 : tbX7_line 93 = (.getfield 7, 96, 7, 0, 0, 0, [(0, 0)]) := rfl
theorem tX7_line_96 : tbX7_line 96 = (.iconst 4, 97, 0, 0, 0, 4, []) := rfl
theorem tX7_line_97 : tbX7_line 97 = (.dup2, 98, 0, 0, 0, 0, []) := rfl
theorem tX7_line_98 : tbX7_line 98 = (.iaload, 99, 0, 0, 0, 0, []) := rfl
theorem tX7_line_99 : tbX7_line 99 = (.iconst 1, 100, 0, 0, 0, 1, []) := rfl
theorem tX7_line_100 : tbX7_line 100 = (.iadd, 101, 0, 0, 0, 0, []) := rfl
theorem tX7_line_101 : tbX7_line 101 = (.iastore, 102, 0, 0, 0, 0, []) := rfl
theorem tX7_line_102 : tbX7_line 102 = (.aload_n 0, 103, 0, 0, 0, 0, []) := rfl
theorem tX7_line_103 : tbX7_line 103 = (.iload_n 1, 104, 0, 0, 0, 0, []) := rfl
theorem tX7_line_104 : tbX7_line 104 = (.iload 4, 106, 0, 0, 0, 0, []) := rfl
theorem tX7_line_106 : tbX7_line 106 = (.invokevirtual 53, 109, 103, 2, 7, 0, []) := rfl
theorem tX7_line_109 : tbX7_line 109 = (.iload 4, 111, 0, 0, 0, 0, []) := rfl
theorem tX7_line_111 : tbX7_line 111 = (.ireturn, 112, 0, 0, 0, 0, []) := rfl
def ltX7_isOnWay : List (Nat × pm_E) := [(0, .aload_n 0, 1, 0, 0, 0, 0, []), (1, .getfield 7, 4, 7, 0, 0, 0, [(0, 0)]), (4, .iload_n 2, 5, 0, 0, 0, 0, []), (5, .invokestatic 57, 8, 99, 1, 0, 0, []), (8, .iconst 0, 9, 0, 0, 0, 0, []), (9, .iadd, 10, 0, 0, 0, 0, []), (10, .iaload, 11, 0, 0, 0, 0, []), (11, .istore_n 3, 12, 0, 0, 0, 0, []), (12, .iload_n 3, 13, 0, 0, 0, 0, []), (13, .ifCond .lt 23, 16, 36, 0, 0, 0, []), (16, .iload_n 3, 17, 0, 0, 0, 0, []), (17, .iload_n 1, 18, 0, 0, 0, 0, []), (18, .if_icmp .eq 18, 21, 36, 0, 0, 0, []), (21, .aload_n 0, 22, 0, 0, 0, 0, []), (22, .getfield 7, 25, 7, 0, 0, 0, [(0, 0)]), (25, .iload_n 3, 26, 0, 0, 0, 0, []), (26, .invokestatic 39, 29, 98, 1, 0, 0, []), (29, .iconst 0, 30, 0, 0, 0, 0, []), (30, .iadd, 31, 0, 0, 0, 0, []), (31, .iaload, 32, 0, 0, 0, 0, []), (32, .istore_n 3, 33, 0, 0, 0, 0, []), (33, .goto (-21), 36, 12, 0, 0, 0, []), (36, .iload_n 3, 37, 0, 0, 0, 0, []), (37, .iload_n 1, 38, 0, 0, 0, 0, []), (38, .if_icmp .ne 7, 41, 45, 0, 0, 0, []), (41, .iconst 1, 42, 0, 0, 0, 1, []), (42, .goto 4, 45, 46, 0, 0, 0, []), (45, .iconst 0, 46, 0, 0, 0, 0, []), (46, .ireturn, 47, 0, 0, 0, 0, [])]
def tbX7_isOnWay : Nat → pm_E := pm_lk ltX7_isOnWay
theorem okX7_isOnWay : ∀ pc, (tbX7_isOnWay pc).1 = .nop ∨ pm_ok mX7_isOnWay pw_Ms pc (tbX7_isOnWay pc) := pm_lk_ok (by decide +kernel)
theorem nr_X7_isOnWay : mX7_isOnWay.2.2.2 = (some .boolean) := rfl
theorem tX7_isOnWay_0 : tbX7_isOnWay 0 = (.aload_n 0, 1, 0, 0, 0, 0, []) := rfl
theorem tX7_isOnWay_1 : tbX7_isOnWay 1 = (.getfield 7, 4, 7, 0, 0, 0, [(0, 0)]) := rfl
theorem tX7_isOnWay_4 : tbX7_isOnWay 4 = (.iload_n 2, 5, 0, 0, 0, 0, []) := rfl
theorem tX7_isOnWay_5 : tbX7_isOnWay 5 = (.invokestatic 57, 8, 99, 1, 0, 0, []) := rfl
theorem tX7_isOnWay_8 : tbX7_isOnWay 8 = (.iconst 0, 9, 0, 0, 0, 0, []) := rfl
theorem tX7_isOnWay_9 : tbX7_isOnWay 9 = (.iadd, 10, 0, 0, 0, 0, []) := rfl
theorem tX7_isOnWay_10 : tbX7_isOnWay 10 = (.iaload, 11, 0, 0, 0, 0, []) := rfl
theorem tX7_isOnWay_11 : tbX7_isOnWay 11 = (.istore_n 3, 12, 0, 0, 0, 0, []) := rfl
theorem tX7_isOnWay_12 : tbX7_isOnWay 12 = (.iload_n 3, 13, 0, 0, 0, 0, []) := rfl
theorem tX7_isOnWay_13 : tbX7_isOnWay 13 = (.ifCond .lt 23, 16, 36, 0, 0, 0, []) := rfl
theorem tX7_isOnWay_16 : tbX7_isOnWay 16 = (.iload_n 3, 17, 0, 0, 0, 0, []) := rfl
theorem tX7_isOnWay_17 : tbX7_isOnWay 17 = (.iload_n 1, 18, 0, 0, 0, 0, []) := rfl
theorem tX7_isOnWay_18 : tbX7_isOnWay 18 = (.if_icmp .eq 18, 21, 36, 0, 0, 0, []) := rfl
theorem tX7_isOnWay_21 : tbX7_isOnWay 21 = (.aload_n 0, 22, 0, 0, 0, 0, []) := rfl
theorem tX7_isOnWay_22 : tbX7_isOnWay 22 = (.getfield 7, 25, 7, 0, 0, 0, [(0, 0)]) := rfl
theorem tX7_isOnWay_25 : tbX7_isOnWay 25 = (.iload_n 3, 26, 0, 0, 0, 0, []) := rfl
theorem tX7_isOnWay_26 : tbX7_isOnWay 26 = (.invokestatic 39, 29, 98, 1, 0, 0, []) := rfl
theorem tX7_isOnWay_29 : tbX7_isOnWay 29 = (.iconst 0, 30, 0, 0, 0, 0, []) := rfl
theorem tX7_isOnWay_30 : tbX7_isOnWay 30 = (.iadd, 31, 0, 0, 0, 0, []) := rfl
theorem tX7_isOnWay_31 : tbX7_isOnWay 31 = (.iaload, 32, 0, 0, 0, 0, []) := rfl
theorem tX7_isOnWay_32 : tbX7_isOnWay 32 = (.istore_n 3, 33, 0, 0, 0, 0, []) := rfl
theorem tX7_isOnWay_33 : tbX7_isOnWay 33 = (.goto (-21), 36, 12, 0, 0, 0, []) := rfl
theorem tX7_isOnWay_36 : tbX7_isOnWay 36 = (.iload_n 3, 37, 0, 0, 0, 0, []) := rfl
theorem tX7_isOnWay_37 : tbX7_isOnWay 37 = (.iload_n 1, 38, 0, 0, 0, 0, []) := rfl
theorem tX7_isOnWay_38 : tbX7_isOnWay 38 = (.if_icmp .ne 7, 41, 45, 0, 0, 0, []) := rfl
theorem tX7_isOnWay_41 : tbX7_isOnWay 41 = (.iconst 1, 42, 0, 0, 0, 1, []) := rfl
theorem tX7_isOnWay_42 : tbX7_isOnWay 42 = (.goto 4, 45, 46, 0, 0, 0, []) := rfl
theorem tX7_isOnWay_45 : tbX7_isOnWay 45 = (.iconst 0, 46, 0, 0, 0, 0, []) := rfl
theorem tX7_isOnWay_46 : tbX7_isOnWay 46 = (.ireturn, 47, 0, 0, 0, 0, []) := rfl
def ltX7_linesBy : List (Nat × pm_E) := [(0, .iconst 0, 1, 0, 0, 0, 0, []), (1, .istore_n 2, 2, 0, 0, 0, 0, []), (2, .iconst 0, 3, 0, 0, 0, 0, []), (3, .istore_n 3, 4, 0, 0, 0, 0, []), (4, .iload_n 3, 5, 0, 0, 0, 0, []), (5, .aload_n 0, 6, 0, 0, 0, 0, []), (6, .getfield 7, 9, 7, 0, 0, 0, [(0, 0)]), (9, .iconst 4, 10, 0, 0, 0, 4, []), (10, .iaload, 11, 0, 0, 0, 0, []), (11, .if_icmp .ge 28, 14, 39, 0, 0, 0, []), (14, .iload_n 2, 15, 0, 0, 0, 0, []), (15, .aload_n 0, 16, 0, 0, 0, 0, []), (16, .iload_n 1, 17, 0, 0, 0, 0, []), (17, .iload_n 3, 18, 0, 0, 0, 0, []), (18, .invokevirtual 60, 21, 106, 2, 7, 0, []), (21, .ifCond .eq 9, 24, 30, 0, 0, 0, []), (24, .iconst 1, 25, 0, 0, 0, 1, []), (25, .iload_n 3, 26, 0, 0, 0, 0, []), (26, .ishl, 27, 0, 0, 0, 0, []), (27, .goto 4, 30, 31, 0, 0, 0, []), (30, .iconst 0, 31, 0, 0, 0, 0, []), (31, .ior, 32, 0, 0, 0, 0, []), (32, .istore_n 2, 33, 0, 0, 0, 0, []), (33, .iinc 3 1, 36, 0, 0, 0, 1, []), (36, .goto (-32), 39, 4, 0, 0, 0, []), (39, .iload_n 2, 40, 0, 0, 0, 0, []), (40, .ireturn, 41, 0, 0, 0, 0, [])]
def tbX7_linesBy : Nat → pm_E := pm_lk ltX7_linesBy
theorem okX7_linesBy : ∀ pc, (tbX7_linesBy pc).1 = .nop ∨ pm_ok mX7_linesBy pw_Ms pc (tbX7_linesBy pc) := pm_lk_ok (by decide +kernel)
theorem nr_X7_linesBy : mX7_linesBy.2.2.2 = (some .int) := rfl
theorem tX7_linesBy_0 : tbX7_linesBy 0 = (.iconst 0, 1, 0, 0, 0, 0, []) := rfl
theorem tX7_linesBy_1 : tbX7_linesBy 1 = (.istore_n 2, 2, 0, 0, 0, 0, []) := rfl
theorem tX7_linesBy_2 : tbX7_linesBy 2 = (.iconst 0, 3, 0, 0, 0, 0, []) := rfl
theorem tX7_linesBy_3 : tbX7_linesBy 3 = (.istore_n 3, 4, 0, 0, 0, 0, []) := rfl
theorem tX7_linesBy_4 : tbX7_linesBy 4 = (.iload_n 3, 5, 0, 0, 0, 0, []) := rfl
theorem tX7_linesBy_5 : tbX7_linesBy 5 = (.aload_n 0, 6, 0, 0, 0, 0, []) := rfl
theorem tX7_linesBy_6 : tbX7_linesBy 6 = (.getfield 7, 9, 7, 0, 0, 0, [(0, 0)]) := rfl
theorem tX7_linesBy_9 : tbX7_linesBy 9 = (.iconst 4, 10, 0, 0, 0, 4, []) := rfl
theorem tX7_linesBy_10 : tbX7_linesBy 10 = (.iaload, 11, 0, 0, 0, 0, []) := rfl
theorem tX7_linesBy_11 : tbX7_linesBy 11 = (.if_icmp .ge 28, 14, 39, 0, 0, 0, []) := rfl
theorem tX7_linesBy_14 : tbX7_linesBy 14 = (.iload_n 2, 15, 0, 0, 0, 0, []) := rfl
theorem tX7_linesBy_15 : tbX7_linesBy 15 = (.aload_n 0, 16, 0, 0, 0, 0, []) := rfl
theorem tX7_linesBy_16 : tbX7_linesBy 16 = (.iload_n 1, 17, 0, 0, 0, 0, []) := rfl
theorem tX7_linesBy_17 : tbX7_linesBy 17 = (.iload_n 3, 18, 0, 0, 0, 0, []) := rfl
theorem tX7_linesBy_18 : tbX7_linesBy 18 = (.invokevirtual 60, 21, 106, 2, 7, 0, []) := rfl
theorem tX7_linesBy_21 : tbX7_linesBy 21 = (.ifCond .eq 9, 24, 30, 0, 0, 0, []) := rfl
theorem tX7_linesBy_24 : tbX7_linesBy 24 = (.iconst 1, 25, 0, 0, 0, 1, []) := rfl
theorem tX7_linesBy_25 : tbX7_linesBy 25 = (.iload_n 3, 26, 0, 0, 0, 0, []) := rfl
theorem tX7_linesBy_26 : tbX7_linesBy 26 = (.ishl, 27, 0, 0, 0, 0, []) := rfl
theorem tX7_linesBy_27 : tbX7_linesBy 27 = (.goto 4, 30, 31, 0, 0, 0, []) := rfl
theorem tX7_linesBy_30 : tbX7_linesBy 30 = (.iconst 0, 31, 0, 0, 0, 0, []) := rfl
theorem tX7_linesBy_31 : tbX7_linesBy 31 = (.ior, 32, 0, 0, 0, 0, []) := rfl
theorem tX7_linesBy_32 : tbX7_linesBy 32 = (.istore_n 2, 33, 0, 0, 0, 0, []) := rfl
theorem tX7_linesBy_33 : tbX7_linesBy 33 = (.iinc 3 1, 36, 0, 0, 0, 1, []) := rfl
theorem tX7_linesBy_36 : tbX7_linesBy 36 = (.goto (-32), 39, 4, 0, 0, 0, []) := rfl
theorem tX7_linesBy_39 : tbX7_linesBy 39 = (.iload_n 2, 40, 0, 0, 0, 0, []) := rfl
theorem tX7_linesBy_40 : tbX7_linesBy 40 = (.ireturn, 41, 0, 0, 0, 0, []) := rfl
def ltX7_bits : List (Nat × pm_E) := [(0, .iconst 0, 1, 0, 0, 0, 0, []), (1, .istore_n 1, 2, 0, 0, 0, 0, []), (2, .iconst 0, 3, 0, 0, 0, 0, []), (3, .istore_n 2, 4, 0, 0, 0, 0, []), (4, .iload_n 2, 5, 0, 0, 0, 0, []), (5, .bipush 16, 7, 0, 0, 0, 16, []), (7, .if_icmp .ge 17, 10, 24, 0, 0, 0, []), (10, .iload_n 1, 11, 0, 0, 0, 0, []), (11, .iload_n 0, 12, 0, 0, 0, 0, []), (12, .iload_n 2, 13, 0, 0, 0, 0, []), (13, .ishr, 14, 0, 0, 0, 0, []), (14, .iconst 1, 15, 0, 0, 0, 1, []), (15, .iand, 16, 0, 0, 0, 0, []), (16, .iadd, 17, 0, 0, 0, 0, []), (17, .istore_n 1, 18, 0, 0, 0, 0, []), (18, .iinc 2 1, 21, 0, 0, 0, 1, []), (21, .goto (-17), 24, 4, 0, 0, 0, []), (24, .iload_n 1, 25, 0, 0, 0, 0, []), (25, .ireturn, 26, 0, 0, 0, 0, [])]
def tbX7_bits : Nat → pm_E := pm_lk ltX7_bits
theorem okX7_bits : ∀ pc, (tbX7_bits pc).1 = .nop ∨ pm_ok mX7_bits pw_Ms pc (tbX7_bits pc) := pm_lk_ok (by decide +kernel)
theorem nr_X7_bits : mX7_bits.2.2.2 = (some .int) := rfl
theorem tX7_bits_0 : tbX7_bits 0 = (.iconst 0, 1, 0, 0, 0, 0, []) := rfl
theorem tX7_bits_1 : tbX7_bits 1 = (.istore_n 1, 2, 0, 0, 0, 0, []) := rfl
theorem tX7_bits_2 : tbX7_bits 2 = (.iconst 0, 3, 0, 0, 0, 0, []) := rfl
theorem tX7_bits_3 : tbX7_bits 3 = (.istore_n 2, 4, 0, 0, 0, 0, []) := rfl
theorem tX7_bits_4 : tbX7_bits 4 = (.iload_n 2, 5, 0, 0, 0, 0, []) := rfl
theorem tX7_bits_5 : tbX7_bits 5 = (.bipush 16, 7, 0, 0, 0, 16, []) := rfl
theorem tX7_bits_7 : tbX7_bits 7 = (.if_icmp .ge 17, 10, 24, 0, 0, 0, []) := rfl
theorem tX7_bits_10 : tbX7_bits 10 = (.iload_n 1, 11, 0, 0, 0, 0, []) := rfl
theorem tX7_bits_11 : tbX7_bits 11 = (.iload_n 0, 12, 0, 0, 0, 0, []) := rfl
theorem tX7_bits_12 : tbX7_bits 12 = (.iload_n 2, 13, 0, 0, 0, 0, []) := rfl
theorem tX7_bits_13 : tbX7_bits 13 = (.ishr, 14, 0, 0, 0, 0, []) := rfl
theorem tX7_bits_14 : tbX7_bits 14 = (.iconst 1, 15, 0, 0, 0, 1, []) := rfl
theorem tX7_bits_15 : tbX7_bits 15 = (.iand, 16, 0, 0, 0, 0, []) := rfl
theorem tX7_bits_16 : tbX7_bits 16 = (.iadd, 17, 0, 0, 0, 0, []) := rfl
theorem tX7_bits_17 : tbX7_bits 17 = (.istore_n 1, 18, 0, 0, 0, 0, []) := rfl
theorem tX7_bits_18 : tbX7_bits 18 = (.iinc 2 1, 21, 0, 0, 0, 1, []) := rfl
theorem tX7_bits_21 : tbX7_bits 21 = (.goto (-17), 24, 4, 0, 0, 0, []) := rfl
theorem tX7_bits_24 : tbX7_bits 24 = (.iload_n 1, 25, 0, 0, 0, 0, []) := rfl
theorem tX7_bits_25 : tbX7_bits 25 = (.ireturn, 26, 0, 0, 0, 0, []) := rfl
def ltX7_mask : List (Nat × pm_E) := [(0, .aload_n 0, 1, 0, 0, 0, 0, []), (1, .iload_n 1, 2, 0, 0, 0, 0, []), (2, .invokevirtual 64, 5, 101, 1, 7, 0, []), (5, .ifCond .eq 10, 8, 15, 0, 0, 0, []), (8, .iload_n 2, 9, 0, 0, 0, 0, []), (9, .invokestatic 47, 12, 102, 1, 0, 0, []), (12, .ifCond .ne 5, 15, 17, 0, 0, 0, []), (15, .iconst (-1), 16, 0, 0, 0, -1, []), (16, .ireturn, 17, 0, 0, 0, 0, []), (17, .aload_n 0, 18, 0, 0, 0, 0, []), (18, .getfield 7, 21, 7, 0, 0, 0, [(0, 0)]), (21, .iload_n 1, 22, 0, 0, 0, 0, []), (22, .invokestatic 57, 25, 99, 1, 0, 0, []), (25, .iconst 5, 26, 0, 0, 0, 5, []), (26, .iadd, 27, 0, 0, 0, 0, []), (27, .iaload, 28, 0, 0, 0, 0, []), (28, .iload_n 2, 29, 0, 0, 0, 0, []), (29, .if_icmp .ne 6, 32, 35, 0, 0, 0, []), (32, .bipush (-2), 34, 0, 0, 0, -2, []), (34, .ireturn, 35, 0, 0, 0, 0, []), (35, .aload_n 0, 36, 0, 0, 0, 0, []), (36, .invokevirtual 50, 39, 95, 0, 7, 0, []), (39, .aload_n 0, 40, 0, 0, 0, 0, []), (40, .getfield 7, 43, 7, 0, 0, 0, [(0, 0)]), (43, .iload_n 1, 44, 0, 0, 0, 0, []), (44, .invokestatic 57, 47, 99, 1, 0, 0, []), (47, .iconst 5, 48, 0, 0, 0, 5, []), (48, .iadd, 49, 0, 0, 0, 0, []), (49, .iload_n 2, 50, 0, 0, 0, 0, []), (50, .iastore, 51, 0, 0, 0, 0, []), (51, .aload_n 0, 52, 0, 0, 0, 0, []), (52, .iconst 4, 53, 0, 0, 0, 4, []), (53, .invokevirtual 67, 56, 139, 1, 7, 0, []), (56, .invokestatic 70, 59, 108, 1, 0, 0, []), (59, .ireturn, 60, 0, 0, 0, 0, [])]
def tbX7_mask : Nat → pm_E := pm_lk ltX7_mask
theorem okX7_mask : ∀ pc, (tbX7_mask pc).1 = .nop ∨ pm_ok mX7_mask pw_Ms pc (tbX7_mask pc) := pm_lk_ok (by decide +kernel)
theorem nr_X7_mask : mX7_mask.2.2.2 = (some .int) := rfl
theorem tX7_mask_0 : tbX7_mask 0 = (.aload_n 0, 1, 0, 0, 0, 0, []) := rfl
theorem tX7_mask_1 : tbX7_mask 1 = (.iload_n 1, 2, 0, 0, 0, 0, []) := rfl
theorem tX7_mask_2 : tbX7_mask 2 = (.invokevirtual 64, 5, 101, 1, 7, 0, []) := rfl
theorem tX7_mask_5 : tbX7_mask 5 = (.ifCond .eq 10, 8, 15, 0, 0, 0, []) := rfl
theorem tX7_mask_8 : tbX7_mask 8 = (.iload_n 2, 9, 0, 0, 0, 0, []) := rfl
theorem tX7_mask_9 : tbX7_mask 9 = (.invokestatic 47, 12, 102, 1, 0, 0, []) := rfl
theorem tX7_mask_12 : tbX7_mask 12 = (.ifCond .ne 5, 15, 17, 0, 0, 0, []) := rfl
theorem tX7_mask_15 : tbX7_mask 15 = (.iconst (-1), 16, 0, 0, 0, -1, []) := rfl
theorem tX7_mask_16 : tbX7_mask 16 = (.ireturn, 17, 0, 0, 0, 0, []) := rfl
theorem tX7_mask_17 : tbX7_mask 17 = (.aload_n 0, 18, 0, 0, 0, 0, []) := rfl
theorem tX7_mask_18 : tbX7_mask 18 = (.getfield 7, 21, 7, 0, 0, 0, [(0, 0)]) := rfl
theorem tX7_mask_21 : tbX7_mask 21 = (.iload_n 1, 22, 0, 0, 0, 0, []) := rfl
theorem tX7_mask_22 : tbX7_mask 22 = (.invokestatic 57, 25, 99, 1, 0, 0, []) := rfl
theorem tX7_mask_25 : tbX7_mask 25 = (.iconst 5, 26, 0, 0, 0, 5, []) := rfl
theorem tX7_mask_26 : tbX7_mask 26 = (.iadd, 27, 0, 0, 0, 0, []) := rfl
theorem tX7_mask_27 : tbX7_mask 27 = (.iaload, 28, 0, 0, 0, 0, []) := rfl
theorem tX7_mask_28 : tbX7_mask 28 = (.iload_n 2, 29, 0, 0, 0, 0, []) := rfl
theorem tX7_mask_29 : tbX7_mask 29 = (.if_icmp .ne 6, 32, 35, 0, 0, 0, []) := rfl
theorem tX7_mask_32 : tbX7_mask 32 = (.bipush (-2), 34, 0, 0, 0, -2, []) := rfl
theorem tX7_mask_34 : tbX7_mask 34 = (.ireturn, 35, 0, 0, 0, 0, []) := rfl
theorem tX7_mask_35 : tbX7_mask 35 = (.aload_n 0, 36, 0, 0, 0, 0, []) := rfl
theorem tX7_mask_36 : tbX7_mask 36 = (.invokevirtual 50, 39, 95, 0, 7, 0, []) := rfl
theorem tX7_mask_39 : tbX7_mask 39 = (.aload_n 0, 40, 0, 0, 0, 0, []) := rfl
theorem tX7_mask_40 : tbX7_mask 40 = (.getfield 7, 43, 7, 0, 0, 0, [(0, 0)]) := rfl
theorem tX7_mask_43 : tbX7_mask 43 = (.iload_n 1, 44, 0, 0, 0, 0, []) := rfl
theorem tX7_mask_44 : tbX7_mask 44 = (.invokestatic 57, 47, 99, 1, 0, 0, []) := rfl
theorem tX7_mask_47 : tbX7_mask 47 = (.iconst 5, 48, 0, 0, 0, 5, []) := rfl
theorem tX7_mask_48 : tbX7_mask 48 = (.iadd, 49, 0, 0, 0, 0, []) := rfl
theorem tX7_mask_49 : tbX7_mask 49 = (.iload_n 2, 50, 0, 0, 0, 0, []) := rfl
theorem tX7_mask_50 : tbX7_mask 50 = (.iastore, 51, 0, 0, 0, 0, []) := rfl
theorem tX7_mask_51 : tbX7_mask 51 = (.aload_n 0, 52, 0, 0, 0, 0, []) := rfl
theorem tX7_mask_52 : tbX7_mask 52 = (.iconst 4, 53, 0, 0, 0, 4, []) := rfl
theorem tX7_mask_53 : tbX7_mask 53 = (.invokevirtual 67, 56, 139, 1, 7, 0, []) := rfl
theorem tX7_mask_56 : tbX7_mask 56 = (.invokestatic 70, 59, 108, 1, 0, 0, []) := rfl
theorem tX7_mask_59 : tbX7_mask 59 = (.ireturn, 60, 0, 0, 0, 0, []) := rfl
def ltX7_maskNode : List (Nat × pm_E) := [(0, .aload_n 0, 1, 0, 0, 0, 0, []), (1, .iload_n 1, 2, 0, 0, 0, 0, []), (2, .invokevirtual 43, 5, 100, 1, 7, 0, []), (5, .ifCond .eq 10, 8, 15, 0, 0, 0, []), (8, .iload_n 2, 9, 0, 0, 0, 0, []), (9, .invokestatic 47, 12, 102, 1, 0, 0, []), (12, .ifCond .ne 5, 15, 17, 0, 0, 0, []), (15, .iconst (-1), 16, 0, 0, 0, -1, []), (16, .ireturn, 17, 0, 0, 0, 0, []), (17, .aload_n 0, 18, 0, 0, 0, 0, []), (18, .getfield 7, 21, 7, 0, 0, 0, [(0, 0)]), (21, .iload_n 1, 22, 0, 0, 0, 0, []), (22, .invokestatic 39, 25, 98, 1, 0, 0, []), (25, .iconst 2, 26, 0, 0, 0, 2, []), (26, .iadd, 27, 0, 0, 0, 0, []), (27, .iaload, 28, 0, 0, 0, 0, []), (28, .iload_n 2, 29, 0, 0, 0, 0, []), (29, .if_icmp .ne 6, 32, 35, 0, 0, 0, []), (32, .bipush (-2), 34, 0, 0, 0, -2, []), (34, .ireturn, 35, 0, 0, 0, 0, []), (35, .aload_n 0, 36, 0, 0, 0, 0, []), (36, .invokevirtual 50, 39, 95, 0, 7, 0, []), (39, .aload_n 0, 40, 0, 0, 0, 0, []), (40, .getfield 7, 43, 7, 0, 0, 0, [(0, 0)]), (43, .iload_n 1, 44, 0, 0, 0, 0, []), (44, .invokestatic 39, 47, 98, 1, 0, 0, []), (47, .iconst 2, 48, 0, 0, 0, 2, []), (48, .iadd, 49, 0, 0, 0, 0, []), (49, .iload_n 2, 50, 0, 0, 0, 0, []), (50, .iastore, 51, 0, 0, 0, 0, []), (51, .aload_n 0, 52, 0, 0, 0, 0, []), (52, .iload_n 1, 53, 0, 0, 0, 0, []), (53, .invokevirtual 73, 56, 107, 1, 7, 0, []), (56, .invokestatic 70, 59, 108, 1, 0, 0, []), (59, .ireturn, 60, 0, 0, 0, 0, [])]
def tbX7_maskNode : Nat → pm_E := pm_lk ltX7_maskNode
theorem okX7_maskNode : ∀ pc, (tbX7_maskNode pc).1 = .nop ∨ pm_ok mX7_maskNode pw_Ms pc (tbX7_maskNode pc) := pm_lk_ok (by decide +kernel)
theorem nr_X7_maskNode : mX7_maskNode.2.2.2 = (some .int) := rfl
theorem tX7_maskNode_0 : tbX7_maskNode 0 = (.aload_n 0, 1, 0, 0, 0, 0, []) := rfl
theorem tX7_maskNode_1 : tbX7_maskNode 1 = (.iload_n 1, 2, 0, 0, 0, 0, []) := rfl
theorem tX7_maskNode_2 : tbX7_maskNode 2 = (.invokevirtual 43, 5, 100, 1, 7, 0, []) := rfl
theorem tX7_maskNode_5 : tbX7_maskNode 5 = (.ifCond .eq 10, 8, 15, 0, 0, 0, []) := rfl
theorem tX7_maskNode_8 : tbX7_maskNode 8 = (.iload_n 2, 9, 0, 0, 0, 0, []) := rfl
theorem tX7_maskNode_9 : tbX7_maskNode 9 = (.invokestatic 47, 12, 102, 1, 0, 0, []) := rfl
theorem tX7_maskNode_12 : tbX7_maskNode 12 = (.ifCond .ne 5, 15, 17, 0, 0, 0, []) := rfl
theorem tX7_maskNode_15 : tbX7_maskNode 15 = (.iconst (-1), 16, 0, 0, 0, -1, []) := rfl
theorem tX7_maskNode_16 : tbX7_maskNode 16 = (.ireturn, 17, 0, 0, 0, 0, []) := rfl
theorem tX7_maskNode_17 : tbX7_maskNode 17 = (.aload_n 0, 18, 0, 0, 0, 0, []) := rfl
theorem tX7_maskNode_18 : tbX7_maskNode 18 = (.getfield 7, 21, 7, 0, 0, 0, [(0, 0)]) := rfl
theorem tX7_maskNode_21 : tbX7_maskNode 21 = (.iload_n 1, 22, 0, 0, 0, 0, []) := rfl
theorem tX7_maskNode_22 : tbX7_maskNode 22 = (.invokestatic 39, 25, 98, 1, 0, 0, []) := rfl
theorem tX7_maskNode_25 : tbX7_maskNode 25 = (.iconst 2, 26, 0, 0, 0, 2, []) := rfl
theorem tX7_maskNode_26 : tbX7_maskNode 26 = (.iadd, 27, 0, 0, 0, 0, []) := rfl
theorem tX7_maskNode_27 : tbX7_maskNode 27 = (.iaload, 28, 0, 0, 0, 0, []) := rfl
theorem tX7_maskNode_28 : tbX7_maskNode 28 = (.iload_n 2, 29, 0, 0, 0, 0, []) := rfl
theorem tX7_maskNode_29 : tbX7_maskNode 29 = (.if_icmp .ne 6, 32, 35, 0, 0, 0, []) := rfl
theorem tX7_maskNode_32 : tbX7_maskNode 32 = (.bipush (-2), 34, 0, 0, 0, -2, []) := rfl
theorem tX7_maskNode_34 : tbX7_maskNode 34 = (.ireturn, 35, 0, 0, 0, 0, []) := rfl
theorem tX7_maskNode_35 : tbX7_maskNode 35 = (.aload_n 0, 36, 0, 0, 0, 0, []) := rfl
theorem tX7_maskNode_36 : tbX7_maskNode 36 = (.invokevirtual 50, 39, 95, 0, 7, 0, []) := rfl
theorem tX7_maskNode_39 : tbX7_maskNode 39 = (.aload_n 0, 40, 0, 0, 0, 0, []) := rfl
theorem tX7_maskNode_40 : tbX7_maskNode 40 = (.getfield 7, 43, 7, 0, 0, 0, [(0, 0)]) := rfl
theorem tX7_maskNode_43 : tbX7_maskNode 43 = (.iload_n 1, 44, 0, 0, 0, 0, []) := rfl
theorem tX7_maskNode_44 : tbX7_maskNode 44 = (.invokestatic 39, 47, 98, 1, 0, 0, []) := rfl
theorem tX7_maskNode_47 : tbX7_maskNode 47 = (.iconst 2, 48, 0, 0, 0, 2, []) := rfl
theorem tX7_maskNode_48 : tbX7_maskNode 48 = (.iadd, 49, 0, 0, 0, 0, []) := rfl
theorem tX7_maskNode_49 : tbX7_maskNode 49 = (.iload_n 2, 50, 0, 0, 0, 0, []) := rfl
theorem tX7_maskNode_50 : tbX7_maskNode 50 = (.iastore, 51, 0, 0, 0, 0, []) := rfl
theorem tX7_maskNode_51 : tbX7_maskNode 51 = (.aload_n 0, 52, 0, 0, 0, 0, []) := rfl
theorem tX7_maskNode_52 : tbX7_maskNode 52 = (.iload_n 1, 53, 0, 0, 0, 0, []) := rfl
theorem tX7_maskNode_53 : tbX7_maskNode 53 = (.invokevirtual 73, 56, 107, 1, 7, 0, []) := rfl
theorem tX7_maskNode_56 : tbX7_maskNode 56 = (.invokestatic 70, 59, 108, 1, 0, 0, []) := rfl
theorem tX7_maskNode_59 : tbX7_maskNode 59 = (.ireturn, 60, 0, 0, 0, 0, []) := rfl
def ltX7_threshold : List (Nat × pm_E) := [(0, .iload_n 1, 1, 0, 0, 0, 0, []), (1, .iconst 0, 2, 0, 0, 0, 0, []), (2, .bipush 8, 4, 0, 0, 0, 8, []), (4, .invokestatic 35, 7, 94, 3, 0, 0, []), (7, .ifCond .ne 5, 10, 12, 0, 0, 0, []), (10, .iconst (-1), 11, 0, 0, 0, -1, []), (11, .ireturn, 12, 0, 0, 0, 0, []), (12, .aload_n 0, 13, 0, 0, 0, 0, []), (13, .invokevirtual 50, 16, 95, 0, 7, 0, []), (16, .aload_n 0, 17, 0, 0, 0, 0, []), (17, .getfield 7, 20, 7, 0, 0, 0, [(0, 0)]), (20, .iconst 1, 21, 0, 0, 0, 1, []), (21, .iaload, 22, 0, 0, 0, 0, []), (22, .istore_n 2, 23, 0, 0, 0, 0, []), (23, .aload_n 0, 24, 0, 0, 0, 0, []), (24, .getfield 7, 27, 7, 0, 0, 0, [(0, 0)]), (27, .iconst 1, 28, 0, 0, 0, 1, []), (28, .iload_n 1, 29, 0, 0, 0, 0, []), (29, .iastore, 30, 0, 0, 0, 0, []), (30, .iload_n 2, 31, 0, 0, 0, 0, []), (31, .ireturn, 32, 0, 0, 0, 0, [])]
def tbX7_threshold : Nat → pm_E := pm_lk ltX7_threshold
theorem okX7_threshold : ∀ pc, (tbX7_threshold pc).1 = .nop ∨ pm_ok mX7_threshold pw_Ms pc (tbX7_threshold pc) := pm_lk_ok (by decide +kernel)
theorem nr_X7_threshold : mX7_threshold.2.2.2 = (some .int) := rfl
theorem tX7_threshold_0 : tbX7_threshold 0 = (.iload_n 1, 1, 0, 0, 0, 0, []) := rfl
theorem tX7_threshold_1 : tbX7_threshold 1 = (.iconst 0, 2, 0, 0, 0, 0, []) := rfl
theorem tX7_threshold_2 : tbX7_threshold 2 = (.bipush 8, 4, 0, 0, 0, 8, []) := rfl
theorem tX7_threshold_4 : tbX7_threshold 4 = (.invokestatic 35, 7, 94, 3, 0, 0, []) := rfl
theorem tX7_threshold_7 : tbX7_threshold 7 = (.ifCond .ne 5, 10, 12, 0, 0, 0, []) := rfl
theorem tX7_threshold_10 : tbX7_threshold 10 = (.iconst (-1), 11, 0, 0, 0, -1, []) := rfl
theorem tX7_threshold_11 : tbX7_threshold 11 = (.ireturn, 12, 0, 0, 0, 0, []) := rfl
theorem tX7_threshold_12 : tbX7_threshold 12 = (.aload_n 0, 13, 0, 0, 0, 0, []) := rfl
theorem tX7_threshold_13 : tbX7_threshold 13 = (.invokevirtual 50, 16, 95, 0, 7, 0, []) := rfl
theorem tX7_threshold_16 : tbX7_threshold 16 = (.aload_n 0, 17, 0, 0, 0, 0, []) := rfl
theorem tX7_threshold_17 : tbX7_threshold 17 = (.getfield 7, 20, 7, 0, 0, 0, [(0, 0)]) := rfl
theorem tX7_threshold_20 : tbX7_threshold 20 = (.iconst 1, 21, 0, 0, 0, 1, []) := rfl
theorem tX7_threshold_21 : tbX7_threshold 21 = (.iaload, 22, 0, 0, 0, 0, []) := rfl
theorem tX7_threshold_22 : tbX7_threshold 22 = (.istore_n 2, 23, 0, 0, 0, 0, []) := rfl
theorem tX7_threshold_23 : tbX7_threshold 23 = (.aload_n 0, 24, 0, 0, 0, 0, []) := rfl
theorem tX7_threshold_24 : tbX7_threshold 24 = (.getfield 7, 27, 7, 0, 0, 0, [(0, 0)]) := rfl
theorem tX7_threshold_27 : tbX7_threshold 27 = (.iconst 1, 28, 0, 0, 0, 1, []) := rfl
theorem tX7_threshold_28 : tbX7_threshold 28 = (.iload_n 1, 29, 0, 0, 0, 0, []) := rfl
theorem tX7_threshold_29 : tbX7_threshold 29 = (.iastore, 30, 0, 0, 0, 0, []) := rfl
theorem tX7_threshold_30 : tbX7_threshold 30 = (.iload_n 2, 31, 0, 0, 0, 0, []) := rfl
theorem tX7_threshold_31 : tbX7_threshold 31 = (.ireturn, 32, 0, 0, 0, 0, []) := rfl
def ltX7_late : List (Nat × pm_E) := [(0, .iload_n 1, 1, 0, 0, 0, 0, []), (1, .iconst 0, 2, 0, 0, 0, 0, []), (2, .bipush 50, 4, 0, 0, 0, 50, []), (4, .invokestatic 35, 7, 94, 3, 0, 0, []), (7, .ifCond .ne 5, 10, 12, 0, 0, 0, []), (10, .iconst (-1), 11, 0, 0, 0, -1, []), (11, .ireturn, 12, 0, 0, 0, 0, []), (12, .aload_n 0, 13, 0, 0, 0, 0, []), (13, .invokevirtual 50, 16, 95, 0, 7, 0, []), (16, .aload_n 0, 17, 0, 0, 0, 0, []), (17, .getfield 7, 20, 7, 0, 0, 0, [(0, 0)]), (20, .iconst 2, 21, 0, 0, 0, 2, []), (21, .iaload, 22, 0, 0, 0, 0, []), (22, .istore_n 2, 23, 0, 0, 0, 0, []), (23, .aload_n 0, 24, 0, 0, 0, 0, []), (24, .getfield 7, 27, 7, 0, 0, 0, [(0, 0)]), (27, .iconst 2, 28, 0, 0, 0, 2, []), (28, .iload_n 1, 29, 0, 0, 0, 0, []), (29, .iastore, 30, 0, 0, 0, 0, []), (30, .iload_n 2, 31, 0, 0, 0, 0, []), (31, .ireturn, 32, 0, 0, 0, 0, [])]
def tbX7_late : Nat → pm_E := pm_lk ltX7_late
theorem okX7_late : ∀ pc, (tbX7_late pc).1 = .nop ∨ pm_ok mX7_late pw_Ms pc (tbX7_late pc) := pm_lk_ok (by decide +kernel)
theorem nr_X7_late : mX7_late.2.2.2 = (some .int) := rfl
theorem tX7_late_0 : tbX7_late 0 = (.iload_n 1, 1, 0, 0, 0, 0, []) := rfl
theorem tX7_late_1 : tbX7_late 1 = (.iconst 0, 2, 0, 0, 0, 0, []) := rfl
theorem tX7_late_2 : tbX7_late 2 = (.bipush 50, 4, 0, 0, 0, 50, []) := rfl
theorem tX7_late_4 : tbX7_late 4 = (.invokestatic 35, 7, 94, 3, 0, 0, []) := rfl
theorem tX7_late_7 : tbX7_late 7 = (.ifCond .ne 5, 10, 12, 0, 0, 0, []) := rfl
theorem tX7_late_10 : tbX7_late 10 = (.iconst (-1), 11, 0, 0, 0, -1, []) := rfl
theorem tX7_late_11 : tbX7_late 11 = (.ireturn, 12, 0, 0, 0, 0, []) := rfl
theorem tX7_late_12 : tbX7_late 12 = (.aload_n 0, 13, 0, 0, 0, 0, []) := rfl
theorem tX7_late_13 : tbX7_late 13 = (.invokevirtual 50, 16, 95, 0, 7, 0, []) := rfl
theorem tX7_late_16 : tbX7_late 16 = (.aload_n 0, 17, 0, 0, 0, 0, []) := rfl
theorem tX7_late_17 : tbX7_late 17 = (.getfield 7, 20, 7, 0, 0, 0, [(0, 0)]) := rfl
theorem tX7_late_20 : tbX7_late 20 = (.iconst 2, 21, 0, 0, 0, 2, []) := rfl
theorem tX7_late_21 : tbX7_late 21 = (.iaload, 22, 0, 0, 0, 0, []) := rfl
theorem tX7_late_22 : tbX7_late 22 = (.istore_n 2, 23, 0, 0, 0, 0, []) := rfl
theorem tX7_late_23 : tbX7_late 23 = (.aload_n 0, 24, 0, 0, 0, 0, []) := rfl
theorem tX7_late_24 : tbX7_late 24 = (.getfield 7, 27, 7, 0, 0, 0, [(0, 0)]) := rfl
theorem tX7_late_27 : tbX7_late 27 = (.iconst 2, 28, 0, 0, 0, 2, []) := rfl
theorem tX7_late_28 : tbX7_late 28 = (.iload_n 1, 29, 0, 0, 0, 0, []) := rfl
theorem tX7_late_29 : tbX7_late 29 = (.iastore, 30, 0, 0, 0, 0, []) := rfl
theorem tX7_late_30 : tbX7_late 30 = (.iload_n 2, 31, 0, 0, 0, 0, []) := rfl
theorem tX7_late_31 : tbX7_late 31 = (.ireturn, 32, 0, 0, 0, 0, []) := rfl
def ltX7_isHidden : List (Nat × pm_E) := [(0, .aload_n 0, 1, 0, 0, 0, 0, []), (1, .getfield 7, 4, 7, 0, 0, 0, [(0, 0)]), (4, .iload_n 1, 5, 0, 0, 0, 0, []), (5, .invokestatic 57, 8, 99, 1, 0, 0, []), (8, .iconst 5, 9, 0, 0, 0, 5, []), (9, .iadd, 10, 0, 0, 0, 0, []), (10, .iaload, 11, 0, 0, 0, 0, []), (11, .iconst 1, 12, 0, 0, 0, 1, []), (12, .if_icmp .ne 7, 15, 19, 0, 0, 0, []), (15, .iconst 1, 16, 0, 0, 0, 1, []), (16, .goto 4, 19, 20, 0, 0, 0, []), (19, .iconst 0, 20, 0, 0, 0, 0, []), (20, .istore_n 2, 21, 0, 0, 0, 0, []), (21, .aload_n 0, 22, 0, 0, 0, 0, []), (22, .getfield 7, 25, 7, 0, 0, 0, [(0, 0)]), (25, .iload_n 1, 26, 0, 0, 0, 0, []), (26, .invokestatic 57, 29, 99, 1, 0, 0, []), (29, .iconst 0, 30, 0, 0, 0, 0, []), (30, .iadd, 31, 0, 0, 0, 0, []), (31, .iaload, 32, 0, 0, 0, 0, []), (32, .istore_n 3, 33, 0, 0, 0, 0, []), (33, .iload_n 3, 34, 0, 0, 0, 0, []), (34, .ifCond .lt 41, 37, 75, 0, 0, 0, []), (37, .iload_n 2, 38, 0, 0, 0, 0, []), (38, .aload_n 0, 39, 0, 0, 0, 0, []), (39, .getfield 7, 42, 7, 0, 0, 0, [(0, 0)]), (42, .iload_n 3, 43, 0, 0, 0, 0, []), (43, .invokestatic 39, 46, 98, 1, 0, 0, []), (46, .iconst 2, 47, 0, 0, 0, 2, []), (47, .iadd, 48, 0, 0, 0, 0, []), (48, .iaload, 49, 0, 0, 0, 0, []), (49, .iconst 1, 50, 0, 0, 0, 1, []), (50, .if_icmp .ne 7, 53, 57, 0, 0, 0, []), (53, .iconst 1, 54, 0, 0, 0, 1, []), (54, .goto 4, 57, 58, 0, 0, 0, []), (57, .iconst 0, 58, 0, 0, 0, 0, []), (58, .ior, 59, 0, 0, 0, 0, []), (59, .istore_n 2, 60, 0, 0, 0, 0, []), (60, .aload_n 0, 61, 0, 0, 0, 0, []), (61, .getfield 7, 64, 7, 0, 0, 0, [(0, 0)]), (64, .iload_n 3, 65, 0, 0, 0, 0, []), (65, .invokestatic 39, 68, 98, 1, 0, 0, []), (68, .iconst 0, 69, 0, 0, 0, 0, []), (69, .iadd, 70, 0, 0, 0, 0, []), (70, .iaload, 71, 0, 0, 0, 0, []), (71, .istore_n 3, 72, 0, 0, 0, 0, []), (72, .goto (-39), 75, 33, 0, 0, 0, []), (75, .iload_n 2, 76, 0, 0, 0, 0, []), (76, .ireturn, 77, 0, 0, 0, 0, [])]
def tbX7_isHidden : Nat → pm_E := pm_lk ltX7_isHidden
theorem okX7_isHidden : ∀ pc, (tbX7_isHidden pc).1 = .nop ∨ pm_ok mX7_isHidden pw_Ms pc (tbX7_isHidden pc) := pm_lk_ok (by decide +kernel)
theorem nr_X7_isHidden : mX7_isHidden.2.2.2 = (some .boolean) := rfl
theorem tX7_isHidden_0 : tbX7_isHidden 0 = (.aload_n 0, 1, 0, 0, 0, 0, []) := rfl
theorem tX7_isHidden_1 : tbX7_isHidden 1 = (.getfield 7, 4, 7, 0, 0, 0, [(0, 0)]) := rfl
theorem tX7_isHidden_4 : tbX7_isHidden 4 = (.iload_n 1, 5, 0, 0, 0, 0, []) := rfl
theorem tX7_isHidden_5 : tbX7_isHidden 5 = (.invokestatic 57, 8, 99, 1, 0, 0, []) := rfl
theorem tX7_isHidden_8 : tbX7_isHidden 8 = (.iconst 5, 9, 0, 0, 0, 5, []) := rfl
theorem tX7_isHidden_9 : tbX7_isHidden 9 = (.iadd, 10, 0, 0, 0, 0, []) := rfl
theorem tX7_isHidden_10 : tbX7_isHidden 10 = (.iaload, 11, 0, 0, 0, 0, []) := rfl
theorem tX7_isHidden_11 : tbX7_isHidden 11 = (.iconst 1, 12, 0, 0, 0, 1, []) := rfl
theorem tX7_isHidden_12 : tbX7_isHidden 12 = (.if_icmp .ne 7, 15, 19, 0, 0, 0, []) := rfl
theorem tX7_isHidden_15 : tbX7_isHidden 15 = (.iconst 1, 16, 0, 0, 0, 1, []) := rfl
theorem tX7_isHidden_16 : tbX7_isHidden 16 = (.goto 4, 19, 20, 0, 0, 0, []) := rfl
theorem tX7_isHidden_19 : tbX7_isHidden 19 = (.iconst 0, 20, 0, 0, 0, 0, []) := rfl
theorem tX7_isHidden_20 : tbX7_isHidden 20 = (.istore_n 2, 21, 0, 0, 0, 0, []) := rfl
theorem tX7_isHidden_21 : tbX7_isHidden 21 = (.aload_n 0, 22, 0, 0, 0, 0, []) := rfl
theorem tX7_isHidden_22 : tbX7_isHidden 22 = (.getfield 7, 25, 7, 0, 0, 0, [(0, 0)]) := rfl
theorem tX7_isHidden_25 : tbX7_isHidden 25 = (.iload_n 1, 26, 0, 0, 0, 0, []) := rfl
theorem tX7_isHidden_26 : tbX7_isHidden 26 = (.invokestatic 57, 29, 99, 1, 0, 0, []) := rfl
theorem tX7_isHidden_29 : tbX7_isHidden 29 = (.iconst 0, 30, 0, 0, 0, 0, []) := rfl
theorem tX7_isHidden_30 : tbX7_isHidden 30 = (.iadd, 31, 0, 0, 0, 0, []) := rfl
theorem tX7_isHidden_31 : tbX7_isHidden 31 = (.iaload, 32, 0, 0, 0, 0, []) := rfl
theorem tX7_isHidden_32 : tbX7_isHidden 32 = (.istore_n 3, 33, 0, 0, 0, 0, []) := rfl
theorem tX7_isHidden_33 : tbX7_isHidden 33 = (.iload_n 3, 34, 0, 0, 0, 0, []) := rfl
theorem tX7_isHidden_34 : tbX7_isHidden 34 = (.ifCond .lt 41, 37, 75, 0, 0, 0, []) := rfl
theorem tX7_isHidden_37 : tbX7_isHidden 37 = (.iload_n 2, 38, 0, 0, 0, 0, []) := rfl
theorem tX7_isHidden_38 : tbX7_isHidden 38 = (.aload_n 0, 39, 0, 0, 0, 0, []) := rfl
theorem tX7_isHidden_39 : tbX7_isHidden 39 = (.getfield 7, 42, 7, 0, 0, 0, [(0, 0)]) := rfl
theorem tX7_isHidden_42 : tbX7_isHidden 42 = (.iload_n 3, 43, 0, 0, 0, 0, []) := rfl
theorem tX7_isHidden_43 : tbX7_isHidden 43 = (.invokestatic 39, 46, 98, 1, 0, 0, []) := rfl
theorem tX7_isHidden_46 : tbX7_isHidden 46 = (.iconst 2, 47, 0, 0, 0, 2, []) := rfl
theorem tX7_isHidden_47 : tbX7_isHidden 47 = (.iadd, 48, 0, 0, 0, 0, []) := rfl
theorem tX7_isHidden_48 : tbX7_isHidden 48 = (.iaload, 49, 0, 0, 0, 0, []) := rfl
theorem tX7_isHidden_49 : tbX7_isHidden 49 = (.iconst 1, 50, 0, 0, 0, 1, []) := rfl
theorem tX7_isHidden_50 : tbX7_isHidden 50 = (.if_icmp .ne 7, 53, 57, 0, 0, 0, []) := rfl
theorem tX7_isHidden_53 : tbX7_isHidden 53 = (.iconst 1, 54, 0, 0, 0, 1, []) := rfl
theorem tX7_isHidden_54 : tbX7_isHidden 54 = (.goto 4, 57, 58, 0, 0, 0, []) := rfl
theorem tX7_isHidden_57 : tbX7_isHidden 57 = (.iconst 0, 58, 0, 0, 0, 0, []) := rfl
theorem tX7_isHidden_58 : tbX7_isHidden 58 = (.ior, 59, 0, 0, 0, 0, []) := rfl
theorem tX7_isHidden_59 : tbX7_isHidden 59 = (.istore_n 2, 60, 0, 0, 0, 0, []) := rfl
theorem tX7_isHidden_60 : tbX7_isHidden 60 = (.aload_n 0, 61, 0, 0, 0, 0, []) := rfl
theorem tX7_isHidden_61 : tbX7_isHidden 61 = (.getfield 7, 64, 7, 0, 0, 0, [(0, 0)]) := rfl
theorem tX7_isHidden_64 : tbX7_isHidden 64 = (.iload_n 3, 65, 0, 0, 0, 0, []) := rfl
theorem tX7_isHidden_65 : tbX7_isHidden 65 = (.invokestatic 39, 68, 98, 1, 0, 0, []) := rfl
theorem tX7_isHidden_68 : tbX7_isHidden 68 = (.iconst 0, 69, 0, 0, 0, 0, []) := rfl
theorem tX7_isHidden_69 : tbX7_isHidden 69 = (.iadd, 70, 0, 0, 0, 0, []) := rfl
theorem tX7_isHidden_70 : tbX7_isHidden 70 = (.iaload, 71, 0, 0, 0, 0, []) := rfl
theorem tX7_isHidden_71 : tbX7_isHidden 71 = (.istore_n 3, 72, 0, 0, 0, 0, []) := rfl
theorem tX7_isHidden_72 : tbX7_isHidden 72 = (.goto (-39), 75, 33, 0, 0, 0, []) := rfl
theorem tX7_isHidden_75 : tbX7_isHidden 75 = (.iload_n 2, 76, 0, 0, 0, 0, []) := rfl
theorem tX7_isHidden_76 : tbX7_isHidden 76 = (.ireturn, 77, 0, 0, 0, 0, []) := rfl
def ltX7_isReady : List (Nat × pm_E) := [(0, .aload_n 0, 1, 0, 0, 0, 0, []), (1, .getfield 7, 4, 7, 0, 0, 0, [(0, 0)]), (4, .bipush 10, 6, 0, 0, 0, 10, []), (6, .iaload, 7, 0, 0, 0, 0, []), (7, .ifCond .ne 7, 10, 14, 0, 0, 0, []), (10, .iconst (-1), 11, 0, 0, 0, -1, []), (11, .goto 30, 14, 41, 0, 0, 0, []), (14, .aload_n 0, 15, 0, 0, 0, 0, []), (15, .getfield 7, 18, 7, 0, 0, 0, [(0, 0)]), (18, .aload_n 0, 19, 0, 0, 0, 0, []), (19, .getfield 7, 22, 7, 0, 0, 0, [(0, 0)]), (22, .bipush 11, 24, 0, 0, 0, 11, []), (24, .aload_n 0, 25, 0, 0, 0, 0, []), (25, .getfield 7, 28, 7, 0, 0, 0, [(0, 0)]), (28, .bipush 10, 30, 0, 0, 0, 10, []), (30, .iaload, 31, 0, 0, 0, 0, []), (31, .iadd, 32, 0, 0, 0, 0, []), (32, .iconst 1, 33, 0, 0, 0, 1, []), (33, .isub, 34, 0, 0, 0, 0, []), (34, .iaload, 35, 0, 0, 0, 0, []), (35, .invokestatic 57, 38, 99, 1, 0, 0, []), (38, .iconst 1, 39, 0, 0, 0, 1, []), (39, .iadd, 40, 0, 0, 0, 0, []), (40, .iaload, 41, 0, 0, 0, 0, []), (41, .istore_n 2, 42, 0, 0, 0, 0, []), (42, .aload_n 0, 43, 0, 0, 0, 0, []), (43, .getfield 7, 46, 7, 0, 0, 0, [(0, 0)]), (46, .iload_n 1, 47, 0, 0, 0, 0, []), (47, .invokestatic 57, 50, 99, 1, 0, 0, []), (50, .iconst 1, 51, 0, 0, 0, 1, []), (51, .iadd, 52, 0, 0, 0, 0, []), (52, .iaload, 53, 0, 0, 0, 0, []), (53, .istore_n 3, 54, 0, 0, 0, 0, []), (54, .aload_n 0, 55, 0, 0, 0, 0, []), (55, .getfield 7, 58, 7, 0, 0, 0, [(0, 0)]), (58, .iload_n 1, 59, 0, 0, 0, 0, []), (59, .invokestatic 57, 62, 99, 1, 0, 0, []), (62, .iconst 3, 63, 0, 0, 0, 3, []), (63, .iadd, 64, 0, 0, 0, 0, []), (64, .iaload, 65, 0, 0, 0, 0, []), (65, .iconst 1, 66, 0, 0, 0, 1, []), (66, .if_icmp .ne 44, 69, 110, 0, 0, 0, []), (69, .aload_n 0, 70, 0, 0, 0, 0, []), (70, .getfield 7, 73, 7, 0, 0, 0, [(0, 0)]), (73, .iload_n 1, 74, 0, 0, 0, 0, []), (74, .invokestatic 57, 77, 99, 1, 0, 0, []), (77, .iconst 4, 78, 0, 0, 0, 4, []), (78, .iadd, 79, 0, 0, 0, 0, []), (79, .iaload, 80, 0, 0, 0, 0, []), (80, .ifCond .ne 30, 83, 110, 0, 0, 0, []), (83, .aload_n 0, 84, 0, 0, 0, 0, []), (84, .iload_n 1, 85, 0, 0, 0, 0, []), (85, .invokevirtual 76, 88, 113, 1, 7, 0, []), (88, .ifCond .ne 22, 91, 110, 0, 0, 0, []), (91, .iload_n 3, 92, 0, 0, 0, 0, []), (92, .aload_n 0, 93, 0, 0, 0, 0, []), (93, .getfield 7, 96, 7, 0, 0, 0, [(0, 0)]), (96, .iconst 1, 97, 0, 0, 0, 1, []), (97, .iaload, 98, 0, 0, 0, 0, []), (98, .if_icmp .lt 12, 101, 110, 0, 0, 0, []), (101, .iload_n 3, 102, 0, 0, 0, 0, []), (102, .iload_n 2, 103, 0, 0, 0, 0, []), (103, .if_icmp .le 7, 106, 110, 0, 0, 0, []), (106, .iconst 1, 107, 0, 0, 0, 1, []), (107, .goto 4, 110, 111, 0, 0, 0, []), (110, .iconst 0, 111, 0, 0, 0, 0, []), (111, .ireturn, 112, 0, 0, 0, 0, [])]
def tbX7_isReady : Nat → pm_E := pm_lk ltX7_isReady
theorem okX7_isReady : ∀ pc, (tbX7_isReady pc).1 = .nop ∨ pm_ok mX7_isReady pw_Ms pc (tbX7_isReady pc) := pm_lk_ok (by decide +kernel)
theorem nr_X7_isReady : mX7_isReady.2.2.2 = (some .boolean) := rfl
theorem tX7_isReady_0 : tbX7_isReady 0 = (.aload_n 0, 1, 0, 0, 0, 0, []) := rfl
theorem tX7_isReady_1 : tbX7_isReady 1 = (.getfield 7, 4, 7, 0, 0, 0, [(0, 0)]) := rfl
theorem tX7_isReady_4 : tbX7_isReady 4 = (.bipush 10, 6, 0, 0, 0, 10, []) := rfl
theorem tX7_isReady_6 : tbX7_isReady 6 = (.iaload, 7, 0, 0, 0, 0, []) := rfl
theorem tX7_isReady_7 : tbX7_isReady 7 = (.ifCond .ne 7, 10, 14, 0, 0, 0, []) := rfl
theorem tX7_isReady_10 : tbX7_isReady 10 = (.iconst (-1), 11, 0, 0, 0, -1, []) := rfl
theorem tX7_isReady_11 : tbX7_isReady 11 = (.goto 30, 14, 41, 0, 0, 0, []) := rfl
theorem tX7_isReady_14 : tbX7_isReady 14 = (.aload_n 0, 15, 0, 0, 0, 0, []) := rfl
theorem tX7_isReady_15 : tbX7_isReady 15 = (.getfield 7, 18, 7, 0, 0, 0, [(0, 0)]) := rfl
theorem tX7_isReady_18 : tbX7_isReady 18 = (.aload_n 0, 19, 0, 0, 0, 0, []) := rfl
theorem tX7_isReady_19 : tbX7_isReady 19 = (.getfield 7, 22, 7, 0, 0, 0, [(0, 0)]) := rfl
theorem tX7_isReady_22 : tbX7_isReady 22 = (.bipush 11, 24, 0, 0, 0, 11, []) := rfl
theorem tX7_isReady_24 : tbX7_isReady 24 = (.aload_n 0, 25, 0, 0, 0, 0, []) := rfl
theorem tX7_isReady_25 : tbX7_isReady 25 = (.getfield 7, 28, 7, 0, 0, 0, [(0, 0)]) := rfl
theorem tX7_isReady_28 : tbX7_isReady 28 = (.bipush 10, 30, 0, 0, 0, 10, []) := rfl
theorem tX7_isReady_30 : tbX7_isReady 30 = (.iaload, 31, 0, 0, 0, 0, []) := rfl
theorem tX7_isReady_31 : tbX7_isReady 31 = (.iadd, 32, 0, 0, 0, 0, []) := rfl
theorem tX7_isReady_32 : tbX7_isReady 32 = (.iconst 1, 33, 0, 0, 0, 1, []) := rfl
theorem tX7_isReady_33 : tbX7_isReady 33 = (.isub, 34, 0, 0, 0, 0, []) := rfl
theorem tX7_isReady_34 : tbX7_isReady 34 = (.iaload, 35, 0, 0, 0, 0, []) := rfl
theorem tX7_isReady_35 : tbX7_isReady 35 = (.invokestatic 57, 38, 99, 1, 0, 0, []) := rfl
theorem tX7_isReady_38 : tbX7_isReady 38 = (.iconst 1, 39, 0, 0, 0, 1, []) := rfl
theorem tX7_isReady_39 : tbX7_isReady 39 = (.iadd, 40, 0, 0, 0, 0, []) := rfl
theorem tX7_isReady_40 : tbX7_isReady 40 = (.iaload, 41, 0, 0, 0, 0, []) := rfl
theorem tX7_isReady_41 : tbX7_isReady 41 = (.istore_n 2, 42, 0, 0, 0, 0, []) := rfl
theorem tX7_isReady_42 : tbX7_isReady 42 = (.aload_n 0, 43, 0, 0, 0, 0, []) := rfl
theorem tX7_isReady_43 : tbX7_isReady 43 = (.getfield 7, 46, 7, 0, 0, 0, [(0, 0)]) := rfl
theorem tX7_isReady_46 : tbX7_isReady 46 = (.iload_n 1, 47, 0, 0, 0, 0, []) := rfl
theorem tX7_isReady_47 : tbX7_isReady 47 = (.invokestatic 57, 50, 99, 1, 0, 0, []) := rfl
theorem tX7_isReady_50 : tbX7_isReady 50 = (.iconst 1, 51, 0, 0, 0, 1, []) := rfl
theorem tX7_isReady_51 : tbX7_isReady 51 = (.iadd, 52, 0, 0, 0, 0, []) := rfl
theorem tX7_isReady_52 : tbX7_isReady 52 = (.iaload, 53, 0, 0, 0, 0, []) := rfl
theorem tX7_isReady_53 : tbX7_isReady 53 = (.istore_n 3, 54, 0, 0, 0, 0, []) := rfl
theorem tX7_isReady_54 : tbX7_isReady 54 = (.aload_n 0, 55, 0, 0, 0, 0, []) := rfl
theorem tX7_isReady_55 : tbX7_isReady 55 = (.getfield 7, 58, 7, 0, 0, 0, [(0, 0)]) := rfl
theorem tX7_isReady_58 : tbX7_isReady 58 = (.iload_n 1, 59, 0, 0, 0, 0, []) := rfl
theorem tX7_isReady_59 : tbX7_isReady 59 = (.invokestatic 57, 62, 99, 1, 0, 0, []) := rfl
theorem tX7_isReady_62 : tbX7_isReady 62 = (.iconst 3, 63, 0, 0, 0, 3, []) := rfl
theorem tX7_isReady_63 : tbX7_isReady 63 = (.iadd, 64, 0, 0, 0, 0, []) := rfl
theorem tX7_isReady_64 : tbX7_isReady 64 = (.iaload, 65, 0, 0, 0, 0, []) := rfl
theorem tX7_isReady_65 : tbX7_isReady 65 = (.iconst 1, 66, 0, 0, 0, 1, []) := rfl
theorem tX7_isReady_66 : tbX7_isReady 66 = (.if_icmp .ne 44, 69, 110, 0, 0, 0, []) := rfl
theorem tX7_isReady_69 : tbX7_isReady 69 = (.aload_n 0, 70, 0, 0, 0, 0, []) := rfl
theorem tX7_isReady_70 : tbX7_isReady 70 = (.getfield 7, 73, 7, 0, 0, 0, [(0, 0)]) := rfl
theorem tX7_isReady_73 : tbX7_isReady 73 = (.iload_n 1, 74, 0, 0, 0, 0, []) := rfl
theorem tX7_isReady_74 : tbX7_isReady 74 = (.invokestatic 57, 77, 99, 1, 0, 0, []) := rfl
theorem tX7_isReady_77 : tbX7_isReady 77 = (.iconst 4, 78, 0, 0, 0, 4, []) := rfl
theorem tX7_isReady_78 : tbX7_isReady 78 = (.iadd, 79, 0, 0, 0, 0, []) := rfl
theorem tX7_isReady_79 : tbX7_isReady 79 = (.iaload, 80, 0, 0, 0, 0, []) := rfl
theorem tX7_isReady_80 : tbX7_isReady 80 = (.ifCond .ne 30, 83, 110, 0, 0, 0, []) := rfl
theorem tX7_isReady_83 : tbX7_isReady 83 = (.aload_n 0, 84, 0, 0, 0, 0, []) := rfl
theorem tX7_isReady_84 : tbX7_isReady 84 = (.iload_n 1, 85, 0, 0, 0, 0, []) := rfl
theorem tX7_isReady_85 : tbX7_isReady 85 = (.invokevirtual 76, 88, 113, 1, 7, 0, []) := rfl
theorem tX7_isReady_88 : tbX7_isReady 88 = (.ifCond .ne 22, 91, 110, 0, 0, 0, []) := rfl
theorem tX7_isReady_91 : tbX7_isReady 91 = (.iload_n 3, 92, 0, 0, 0, 0, []) := rfl
theorem tX7_isReady_92 : tbX7_isReady 92 = (.aload_n 0, 93, 0, 0, 0, 0, []) := rfl
theorem tX7_isReady_93 : tbX7_isReady 93 = (.getfield 7, 96, 7, 0, 0, 0, [(0, 0)]) := rfl
theorem tX7_isReady_96 : tbX7_isReady 96 = (.iconst 1, 97, 0, 0, 0, 1, []) := rfl
theorem tX7_isReady_97 : tbX7_isReady 97 = (.iaload, 98, 0, 0, 0, 0, []) := rfl
theorem tX7_isReady_98 : tbX7_isReady 98 = (.if_icmp .lt 12, 101, 110, 0, 0, 0, []) := rfl
theorem tX7_isReady_101 : tbX7_isReady 101 = (.iload_n 3, 102, 0, 0, 0, 0, []) := rfl
theorem tX7_isReady_102 : tbX7_isReady 102 = (.iload_n 2, 103, 0, 0, 0, 0, []) := rfl
theorem tX7_isReady_103 : tbX7_isReady 103 = (.if_icmp .le 7, 106, 110, 0, 0, 0, []) := rfl
theorem tX7_isReady_106 : tbX7_isReady 106 = (.iconst 1, 107, 0, 0, 0, 1, []) := rfl
theorem tX7_isReady_107 : tbX7_isReady 107 = (.goto 4, 110, 111, 0, 0, 0, []) := rfl
theorem tX7_isReady_110 : tbX7_isReady 110 = (.iconst 0, 111, 0, 0, 0, 0, []) := rfl
theorem tX7_isReady_111 : tbX7_isReady 111 = (.ireturn, 112, 0, 0, 0, 0, []) := rfl
def ltX7_layOrder : List (Nat × pm_E) := [(0, .aload_n 0, 1, 0, 0, 0, 0, []), (1, .getfield 22, 4, 7, 4, 0, 0, [(0, 0)]), (4, .iconst 0, 5, 0, 0, 0, 0, []), (5, .iconst 0, 6, 0, 0, 0, 0, []), (6, .iastore, 7, 0, 0, 0, 0, []), (7, .aload_n 0, 8, 0, 0, 0, 0, []), (8, .getfield 25, 11, 7, 5, 0, 0, [(0, 0)]), (11, .iconst 0, 12, 0, 0, 0, 0, []), (12, .iconst 0, 13, 0, 0, 0, 0, []), (13, .iastore, 14, 0, 0, 0, 0, []), (14, .iconst 1, 15, 0, 0, 0, 1, []), (15, .istore_n 1, 16, 0, 0, 0, 0, []), (16, .iconst 0, 17, 0, 0, 0, 0, []), (17, .istore_n 2, 18, 0, 0, 0, 0, []), (18, .iload_n 1, 19, 0, 0, 0, 0, []), (19, .ifCond .le 117, 22, 136, 0, 0, 0, []), (22, .aload_n 0, 23, 0, 0, 0, 0, []), (23, .getfield 22, 26, 7, 4, 0, 0, [(0, 0)]), (26, .iload_n 1, 27, 0, 0, 0, 0, []), (27, .iconst 1, 28, 0, 0, 0, 1, []), (28, .isub, 29, 0, 0, 0, 0, []), (29, .iaload, 30, 0, 0, 0, 0, []), (30, .istore_n 3, 31, 0, 0, 0, 0, []), (31, .aload_n 0, 32, 0, 0, 0, 0, []), (32, .getfield 25, 35, 7, 5, 0, 0, [(0, 0)]), (35, .iload_n 1, 36, 0, 0, 0, 0, []), (36, .iconst 1, 37, 0, 0, 0, 1, []), (37, .isub, 38, 0, 0, 0, 0, []), (38, .iaload, 39, 0, 0, 0, 0, []), (39, .istore 4, 41, 0, 0, 0, 0, []), (41, .iload 4, 43, 0, 0, 0, 0, []), (43, .aload_n 0, 44, 0, 0, 0, 0, []), (44, .getfield 7, 47, 7, 0, 0, 0, [(0, 0)]), (47, .iload_n 3, 48, 0, 0, 0, 0, []), (48, .invokestatic 39, 51, 98, 1, 0, 0, []), (51, .iconst 3, 52, 0, 0, 0, 3, []), (52, .iadd, 53, 0, 0, 0, 0, []), (53, .iaload, 54, 0, 0, 0, 0, []), (54, .if_icmp .ne 9, 57, 63, 0, 0, 0, []), (57, .iinc 1 (-1), 60, 0, 0, 0, -1, []), (60, .goto 73, 63, 133, 0, 0, 0, []), (63, .aload_n 0, 64, 0, 0, 0, 0, []), (64, .getfield 25, 67, 7, 5, 0, 0, [(0, 0)]), (67, .iload_n 1, 68, 0, 0, 0, 0, []), (68, .iconst 1, 69, 0, 0, 0, 1, []), (69, .isub, 70, 0, 0, 0, 0, []), (70, .dup2, 71, 0, 0, 0, 0, []), (71, .iaload, 72, 0, 0, 0, 0, []), (72, .iconst 1, 73, 0, 0, 0, 1, []), (73, .iadd, 74, 0, 0, 0, 0, []), (74, .iastore, 75, 0, 0, 0, 0, []), (75, .aload_n 0, 76, 0, 0, 0, 0, []), (76, .getfield 7, 79, 7, 0, 0, 0, [(0, 0)]), (79, .iload_n 3, 80, 0, 0, 0, 0, []), (80, .invokestatic 39, 83, 98, 1, 0, 0, []), (83, .iconst 4, 84, 0, 0, 0, 4, []), (84, .iadd, 85, 0, 0, 0, 0, []), (85, .iload 4, 87, 0, 0, 0, 0, []), (87, .iadd, 88, 0, 0, 0, 0, []), (88, .iaload, 89, 0, 0, 0, 0, []), (89, .istore 5, 91, 0, 0, 0, 0, []), (91, .iload 5, 93, 0, 0, 0, 0, []), (93, .bipush 100, 95, 0, 0, 0, 100, []), (95, .if_icmp .ge 17, 98, 112, 0, 0, 0, []), (98, .aload_n 0, 99, 0, 0, 0, 0, []), (99, .getfield 19, 102, 7, 3, 0, 0, [(0, 0)]), (102, .iload_n 2, 103, 0, 0, 0, 0, []), (103, .iload 5, 105, 0, 0, 0, 0, []), (105, .iastore, 106, 0, 0, 0, 0, []), (106, .iinc 2 1, 109, 0, 0, 0, 1, []), (109, .goto 24, 112, 133, 0, 0, 0, []), (112, .aload_n 0, 113, 0, 0, 0, 0, []), (113, .getfield 22, 116, 7, 4, 0, 0, [(0, 0)]), (116, .iload_n 1, 117, 0, 0, 0, 0, []), (117, .iload 5, 119, 0, 0, 0, 0, []), (119, .bipush 100, 121, 0, 0, 0, 100, []), (121, .isub, 122, 0, 0, 0, 0, []), (122, .iastore, 123, 0, 0, 0, 0, []), (123, .aload_n 0, 124, 0, 0, 0, 0, []), (124, .getfield 25, 127, 7, 5, 0, 0, [(0, 0)]), (127, .iload_n 1, 128, 0, 0, 0, 0, []), (128, .iconst 0, 129, 0, 0, 0, 0, []), (129, .iastore, 130, 0, 0, 0, 0, []), (130, .iinc 1 1, 133, 0, 0, 0, 1, []), (133, .goto (-115), 136, 18, 0, 0, 0, []), (136, .return_, 137, 0, 0, 0, 0, [])]
def tbX7_layOrder : Nat → pm_E := pm_lk ltX7_layOrder
theorem okX7_layOrder : ∀ pc, (tbX7_layOrder pc).1 = .nop ∨ pm_ok mX7_layOrder pw_Ms pc (tbX7_layOrder pc) := pm_lk_ok (by decide +kernel)
theorem nr_X7_layOrder : mX7_layOrder.2.2.2 = none := rfl
theorem tX7_layOrder_0 : tbX7_layOrder 0 = (.aload_n 0, 1, 0, 0, 0, 0, []) := rfl
theorem tX7_layOrder_1 : tbX7_layOrder 1 = (.getfield 22, 4, 7, 4, 0, 0, [(0, 0)]) := rfl
theorem tX7_layOrder_4 : tbX7_layOrder 4 = (.iconst 0, 5, 0, 0, 0, 0, []) := rfl
theorem tX7_layOrder_5 : tbX7_layOrder 5 = (.iconst 0, 6, 0, 0, 0, 0, []) := rfl
theorem tX7_layOrder_6 : tbX7_layOrder 6 = (.iastore, 7, 0, 0, 0, 0, []) := rfl
theorem tX7_layOrder_7 : tbX7_layOrder 7 = (.aload_n 0, 8, 0, 0, 0, 0, []) := rfl
theorem tX7_layOrder_8 : tbX7_layOrder 8 = (.getfield 25, 11, 7, 5, 0, 0, [(0, 0)]) := rfl
theorem tX7_layOrder_11 : tbX7_layOrder 11 = (.iconst 0, 12, 0, 0, 0, 0, []) := rfl
theorem tX7_layOrder_12 : tbX7_layOrder 12 = (.iconst 0, 13, 0, 0, 0, 0, []) := rfl
theorem tX7_layOrder_13 : tbX7_layOrder 13 = (.iastore, 14, 0, 0, 0, 0, []) := rfl
theorem tX7_layOrder_14 : tbX7_layOrder 14 = (.iconst 1, 15, 0, 0, 0, 1, []) := rfl
theorem tX7_layOrder_15 : tbX7_layOrder 15 = (.istore_n 1, 16, 0, 0, 0, 0, []) := rfl
theorem tX7_layOrder_16 : tbX7_layOrder 16 = (.iconst 0, 17, 0, 0, 0, 0, []) := rfl
theorem tX7_layOrder_17 : tbX7_layOrder 17 = (.istore_n 2, 18, 0, 0, 0, 0, []) := rfl
theorem tX7_layOrder_18 : tbX7_layOrder 18 = (.iload_n 1, 19, 0, 0, 0, 0, []) := rfl
theorem tX7_layOrder_19 : tbX7_layOrder 19 = (.ifCond .le 117, 22, 136, 0, 0, 0, []) := rfl
theorem tX7_layOrder_22 : tbX7_layOrder 22 = (.aload_n 0, 23, 0, 0, 0, 0, []) := rfl
theorem tX7_layOrder_23 : tbX7_layOrder 23 = (.getfield 22, 26, 7, 4, 0, 0, [(0, 0)]) := rfl
theorem tX7_layOrder_26 : tbX7_layOrder 26 = (.iload_n 1, 27, 0, 0, 0, 0, []) := rfl
theorem tX7_layOrder_27 : tbX7_layOrder 27 = (.iconst 1, 28, 0, 0, 0, 1, []) := rfl
theorem tX7_layOrder_28 : tbX7_layOrder 28 = (.isub, 29, 0, 0, 0, 0, []) := rfl
theorem tX7_layOrder_29 : tbX7_layOrder 29 = (.iaload, 30, 0, 0, 0, 0, []) := rfl
theorem tX7_layOrder_30 : tbX7_layOrder 30 = (.istore_n 3, 31, 0, 0, 0, 0, []) := rfl
theorem tX7_layOrder_31 : tbX7_layOrder 31 = (.aload_n 0, 32, 0, 0, 0, 0, []) := rfl
theorem tX7_layOrder_32 : tbX7_layOrder 32 = (.getfield 25, 35, 7, 5, 0, 0, [(0, 0)]) := rfl
theorem tX7_layOrder_35 : tbX7_layOrder 35 = (.iload_n 1, 36, 0, 0, 0, 0, []) := rfl
theorem tX7_layOrder_36 : tbX7_layOrder 36 = (.iconst 1, 37, 0, 0, 0, 1, []) := rfl
theorem tX7_layOrder_37 : tbX7_layOrder 37 = (.isub, 38, 0, 0, 0, 0, []) := rfl
theorem tX7_layOrder_38 : tbX7_layOrder 38 = (.iaload, 39, 0, 0, 0, 0, []) := rfl
theorem tX7_layOrder_39 : tbX7_layOrder 39 = (.istore 4, 41, 0, 0, 0, 0, []) := rfl
theorem tX7_layOrder_41 : tbX7_layOrder 41 = (.iload 4, 43, 0, 0, 0, 0, []) := rfl
theorem tX7_layOrder_43 : tbX7_layOrder 43 = (.aload_n 0, 44, 0, 0, 0, 0, []) := rfl
theorem tX7_layOrder_44 : tbX7_layOrder 44 = (.getfield 7, 47, 7, 0, 0, 0, [(0, 0)]) := rfl
theorem tX7_layOrder_47 : tbX7_layOrder 47 = (.iload_n 3, 48, 0, 0, 0, 0, []) := rfl
theorem tX7_layOrder_48 : tbX7_layOrder 48 = (.invokestatic 39, 51, 98, 1, 0, 0, []) := rfl
theorem tX7_layOrder_51 : tbX7_layOrder 51 = (.iconst 3, 52, 0, 0, 0, 3, []) := rfl
theorem tX7_layOrder_52 : tbX7_layOrder 52 = (.iadd, 53, 0, 0, 0, 0, []) := rfl
theorem tX7_layOrder_53 : tbX7_layOrder 53 = (.iaload, 54, 0, 0, 0, 0, []) := rfl
theorem tX7_layOrder_54 : tbX7_layOrder 54 = (.if_icmp .ne 9, 57, 63, 0, 0, 0, []) := rfl
theorem tX7_layOrder_57 : tbX7_layOrder 57 = (.iinc 1 (-1), 60, 0, 0, 0, -1, []) := rfl
theorem tX7_layOrder_60 : tbX7_layOrder 60 = (.goto 73, 63, 133, 0, 0, 0, []) := rfl
theorem tX7_layOrder_63 : tbX7_layOrder 63 = (.aload_n 0, 64, 0, 0, 0, 0, []) := rfl
theorem tX7_layOrder_64 : tbX7_layOrder 64 = (.getfield 25, 67, 7, 5, 0, 0, [(0, 0)]) := rfl
theorem tX7_layOrder_67 : tbX7_layOrder 67 = (.iload_n 1, 68, 0, 0, 0, 0, []) := rfl
theorem tX7_layOrder_68 : tbX7_layOrder 68 = (.iconst 1, 69, 0, 0, 0, 1, []) := rfl
theorem tX7_layOrder_69 : tbX7_layOrder 69 = (.isub, 70, 0, 0, 0, 0, []) := rfl
theorem tX7_layOrder_70 : tbX7_layOrder 70 = (.dup2, 71, 0, 0, 0, 0, []) := rfl
theorem tX7_layOrder_71 : tbX7_layOrder 71 = (.iaload, 72, 0, 0, 0, 0, []) := rfl
theorem tX7_layOrder_72 : tbX7_layOrder 72 = (.iconst 1, 73, 0, 0, 0, 1, []) := rfl
theorem tX7_layOrder_73 : tbX7_layOrder 73 = (.iadd, 74, 0, 0, 0, 0, []) := rfl
theorem tX7_layOrder_74 : tbX7_layOrder 74 = (.iastore, 75, 0, 0, 0, 0, []) := rfl
theorem tX7_layOrder_75 : tbX7_layOrder 75 = (.aload_n 0, 76, 0, 0, 0, 0, []) := rfl
theorem tX7_layOrder_76 : tbX7_layOrder 76 = (.getfield 7, 79, 7, 0, 0, 0, [(0, 0)]) := rfl
theorem tX7_layOrder_79 : tbX7_layOrder 79 = (.iload_n 3, 80, 0, 0, 0, 0, []) := rfl
theorem tX7_layOrder_80 : tbX7_layOrder 80 = (.invokestatic 39, 83, 98, 1, 0, 0, []) := rfl
theorem tX7_layOrder_83 : tbX7_layOrder 83 = (.iconst 4, 84, 0, 0, 0, 4, []) := rfl
theorem tX7_layOrder_84 : tbX7_layOrder 84 = (.iadd, 85, 0, 0, 0, 0, []) := rfl
theorem tX7_layOrder_85 : tbX7_layOrder 85 = (.iload 4, 87, 0, 0, 0, 0, []) := rfl
theorem tX7_layOrder_87 : tbX7_layOrder 87 = (.iadd, 88, 0, 0, 0, 0, []) := rfl
theorem tX7_layOrder_88 : tbX7_layOrder 88 = (.iaload, 89, 0, 0, 0, 0, []) := rfl
theorem tX7_layOrder_89 : tbX7_layOrder 89 = (.istore 5, 91, 0, 0, 0, 0, []) := rfl
theorem tX7_layOrder_91 : tbX7_layOrder 91 = (.iload 5, 93, 0, 0, 0, 0, []) := rfl
theorem tX7_layOrder_93 : tbX7_layOrder 93 = (.bipush 100, 95, 0, 0, 0, 100, []) := rfl
theorem tX7_layOrder_95 : tbX7_layOrder 95 = (.if_icmp .ge 17, 98, 112, 0, 0, 0, []) := rfl
theorem tX7_layOrder_98 : tbX7_layOrder 98 = (.aload_n 0, 99, 0, 0, 0, 0, []) := rfl
theorem tX7_layOrder_99 : tbX7_layOrder 99 = (.getfield 19, 102, 7, 3, 0, 0, [(0, 0)]) := rfl
theorem tX7_layOrder_102 : tbX7_layOrder 102 = (.iload_n 2, 103, 0, 0, 0, 0, []) := rfl
theorem tX7_layOrder_103 : tbX7_layOrder 103 = (.iload 5, 105, 0, 0, 0, 0, []) := rfl
theorem tX7_layOrder_105 : tbX7_layOrder 105 = (.iastore, 106, 0, 0, 0, 0, []) := rfl
theorem tX7_layOrder_106 : tbX7_layOrder 106 = (.iinc 2 1, 109, 0, 0, 0, 1, []) := rfl
theorem tX7_layOrder_109 : tbX7_layOrder 109 = (.goto 24, 112, 133, 0, 0, 0, []) := rfl
theorem tX7_layOrder_112 : tbX7_layOrder 112 = (.aload_n 0, 113, 0, 0, 0, 0, []) := rfl
theorem tX7_layOrder_113 : tbX7_layOrder 113 = (.getfield 22, 116, 7, 4, 0, 0, [(0, 0)]) := rfl
theorem tX7_layOrder_116 : tbX7_layOrder 116 = (.iload_n 1, 117, 0, 0, 0, 0, []) := rfl
theorem tX7_layOrder_117 : tbX7_layOrder 117 = (.iload 5, 119, 0, 0, 0, 0, []) := rfl
theorem tX7_layOrder_119 : tbX7_layOrder 119 = (.bipush 100, 121, 0, 0, 0, 100, []) := rfl
theorem tX7_layOrder_121 : tbX7_layOrder 121 = (.isub, 122, 0, 0, 0, 0, []) := rfl
theorem tX7_layOrder_122 : tbX7_layOrder 122 = (.iastore, 123, 0, 0, 0, 0, []) := rfl
theorem tX7_layOrder_123 : tbX7_layOrder 123 = (.aload_n 0, 124, 0, 0, 0, 0, []) := rfl
theorem tX7_layOrder_124 : tbX7_layOrder 124 = (.getfield 25, 127, 7, 5, 0, 0, [(0, 0)]) := rfl
theorem tX7_layOrder_127 : tbX7_layOrder 127 = (.iload_n 1, 128, 0, 0, 0, 0, []) := rfl
theorem tX7_layOrder_128 : tbX7_layOrder 128 = (.iconst 0, 129, 0, 0, 0, 0, []) := rfl
theorem tX7_layOrder_129 : tbX7_layOrder 129 = (.iastore, 130, 0, 0, 0, 0, []) := rfl
theorem tX7_layOrder_130 : tbX7_layOrder 130 = (.iinc 1 1, 133, 0, 0, 0, 1, []) := rfl
theorem tX7_layOrder_133 : tbX7_layOrder 133 = (.goto (-115), 136, 18, 0, 0, 0, []) := rfl
theorem tX7_layOrder_136 : tbX7_layOrder 136 = (.return_, 137, 0, 0, 0, 0, []) := rfl
def ltX7_nextLine : List (Nat × pm_E) := [(0, .aload_n 0, 1, 0, 0, 0, 0, []), (1, .invokevirtual 79, 4, 115, 0, 7, 0, []), (4, .iconst (-1), 5, 0, 0, 0, -1, []), (5, .istore_n 1, 6, 0, 0, 0, 0, []), (6, .iconst 0, 7, 0, 0, 0, 0, []), (7, .istore_n 2, 8, 0, 0, 0, 0, []), (8, .iload_n 2, 9, 0, 0, 0, 0, []), (9, .aload_n 0, 10, 0, 0, 0, 0, []), (10, .getfield 7, 13, 7, 0, 0, 0, [(0, 0)]), (13, .iconst 4, 14, 0, 0, 0, 4, []), (14, .iaload, 15, 0, 0, 0, 0, []), (15, .if_icmp .ge 77, 18, 92, 0, 0, 0, []), (18, .aload_n 0, 19, 0, 0, 0, 0, []), (19, .aload_n 0, 20, 0, 0, 0, 0, []), (20, .getfield 19, 23, 7, 3, 0, 0, [(0, 0)]), (23, .iload_n 2, 24, 0, 0, 0, 0, []), (24, .iaload, 25, 0, 0, 0, 0, []), (25, .invokevirtual 82, 28, 114, 1, 7, 0, []), (28, .ifCond .eq 41, 31, 69, 0, 0, 0, []), (31, .iload_n 1, 32, 0, 0, 0, 0, []), (32, .ifCond .lt 33, 35, 65, 0, 0, 0, []), (35, .aload_n 0, 36, 0, 0, 0, 0, []), (36, .getfield 7, 39, 7, 0, 0, 0, [(0, 0)]), (39, .aload_n 0, 40, 0, 0, 0, 0, []), (40, .getfield 19, 43, 7, 3, 0, 0, [(0, 0)]), (43, .iload_n 2, 44, 0, 0, 0, 0, []), (44, .iaload, 45, 0, 0, 0, 0, []), (45, .invokestatic 57, 48, 99, 1, 0, 0, []), (48, .iconst 1, 49, 0, 0, 0, 1, []), (49, .iadd, 50, 0, 0, 0, 0, []), (50, .iaload, 51, 0, 0, 0, 0, []), (51, .aload_n 0, 52, 0, 0, 0, 0, []), (52, .getfield 7, 55, 7, 0, 0, 0, [(0, 0)]), (55, .iload_n 1, 56, 0, 0, 0, 0, []), (56, .invokestatic 57, 59, 99, 1, 0, 0, []), (59, .iconst 1, 60, 0, 0, 0, 1, []), (60, .iadd, 61, 0, 0, 0, 0, []), (61, .iaload, 62, 0, 0, 0, 0, []), (62, .if_icmp .le 7, 65, 69, 0, 0, 0, []), (65, .iconst 1, 66, 0, 0, 0, 1, []), (66, .goto 4, 69, 70, 0, 0, 0, []), (69, .iconst 0, 70, 0, 0, 0, 0, []), (70, .istore_n 3, 71, 0, 0, 0, 0, []), (71, .iload_n 3, 72, 0, 0, 0, 0, []), (72, .ifCond .eq 12, 75, 84, 0, 0, 0, []), (75, .aload_n 0, 76, 0, 0, 0, 0, []), (76, .getfield 19, 79, 7, 3, 0, 0, [(0, 0)]), (79, .iload_n 2, 80, 0, 0, 0, 0, []), (80, .iaload, 81, 0, 0, 0, 0, []), (81, .goto 4, 84, 85, 0, 0, 0, []), (84, .iload_n 1, 85, 0, 0, 0, 0, []), (85, .istore_n 1, 86, 0, 0, 0, 0, []), (86, .iinc 2 1, 89, 0, 0, 0, 1, []), (89, .goto (-81), 92, 8, 0, 0, 0, []), (92, .iload_n 1, 93, 0, 0, 0, 0, []), (93, .ireturn, 94, 0, 0, 0, 0, [])]
def tbX7_nextLine : Nat → pm_E := pm_lk ltX7_nextLine
theorem okX7_nextLine : ∀ pc, (tbX7_nextLine pc).1 = .nop ∨ pm_ok mX7_nextLine pw_Ms pc (tbX7_nextLine pc) := pm_lk_ok (by decide +kernel)
theorem nr_X7_nextLine : mX7_nextLine.2.2.2 = (some .int) := rfl
theorem tX7_nextLine_0 : tbX7_nextLine 0 = (.aload_n 0, 1, 0, 0, 0, 0, []) := rfl
theorem tX7_nextLine_1 : tbX7_nextLine 1 = (.invokevirtual 79, 4, 115, 0, 7, 0, []) := rfl
theorem tX7_nextLine_4 : tbX7_nextLine 4 = (.iconst (-1), 5, 0, 0, 0, -1, []) := rfl
theorem tX7_nextLine_5 : tbX7_nextLine 5 = (.istore_n 1, 6, 0, 0, 0, 0, []) := rfl
theorem tX7_nextLine_6 : tbX7_nextLine 6 = (.iconst 0, 7, 0, 0, 0, 0, []) := rfl
theorem tX7_nextLine_7 : tbX7_nextLine 7 = (.istore_n 2, 8, 0, 0, 0, 0, []) := rfl
theorem tX7_nextLine_8 : tbX7_nextLine 8 = (.iload_n 2, 9, 0, 0, 0, 0, []) := rfl
theorem tX7_nextLine_9 : tbX7_nextLine 9 = (.aload_n 0, 10, 0, 0, 0, 0, []) := rfl
theorem tX7_nextLine_10 : tbX7_nextLine 10 = (.getfield 7, 13, 7, 0, 0, 0, [(0, 0)]) := rfl
theorem tX7_nextLine_13 : tbX7_nextLine 13 = (.iconst 4, 14, 0, 0, 0, 4, []) := rfl
theorem tX7_nextLine_14 : tbX7_nextLine 14 = (.iaload, 15, 0, 0, 0, 0, []) := rfl
theorem tX7_nextLine_15 : tbX7_nextLine 15 = (.if_icmp .ge 77, 18, 92, 0, 0, 0, []) := rfl
theorem tX7_nextLine_18 : tbX7_nextLine 18 = (.aload_n 0, 19, 0, 0, 0, 0, []) := rfl
theorem tX7_nextLine_19 : tbX7_nextLine 19 = (.aload_n 0, 20, 0, 0, 0, 0, []) := rfl
theorem tX7_nextLine_20 : tbX7_nextLine 20 = (.getfield 19, 23, 7, 3, 0, 0, [(0, 0)]) := rfl
theorem tX7_nextLine_23 : tbX7_nextLine 23 = (.iload_n 2, 24, 0, 0, 0, 0, []) := rfl
theorem tX7_nextLine_24 : tbX7_nextLine 24 = (.iaload, 25, 0, 0, 0, 0, []) := rfl
theorem tX7_nextLine_25 : tbX7_nextLine 25 = (.invokevirtual 82, 28, 114, 1, 7, 0, []) := rfl
theorem tX7_nextLine_28 : tbX7_nextLine 28 = (.ifCond .eq 41, 31, 69, 0, 0, 0, []) := rfl
theorem tX7_nextLine_31 : tbX7_nextLine 31 = (.iload_n 1, 32, 0, 0, 0, 0, []) := rfl
theorem tX7_nextLine_32 : tbX7_nextLine 32 = (.ifCond .lt 33, 35, 65, 0, 0, 0, []) := rfl
theorem tX7_nextLine_35 : tbX7_nextLine 35 = (.aload_n 0, 36, 0, 0, 0, 0, []) := rfl
theorem tX7_nextLine_36 : tbX7_nextLine 36 = (.getfield 7, 39, 7, 0, 0, 0, [(0, 0)]) := rfl
theorem tX7_nextLine_39 : tbX7_nextLine 39 = (.aload_n 0, 40, 0, 0, 0, 0, []) := rfl
theorem tX7_nextLine_40 : tbX7_nextLine 40 = (.getfield 19, 43, 7, 3, 0, 0, [(0, 0)]) := rfl
theorem tX7_nextLine_43 : tbX7_nextLine 43 = (.iload_n 2, 44, 0, 0, 0, 0, []) := rfl
theorem tX7_nextLine_44 : tbX7_nextLine 44 = (.iaload, 45, 0, 0, 0, 0, []) := rfl
theorem tX7_nextLine_45 : tbX7_nextLine 45 = (.invokestatic 57, 48, 99, 1, 0, 0, []) := rfl
theorem tX7_nextLine_48 : tbX7_nextLine 48 = (.iconst 1, 49, 0, 0, 0, 1, []) := rfl
theorem tX7_nextLine_49 : tbX7_nextLine 49 = (.iadd, 50, 0, 0, 0, 0, []) := rfl
theorem tX7_nextLine_50 : tbX7_nextLine 50 = (.iaload, 51, 0, 0, 0, 0, []) := rfl
theorem tX7_nextLine_51 : tbX7_nextLine 51 = (.aload_n 0, 52, 0, 0, 0, 0, []) := rfl
theorem tX7_nextLine_52 : tbX7_nextLine 52 = (.getfield 7, 55, 7, 0, 0, 0, [(0, 0)]) := rfl
theorem tX7_nextLine_55 : tbX7_nextLine 55 = (.iload_n 1, 56, 0, 0, 0, 0, []) := rfl
theorem tX7_nextLine_56 : tbX7_nextLine 56 = (.invokestatic 57, 59, 99, 1, 0, 0, []) := rfl
theorem tX7_nextLine_59 : tbX7_nextLine 59 = (.iconst 1, 60, 0, 0, 0, 1, []) := rfl
theorem tX7_nextLine_60 : tbX7_nextLine 60 = (.iadd, 61, 0, 0, 0, 0, []) := rfl
theorem tX7_nextLine_61 : tbX7_nextLine 61 = (.iaload, 62, 0, 0, 0, 0, []) := rfl
theorem tX7_nextLine_62 : tbX7_nextLine 62 = (.if_icmp .le 7, 65, 69, 0, 0, 0, []) := rfl
theorem tX7_nextLine_65 : tbX7_nextLine 65 = (.iconst 1, 66, 0, 0, 0, 1, []) := rfl
theorem tX7_nextLine_66 : tbX7_nextLine 66 = (.goto 4, 69, 70, 0, 0, 0, []) := rfl
theorem tX7_nextLine_69 : tbX7_nextLine 69 = (.iconst 0, 70, 0, 0, 0, 0, []) := rfl
theorem tX7_nextLine_70 : tbX7_nextLine 70 = (.istore_n 3, 71, 0, 0, 0, 0, []) := rfl
theorem tX7_nextLine_71 : tbX7_nextLine 71 = (.iload_n 3, 72, 0, 0, 0, 0, []) := rfl
theorem tX7_nextLine_72 : tbX7_nextLine 72 = (.ifCond .eq 12, 75, 84, 0, 0, 0, []) := rfl
theorem tX7_nextLine_75 : tbX7_nextLine 75 = (.aload_n 0, 76, 0, 0, 0, 0, []) := rfl
theorem tX7_nextLine_76 : tbX7_nextLine 76 = (.getfield 19, 79, 7, 3, 0, 0, [(0, 0)]) := rfl
theorem tX7_nextLine_79 : tbX7_nextLine 79 = (.iload_n 2, 80, 0, 0, 0, 0, []) := rfl
theorem tX7_nextLine_80 : tbX7_nextLine 80 = (.iaload, 81, 0, 0, 0, 0, []) := rfl
theorem tX7_nextLine_81 : tbX7_nextLine 81 = (.goto 4, 84, 85, 0, 0, 0, []) := rfl
theorem tX7_nextLine_84 : tbX7_nextLine 84 = (.iload_n 1, 85, 0, 0, 0, 0, []) := rfl
theorem tX7_nextLine_85 : tbX7_nextLine 85 = (.istore_n 1, 86, 0, 0, 0, 0, []) := rfl
theorem tX7_nextLine_86 : tbX7_nextLine 86 = (.iinc 2 1, 89, 0, 0, 0, 1, []) := rfl
theorem tX7_nextLine_89 : tbX7_nextLine 89 = (.goto (-81), 92, 8, 0, 0, 0, []) := rfl
theorem tX7_nextLine_92 : tbX7_nextLine 92 = (.iload_n 1, 93, 0, 0, 0, 0, []) := rfl
theorem tX7_nextLine_93 : tbX7_nextLine 93 = (.ireturn, 94, 0, 0, 0, 0, []) := rfl
def ltX7_turnBehind : List (Nat × pm_E) := [(0, .iload_n 1, 1, 0, 0, 0, 0, []), (1, .invokestatic 39, 4, 98, 1, 0, 0, []), (4, .iconst 4, 5, 0, 0, 0, 4, []), (5, .iadd, 6, 0, 0, 0, 0, []), (6, .istore_n 3, 7, 0, 0, 0, 0, []), (7, .iload_n 3, 8, 0, 0, 0, 0, []), (8, .aload_n 0, 9, 0, 0, 0, 0, []), (9, .getfield 7, 12, 7, 0, 0, 0, [(0, 0)]), (12, .iload_n 1, 13, 0, 0, 0, 0, []), (13, .invokestatic 39, 16, 98, 1, 0, 0, []), (16, .iconst 3, 17, 0, 0, 0, 3, []), (17, .iadd, 18, 0, 0, 0, 0, []), (18, .iaload, 19, 0, 0, 0, 0, []), (19, .iadd, 20, 0, 0, 0, 0, []), (20, .iconst 1, 21, 0, 0, 0, 1, []), (21, .isub, 22, 0, 0, 0, 0, []), (22, .istore 4, 24, 0, 0, 0, 0, []), (24, .aload_n 0, 25, 0, 0, 0, 0, []), (25, .getfield 7, 28, 7, 0, 0, 0, [(0, 0)]), (28, .iload_n 3, 29, 0, 0, 0, 0, []), (29, .iaload, 30, 0, 0, 0, 0, []), (30, .iload_n 2, 31, 0, 0, 0, 0, []), (31, .if_icmp .eq 9, 34, 40, 0, 0, 0, []), (34, .iinc 3 1, 37, 0, 0, 0, 1, []), (37, .goto (-13), 40, 24, 0, 0, 0, []), (40, .iload_n 3, 41, 0, 0, 0, 0, []), (41, .iload 4, 43, 0, 0, 0, 0, []), (43, .if_icmp .ge 23, 46, 66, 0, 0, 0, []), (46, .aload_n 0, 47, 0, 0, 0, 0, []), (47, .getfield 7, 50, 7, 0, 0, 0, [(0, 0)]), (50, .iload_n 3, 51, 0, 0, 0, 0, []), (51, .aload_n 0, 52, 0, 0, 0, 0, []), (52, .getfield 7, 55, 7, 0, 0, 0, [(0, 0)]), (55, .iload_n 3, 56, 0, 0, 0, 0, []), (56, .iconst 1, 57, 0, 0, 0, 1, []), (57, .iadd, 58, 0, 0, 0, 0, []), (58, .iaload, 59, 0, 0, 0, 0, []), (59, .iastore, 60, 0, 0, 0, 0, []), (60, .iinc 3 1, 63, 0, 0, 0, 1, []), (63, .goto (-23), 66, 40, 0, 0, 0, []), (66, .aload_n 0, 67, 0, 0, 0, 0, []), (67, .getfield 7, 70, 7, 0, 0, 0, [(0, 0)]), (70, .iload 4, 72, 0, 0, 0, 0, []), (72, .iload_n 2, 73, 0, 0, 0, 0, []), (73, .iastore, 74, 0, 0, 0, 0, []), (74, .return_, 75, 0, 0, 0, 0, [])]
def tbX7_turnBehind : Nat → pm_E := pm_lk ltX7_turnBehind
theorem okX7_turnBehind : ∀ pc, (tbX7_turnBehind pc).1 = .nop ∨ pm_ok mX7_turnBehind pw_Ms pc (tbX7_turnBehind pc) := pm_lk_ok (by decide +kernel)
theorem nr_X7_turnBehind : mX7_turnBehind.2.2.2 = none := rfl
theorem tX7_turnBehind_0 : tbX7_turnBehind 0 = (.iload_n 1, 1, 0, 0, 0, 0, []) := rfl
theorem tX7_turnBehind_1 : tbX7_turnBehind 1 = (.invokestatic 39, 4, 98, 1, 0, 0, []) := rfl
theorem tX7_turnBehind_4 : tbX7_turnBehind 4 = (.iconst 4, 5, 0, 0, 0, 4, []) := rfl
theorem tX7_turnBehind_5 : tbX7_turnBehind 5 = (.iadd, 6, 0, 0, 0, 0, []) := rfl
theorem tX7_turnBehind_6 : tbX7_turnBehind 6 = (.istore_n 3, 7, 0, 0, 0, 0, []) := rfl
theorem tX7_turnBehind_7 : tbX7_turnBehind 7 = (.iload_n 3, 8, 0, 0, 0, 0, []) := rfl
theorem tX7_turnBehind_8 : tbX7_turnBehind 8 = (.aload_n 0, 9, 0, 0, 0, 0, []) := rfl
theorem tX7_turnBehind_9 : tbX7_turnBehind 9 = (.getfield 7, 12, 7, 0, 0, 0, [(0, 0)]) := rfl
theorem tX7_turnBehind_12 : tbX7_turnBehind 12 = (.iload_n 1, 13, 0, 0, 0, 0, []) := rfl
theorem tX7_turnBehind_13 : tbX7_turnBehind 13 = (.invokestatic 39, 16, 98, 1, 0, 0, []) := rfl
theorem tX7_turnBehind_16 : tbX7_turnBehind 16 = (.iconst 3, 17, 0, 0, 0, 3, []) := rfl
theorem tX7_turnBehind_17 : tbX7_turnBehind 17 = (.iadd, 18, 0, 0, 0, 0, []) := rfl
theorem tX7_turnBehind_18 : tbX7_turnBehind 18 = (.iaload, 19, 0, 0, 0, 0, []) := rfl
theorem tX7_turnBehind_19 : tbX7_turnBehind 19 = (.iadd, 20, 0, 0, 0, 0, []) := rfl
theorem tX7_turnBehind_20 : tbX7_turnBehind 20 = (.iconst 1, 21, 0, 0, 0, 1, []) := rfl
theorem tX7_turnBehind_21 : tbX7_turnBehind 21 = (.isub, 22, 0, 0, 0, 0, []) := rfl
theorem tX7_turnBehind_22 : tbX7_turnBehind 22 = (.istore 4, 24, 0, 0, 0, 0, []) := rfl
theorem tX7_turnBehind_24 : tbX7_turnBehind 24 = (.aload_n 0, 25, 0, 0, 0, 0, []) := rfl
theorem tX7_turnBehind_25 : tbX7_turnBehind 25 = (.getfield 7, 28, 7, 0, 0, 0, [(0, 0)]) := rfl
theorem tX7_turnBehind_28 : tbX7_turnBehind 28 = (.iload_n 3, 29, 0, 0, 0, 0, []) := rfl
theorem tX7_turnBehind_29 : tbX7_turnBehind 29 = (.iaload, 30, 0, 0, 0, 0, []) := rfl
theorem tX7_turnBehind_30 : tbX7_turnBehind 30 = (.iload_n 2, 31, 0, 0, 0, 0, []) := rfl
theorem tX7_turnBehind_31 : tbX7_turnBehind 31 = (.if_icmp .eq 9, 34, 40, 0, 0, 0, []) := rfl
theorem tX7_turnBehind_34 : tbX7_turnBehind 34 = (.iinc 3 1, 37, 0, 0, 0, 1, []) := rfl
theorem tX7_turnBehind_37 : tbX7_turnBehind 37 = (.goto (-13), 40, 24, 0, 0, 0, []) := rfl
theorem tX7_turnBehind_40 : tbX7_turnBehind 40 = (.iload_n 3, 41, 0, 0, 0, 0, []) := rfl
theorem tX7_turnBehind_41 : tbX7_turnBehind 41 = (.iload 4, 43, 0, 0, 0, 0, []) := rfl
theorem tX7_turnBehind_43 : tbX7_turnBehind 43 = (.if_icmp .ge 23, 46, 66, 0, 0, 0, []) := rfl
theorem tX7_turnBehind_46 : tbX7_turnBehind 46 = (.aload_n 0, 47, 0, 0, 0, 0, []) := rfl
theorem tX7_turnBehind_47 : tbX7_turnBehind 47 = (.getfield 7, 50, 7, 0, 0, 0, [(0, 0)]) := rfl
theorem tX7_turnBehind_50 : tbX7_turnBehind 50 = (.iload_n 3, 51, 0, 0, 0, 0, []) := rfl
theorem tX7_turnBehind_51 : tbX7_turnBehind 51 = (.aload_n 0, 52, 0, 0, 0, 0, []) := rfl
theorem tX7_turnBehind_52 : tbX7_turnBehind 52 = (.getfield 7, 55, 7, 0, 0, 0, [(0, 0)]) := rfl
theorem tX7_turnBehind_55 : tbX7_turnBehind 55 = (.iload_n 3, 56, 0, 0, 0, 0, []) := rfl
theorem tX7_turnBehind_56 : tbX7_turnBehind 56 = (.iconst 1, 57, 0, 0, 0, 1, []) := rfl
theorem tX7_turnBehind_57 : tbX7_turnBehind 57 = (.iadd, 58, 0, 0, 0, 0, []) := rfl
theorem tX7_turnBehind_58 : tbX7_turnBehind 58 = (.iaload, 59, 0, 0, 0, 0, []) := rfl
theorem tX7_turnBehind_59 : tbX7_turnBehind 59 = (.iastore, 60, 0, 0, 0, 0, []) := rfl
theorem tX7_turnBehind_60 : tbX7_turnBehind 60 = (.iinc 3 1, 63, 0, 0, 0, 1, []) := rfl
theorem tX7_turnBehind_63 : tbX7_turnBehind 63 = (.goto (-23), 66, 40, 0, 0, 0, []) := rfl
theorem tX7_turnBehind_66 : tbX7_turnBehind 66 = (.aload_n 0, 67, 0, 0, 0, 0, []) := rfl
theorem tX7_turnBehind_67 : tbX7_turnBehind 67 = (.getfield 7, 70, 7, 0, 0, 0, [(0, 0)]) := rfl
theorem tX7_turnBehind_70 : tbX7_turnBehind 70 = (.iload 4, 72, 0, 0, 0, 0, []) := rfl
theorem tX7_turnBehind_72 : tbX7_turnBehind 72 = (.iload_n 2, 73, 0, 0, 0, 0, []) := rfl
theorem tX7_turnBehind_73 : tbX7_turnBehind 73 = (.iastore, 74, 0, 0, 0, 0, []) := rfl
theorem tX7_turnBehind_74 : tbX7_turnBehind 74 = (.return_, 75, 0, 0, 0, 0, []) := rfl
def ltX7_turnWay : List (Nat × pm_E) := [(0, .iload_n 1, 1, 0, 0, 0, 0, []), (1, .istore_n 2, 2, 0, 0, 0, 0, []), (2, .aload_n 0, 3, 0, 0, 0, 0, []), (3, .getfield 7, 6, 7, 0, 0, 0, [(0, 0)]), (6, .iload_n 1, 7, 0, 0, 0, 0, []), (7, .invokestatic 57, 10, 99, 1, 0, 0, []), (10, .iconst 0, 11, 0, 0, 0, 0, []), (11, .iadd, 12, 0, 0, 0, 0, []), (12, .iaload, 13, 0, 0, 0, 0, []), (13, .istore_n 3, 14, 0, 0, 0, 0, []), (14, .iload_n 3, 15, 0, 0, 0, 0, []), (15, .ifCond .lt 44, 18, 59, 0, 0, 0, []), (18, .aload_n 0, 19, 0, 0, 0, 0, []), (19, .getfield 7, 22, 7, 0, 0, 0, [(0, 0)]), (22, .iload_n 3, 23, 0, 0, 0, 0, []), (23, .invokestatic 39, 26, 98, 1, 0, 0, []), (26, .iconst 1, 27, 0, 0, 0, 1, []), (27, .iadd, 28, 0, 0, 0, 0, []), (28, .iaload, 29, 0, 0, 0, 0, []), (29, .iconst 1, 30, 0, 0, 0, 1, []), (30, .if_icmp .ne 9, 33, 39, 0, 0, 0, []), (33, .aload_n 0, 34, 0, 0, 0, 0, []), (34, .iload_n 3, 35, 0, 0, 0, 0, []), (35, .iload_n 2, 36, 0, 0, 0, 0, []), (36, .invokevirtual 85, 39, 117, 2, 7, 0, []), (39, .bipush 100, 41, 0, 0, 0, 100, []), (41, .iload_n 3, 42, 0, 0, 0, 0, []), (42, .iadd, 43, 0, 0, 0, 0, []), (43, .istore_n 2, 44, 0, 0, 0, 0, []), (44, .aload_n 0, 45, 0, 0, 0, 0, []), (45, .getfield 7, 48, 7, 0, 0, 0, [(0, 0)]), (48, .iload_n 3, 49, 0, 0, 0, 0, []), (49, .invokestatic 39, 52, 98, 1, 0, 0, []), (52, .iconst 0, 53, 0, 0, 0, 0, []), (53, .iadd, 54, 0, 0, 0, 0, []), (54, .iaload, 55, 0, 0, 0, 0, []), (55, .istore_n 3, 56, 0, 0, 0, 0, []), (56, .goto (-42), 59, 14, 0, 0, 0, []), (59, .return_, 60, 0, 0, 0, 0, [])]
def tbX7_turnWay : Nat → pm_E := pm_lk ltX7_turnWay
theorem okX7_turnWay : ∀ pc, (tbX7_turnWay pc).1 = .nop ∨ pm_ok mX7_turnWay pw_Ms pc (tbX7_turnWay pc) := pm_lk_ok (by decide +kernel)
theorem nr_X7_turnWay : mX7_turnWay.2.2.2 = none := rfl
theorem tX7_turnWay_0 : tbX7_turnWay 0 = (.iload_n 1, 1, 0, 0, 0, 0, []) := rfl
theorem tX7_turnWay_1 : tbX7_turnWay 1 = (.istore_n 2, 2, 0, 0, 0, 0, []) := rfl
theorem tX7_turnWay_2 : tbX7_turnWay 2 = (.aload_n 0, 3, 0, 0, 0, 0, []) := rfl
theorem tX7_turnWay_3 : tbX7_turnWay 3 = (.getfield 7, 6, 7, 0, 0, 0, [(0, 0)]) := rfl
theorem tX7_turnWay_6 : tbX7_turnWay 6 = (.iload_n 1, 7, 0, 0, 0, 0, []) := rfl
theorem tX7_turnWay_7 : tbX7_turnWay 7 = (.invokestatic 57, 10, 99, 1, 0, 0, []) := rfl
theorem tX7_turnWay_10 : tbX7_turnWay 10 = (.iconst 0, 11, 0, 0, 0, 0, []) := rfl
theorem tX7_turnWay_11 : tbX7_turnWay 11 = (.iadd, 12, 0, 0, 0, 0, []) := rfl
theorem tX7_turnWay_12 : tbX7_turnWay 12 = (.iaload, 13, 0, 0, 0, 0, []) := rfl
theorem tX7_turnWay_13 : tbX7_turnWay 13 = (.istore_n 3, 14, 0, 0, 0, 0, []) := rfl
theorem tX7_turnWay_14 : tbX7_turnWay 14 = (.iload_n 3, 15, 0, 0, 0, 0, []) := rfl
theorem tX7_turnWay_15 : tbX7_turnWay 15 = (.ifCond .lt 44, 18, 59, 0, 0, 0, []) := rfl
theorem tX7_turnWay_18 : tbX7_turnWay 18 = (.aload_n 0, 19, 0, 0, 0, 0, []) := rfl
theorem tX7_turnWay_19 : tbX7_turnWay 19 = (.getfield 7, 22, 7, 0, 0, 0, [(0, 0)]) := rfl
theorem tX7_turnWay_22 : tbX7_turnWay 22 = (.iload_n 3, 23, 0, 0, 0, 0, []) := rfl
theorem tX7_turnWay_23 : tbX7_turnWay 23 = (.invokestatic 39, 26, 98, 1, 0, 0, []) := rfl
theorem tX7_turnWay_26 : tbX7_turnWay 26 = (.iconst 1, 27, 0, 0, 0, 1, []) := rfl
theorem tX7_turnWay_27 : tbX7_turnWay 27 = (.iadd, 28, 0, 0, 0, 0, []) := rfl
theorem tX7_turnWay_28 : tbX7_turnWay 28 = (.iaload, 29, 0, 0, 0, 0, []) := rfl
theorem tX7_turnWay_29 : tbX7_turnWay 29 = (.iconst 1, 30, 0, 0, 0, 1, []) := rfl
theorem tX7_turnWay_30 : tbX7_turnWay 30 = (.if_icmp .ne 9, 33, 39, 0, 0, 0, []) := rfl
theorem tX7_turnWay_33 : tbX7_turnWay 33 = (.aload_n 0, 34, 0, 0, 0, 0, []) := rfl
theorem tX7_turnWay_34 : tbX7_turnWay 34 = (.iload_n 3, 35, 0, 0, 0, 0, []) := rfl
theorem tX7_turnWay_35 : tbX7_turnWay 35 = (.iload_n 2, 36, 0, 0, 0, 0, []) := rfl
theorem tX7_turnWay_36 : tbX7_turnWay 36 = (.invokevirtual 85, 39, 117, 2, 7, 0, []) := rfl
theorem tX7_turnWay_39 : tbX7_turnWay 39 = (.bipush 100, 41, 0, 0, 0, 100, []) := rfl
theorem tX7_turnWay_41 : tbX7_turnWay 41 = (.iload_n 3, 42, 0, 0, 0, 0, []) := rfl
theorem tX7_turnWay_42 : tbX7_turnWay 42 = (.iadd, 43, 0, 0, 0, 0, []) := rfl
theorem tX7_turnWay_43 : tbX7_turnWay 43 = (.istore_n 2, 44, 0, 0, 0, 0, []) := rfl
theorem tX7_turnWay_44 : tbX7_turnWay 44 = (.aload_n 0, 45, 0, 0, 0, 0, []) := rfl
theorem tX7_turnWay_45 : tbX7_turnWay 45 = (.getfield 7, 48, 7, 0, 0, 0, [(0, 0)]) := rfl
theorem tX7_turnWay_48 : tbX7_turnWay 48 = (.iload_n 3, 49, 0, 0, 0, 0, []) := rfl
theorem tX7_turnWay_49 : tbX7_turnWay 49 = (.invokestatic 39, 52, 98, 1, 0, 0, []) := rfl
theorem tX7_turnWay_52 : tbX7_turnWay 52 = (.iconst 0, 53, 0, 0, 0, 0, []) := rfl
theorem tX7_turnWay_53 : tbX7_turnWay 53 = (.iadd, 54, 0, 0, 0, 0, []) := rfl
theorem tX7_turnWay_54 : tbX7_turnWay 54 = (.iaload, 55, 0, 0, 0, 0, []) := rfl
theorem tX7_turnWay_55 : tbX7_turnWay 55 = (.istore_n 3, 56, 0, 0, 0, 0, []) := rfl
theorem tX7_turnWay_56 : tbX7_turnWay 56 = (.goto (-42), 59, 14, 0, 0, 0, []) := rfl
theorem tX7_turnWay_59 : tbX7_turnWay 59 = (.return_, 60, 0, 0, 0, 0, []) := rfl
def ltX7_goTake : List (Nat × pm_E) := [(0, .iload_n 1, 1, 0, 0, 0, 0, []), (1, .invokestatic 57, 4, 99, 1, 0, 0, []), (4, .istore_n 2, 5, 0, 0, 0, 0, []), (5, .aload_n 0, 6, 0, 0, 0, 0, []), (6, .getfield 7, 9, 7, 0, 0, 0, [(0, 0)]), (9, .bipush 11, 11, 0, 0, 0, 11, []), (11, .aload_n 0, 12, 0, 0, 0, 0, []), (12, .getfield 7, 15, 7, 0, 0, 0, [(0, 0)]), (15, .bipush 10, 17, 0, 0, 0, 10, []), (17, .iaload, 18, 0, 0, 0, 0, []), (18, .iadd, 19, 0, 0, 0, 0, []), (19, .iload_n 1, 20, 0, 0, 0, 0, []), (20, .iastore, 21, 0, 0, 0, 0, []), (21, .aload_n 0, 22, 0, 0, 0, 0, []), (22, .getfield 7, 25, 7, 0, 0, 0, [(0, 0)]), (25, .bipush 10, 27, 0, 0, 0, 10, []), (27, .dup2, 28, 0, 0, 0, 0, []), (28, .iaload, 29, 0, 0, 0, 0, []), (29, .iconst 1, 30, 0, 0, 0, 1, []), (30, .iadd, 31, 0, 0, 0, 0, []), (31, .iastore, 32, 0, 0, 0, 0, []), (32, .aload_n 0, 33, 0, 0, 0, 0, []), (33, .getfield 7, 36, 7, 0, 0, 0, [(0, 0)]), (36, .iload_n 2, 37, 0, 0, 0, 0, []), (37, .iconst 4, 38, 0, 0, 0, 4, []), (38, .iadd, 39, 0, 0, 0, 0, []), (39, .iconst 1, 40, 0, 0, 0, 1, []), (40, .iastore, 41, 0, 0, 0, 0, []), (41, .aload_n 0, 42, 0, 0, 0, 0, []), (42, .getfield 7, 45, 7, 0, 0, 0, [(0, 0)]), (45, .iload_n 2, 46, 0, 0, 0, 0, []), (46, .bipush 8, 48, 0, 0, 0, 8, []), (48, .iadd, 49, 0, 0, 0, 0, []), (49, .dup2, 50, 0, 0, 0, 0, []), (50, .iaload, 51, 0, 0, 0, 0, []), (51, .iconst 1, 52, 0, 0, 0, 1, []), (52, .iadd, 53, 0, 0, 0, 0, []), (53, .iastore, 54, 0, 0, 0, 0, []), (54, .aload_n 0, 55, 0, 0, 0, 0, []), (55, .getfield 7, 58, 7, 0, 0, 0, [(0, 0)]), (58, .iload_n 2, 59, 0, 0, 0, 0, []), (59, .iconst 2, 60, 0, 0, 0, 2, []), (60, .iadd, 61, 0, 0, 0, 0, []), (61, .iaload, 62, 0, 0, 0, 0, []), (62, .ifCond .ne 78, 65, 140, 0, 0, 0, []), (65, .aload_n 0, 66, 0, 0, 0, 0, []), (66, .getfield 7, 69, 7, 0, 0, 0, [(0, 0)]), (69, .iconst 0, 70, 0, 0, 0, 0, []), (70, .iaload, 71, 0, 0, 0, 0, []), (71, .aload_n 0, 72, 0, 0, 0, 0, []), (72, .getfield 7, 75, 7, 0, 0, 0, [(0, 0)]), (75, .iload_n 2, 76, 0, 0, 0, 0, []), (76, .bipush 10, 78, 0, 0, 0, 10, []), (78, .iadd, 79, 0, 0, 0, 0, []), (79, .iaload, 80, 0, 0, 0, 0, []), (80, .isub, 81, 0, 0, 0, 0, []), (81, .istore_n 3, 82, 0, 0, 0, 0, []), (82, .aload_n 0, 83, 0, 0, 0, 0, []), (83, .getfield 7, 86, 7, 0, 0, 0, [(0, 0)]), (86, .iload_n 2, 87, 0, 0, 0, 0, []), (87, .iconst 3, 88, 0, 0, 0, 3, []), (88, .iadd, 89, 0, 0, 0, 0, []), (89, .iconst 0, 90, 0, 0, 0, 0, []), (90, .iastore, 91, 0, 0, 0, 0, []), (91, .aload_n 0, 92, 0, 0, 0, 0, []), (92, .getfield 7, 95, 7, 0, 0, 0, [(0, 0)]), (95, .iload_n 2, 96, 0, 0, 0, 0, []), (96, .bipush 9, 98, 0, 0, 0, 9, []), (98, .iadd, 99, 0, 0, 0, 0, []), (99, .iload_n 3, 100, 0, 0, 0, 0, []), (100, .aload_n 0, 101, 0, 0, 0, 0, []), (101, .getfield 7, 104, 7, 0, 0, 0, [(0, 0)]), (104, .iload_n 2, 105, 0, 0, 0, 0, []), (105, .bipush 9, 107, 0, 0, 0, 9, []), (107, .iadd, 108, 0, 0, 0, 0, []), (108, .iaload, 109, 0, 0, 0, 0, []), (109, .if_icmp .le 7, 112, 116, 0, 0, 0, []), (112, .iload_n 3, 113, 0, 0, 0, 0, []), (113, .goto 12, 116, 125, 0, 0, 0, []), (116, .aload_n 0, 117, 0, 0, 0, 0, []), (117, .getfield 7, 120, 7, 0, 0, 0, [(0, 0)]), (120, .iload_n 2, 121, 0, 0, 0, 0, []), (121, .bipush 9, 123, 0, 0, 0, 9, []), (123, .iadd, 124, 0, 0, 0, 0, []), (124, .iaload, 125, 0, 0, 0, 0, []), (125, .iastore, 126, 0, 0, 0, 0, []), (126, .aload_n 0, 127, 0, 0, 0, 0, []), (127, .getfield 7, 130, 7, 0, 0, 0, [(0, 0)]), (130, .bipush 7, 132, 0, 0, 0, 7, []), (132, .dup2, 133, 0, 0, 0, 0, []), (133, .iaload, 134, 0, 0, 0, 0, []), (134, .iconst 1, 135, 0, 0, 0, 1, []), (135, .iadd, 136, 0, 0, 0, 0, []), (136, .iastore, 137, 0, 0, 0, 0, []), (137, .goto 14, 140, 151, 0, 0, 0, []), (140, .aload_n 0, 141, 0, 0, 0, 0, []), (141, .getfield 7, 144, 7, 0, 0, 0, [(0, 0)]), (144, .bipush 8, 146, 0, 0, 0, 8, []), (146, .dup2, 147, 0, 0, 0, 0, []), (147, .iaload, 148, 0, 0, 0, 0, []), (148, .iconst 1, 149, 0, 0, 0, 1, []), (149, .iadd, 150, 0, 0, 0, 0, []), (150, .iastore, 151, 0, 0, 0, 0, []), (151, .aload_n 0, 152, 0, 0, 0, 0, []), (152, .iload_n 1, 153, 0, 0, 0, 0, []), (153, .invokevirtual 88, 156, 118, 1, 7, 0, []), (156, .return_, 157, 0, 0, 0, 0, [])]
def tbX7_goTake : Nat → pm_E := pm_lk ltX7_goTake
theorem okX7_goTake : ∀ pc, (tbX7_goTake pc).1 = .nop ∨ pm_ok mX7_goTake pw_Ms pc (tbX7_goTake pc) := pm_lk_ok (by decide +kernel)
theorem nr_X7_goTake : mX7_goTake.2.2.2 = none := rfl
set_option maxRecDepth 20000 in
theorem tX7_goTake_0 : tbX7_goTake 0 = (.iload_n 1, 1, 0, 0, 0, 0, []) := rfl
set_option maxRecDepth 20000 in
theorem tX7_goTake_1 : tbX7_goTake 1 = (.invokestatic 57, 4, 99, 1, 0, 0, []) := rfl
set_option maxRecDepth 20000 in
theorem tX7_goTake_4 : tbX7_goTake 4 = (.istore_n 2, 5, 0, 0, 0, 0, []) := rfl
set_option maxRecDepth 20000 in
theorem tX7_goTake_5 : tbX7_goTake 5 = (.aload_n 0, 6, 0, 0, 0, 0, []) := rfl
set_option maxRecDepth 20000 in
theorem tX7_goTake_6 : tbX7_goTake 6 = (.getfield 7, 9, 7, 0, 0, 0, [(0, 0)]) := rfl
set_option maxRecDepth 20000 in
theorem tX7_goTake_9 : tbX7_goTake 9 = (.bipush 11, 11, 0, 0, 0, 11, []) := rfl
set_option maxRecDepth 20000 in
theorem tX7_goTake_11 : tbX7_goTake 11 = (.aload_n 0, 12, 0, 0, 0, 0, []) := rfl
set_option maxRecDepth 20000 in
theorem tX7_goTake_12 : tbX7_goTake 12 = (.getfield 7, 15, 7, 0, 0, 0, [(0, 0)]) := rfl
set_option maxRecDepth 20000 in
theorem tX7_goTake_15 : tbX7_goTake 15 = (.bipush 10, 17, 0, 0, 0, 10, []) := rfl
set_option maxRecDepth 20000 in
theorem tX7_goTake_17 : tbX7_goTake 17 = (.iaload, 18, 0, 0, 0, 0, []) := rfl
set_option maxRecDepth 20000 in
theorem tX7_goTake_18 : tbX7_goTake 18 = (.iadd, 19, 0, 0, 0, 0, []) := rfl
set_option maxRecDepth 20000 in
theorem tX7_goTake_19 : tbX7_goTake 19 = (.iload_n 1, 20, 0, 0, 0, 0, []) := rfl
set_option maxRecDepth 20000 in
theorem tX7_goTake_20 : tbX7_goTake 20 = (.iastore, 21, 0, 0, 0, 0, []) := rfl
set_option maxRecDepth 20000 in
theorem tX7_goTake_21 : tbX7_goTake 21 = (.aload_n 0, 22, 0, 0, 0, 0, []) := rfl
set_option maxRecDepth 20000 in
theorem tX7_goTake_22 : tbX7_goTake 22 = (.getfield 7, 25, 7, 0, 0, 0, [(0, 0)]) := rfl
set_option maxRecDepth 20000 in
theorem tX7_goTake_25 : tbX7_goTake 25 = (.bipush 10, 27, 0, 0, 0, 10, []) := rfl
set_option maxRecDepth 20000 in
theorem tX7_goTake_27 : tbX7_goTake 27 = (.dup2, 28, 0, 0, 0, 0, []) := rfl
set_option maxRecDepth 20000 in
theorem tX7_goTake_28 : tbX7_goTake 28 = (.iaload, 29, 0, 0, 0, 0, []) := rfl
set_option maxRecDepth 20000 in
theorem tX7_goTake_29 : tbX7_goTake 29 = (.iconst 1, 30, 0, 0, 0, 1, []) := rfl
set_option maxRecDepth 20000 in
theorem tX7_goTake_30 : tbX7_goTake 30 = (.iadd, 31, 0, 0, 0, 0, []) := rfl
set_option maxRecDepth 20000 in
theorem tX7_goTake_31 : tbX7_goTake 31 = (.iastore, 32, 0, 0, 0, 0, []) := rfl
set_option maxRecDepth 20000 in
theorem tX7_goTake_32 : tbX7_goTake 32 = (.aload_n 0, 33, 0, 0, 0, 0, []) := rfl
set_option maxRecDepth 20000 in
theorem tX7_goTake_33 : tbX7_goTake 33 = (.getfield 7, 36, 7, 0, 0, 0, [(0, 0)]) := rfl
set_option maxRecDepth 20000 in
theorem tX7_goTake_36 : tbX7_goTake 36 = (.iload_n 2, 37, 0, 0, 0, 0, []) := rfl
set_option maxRecDepth 20000 in
theorem tX7_goTake_37 : tbX7_goTake 37 = (.iconst 4, 38, 0, 0, 0, 4, []) := rfl
set_option maxRecDepth 20000 in
theorem tX7_goTake_38 : tbX7_goTake 38 = (.iadd, 39, 0, 0, 0, 0, []) := rfl
set_option maxRecDepth 20000 in
theorem tX7_goTake_39 : tbX7_goTake 39 = (.iconst 1, 40, 0, 0, 0, 1, []) := rfl
set_option maxRecDepth 20000 in
theorem tX7_goTake_40 : tbX7_goTake 40 = (.iastore, 41, 0, 0, 0, 0, []) := rfl
set_option maxRecDepth 20000 in
theorem tX7_goTake_41 : tbX7_goTake 41 = (.aload_n 0, 42, 0, 0, 0, 0, []) := rfl
set_option maxRecDepth 20000 in
theorem tX7_goTake_42 : tbX7_goTake 42 = (.getfield 7, 45, 7, 0, 0, 0, [(0, 0)]) := rfl
set_option maxRecDepth 20000 in
theorem tX7_goTake_45 : tbX7_goTake 45 = (.iload_n 2, 46, 0, 0, 0, 0, []) := rfl
set_option maxRecDepth 20000 in
theorem tX7_goTake_46 : tbX7_goTake 46 = (.bipush 8, 48, 0, 0, 0, 8, []) := rfl
set_option maxRecDepth 20000 in
theorem tX7_goTake_48 : tbX7_goTake 48 = (.iadd, 49, 0, 0, 0, 0, []) := rfl
set_option maxRecDepth 20000 in
theorem tX7_goTake_49 : tbX7_goTake 49 = (.dup2, 50, 0, 0, 0, 0, []) := rfl
set_option maxRecDepth 20000 in
theorem tX7_goTake_50 : tbX7_goTake 50 = (.iaload, 51, 0, 0, 0, 0, []) := rfl
set_option maxRecDepth 20000 in
theorem tX7_goTake_51 : tbX7_goTake 51 = (.iconst 1, 52, 0, 0, 0, 1, []) := rfl
set_option maxRecDepth 20000 in
theorem tX7_goTake_52 : tbX7_goTake 52 = (.iadd, 53, 0, 0, 0, 0, []) := rfl
set_option maxRecDepth 20000 in
theorem tX7_goTake_53 : tbX7_goTake 53 = (.iastore, 54, 0, 0, 0, 0, []) := rfl
set_option maxRecDepth 20000 in
theorem tX7_goTake_54 : tbX7_goTake 54 = (.aload_n 0, 55, 0, 0, 0, 0, []) := rfl
set_option maxRecDepth 20000 in
theorem tX7_goTake_55 : tbX7_goTake 55 = (.getfield 7, 58, 7, 0, 0, 0, [(0, 0)]) := rfl
set_option maxRecDepth 20000 in
theorem tX7_goTake_58 : tbX7_goTake 58 = (.iload_n 2, 59, 0, 0, 0, 0, []) := rfl
set_option maxRecDepth 20000 in
theorem tX7_goTake_59 : tbX7_goTake 59 = (.iconst 2, 60, 0, 0, 0, 2, []) := rfl
set_option maxRecDepth 20000 in
theorem tX7_goTake_60 : tbX7_goTake 60 = (.iadd, 61, 0, 0, 0, 0, []) := rfl
set_option maxRecDepth 20000 in
theorem tX7_goTake_61 : tbX7_goTake 61 = (.iaload, 62, 0, 0, 0, 0, []) := rfl
set_option maxRecDepth 20000 in
theorem tX7_goTake_62 : tbX7_goTake 62 = (.ifCond .ne 78, 65, 140, 0, 0, 0, []) := rfl
set_option maxRecDepth 20000 in
theorem tX7_goTake_65 : tbX7_goTake 65 = (.aload_n 0, 66, 0, 0, 0, 0, []) := rfl
set_option maxRecDepth 20000 in
theorem tX7_goTake_66 : tbX7_goTake 66 = (.getfield 7, 69, 7, 0, 0, 0, [(0, 0)]) := rfl
set_option maxRecDepth 20000 in
theorem tX7_goTake_69 : tbX7_goTake 69 = (.iconst 0, 70, 0, 0, 0, 0, []) := rfl
set_option maxRecDepth 20000 in
theorem tX7_goTake_70 : tbX7_goTake 70 = (.iaload, 71, 0, 0, 0, 0, []) := rfl
set_option maxRecDepth 20000 in
theorem tX7_goTake_71 : tbX7_goTake 71 = (.aload_n 0, 72, 0, 0, 0, 0, []) := rfl
set_option maxRecDepth 20000 in
theorem tX7_goTake_72 : tbX7_goTake 72 = (.getfield 7, 75, 7, 0, 0, 0, [(0, 0)]) := rfl
set_option maxRecDepth 20000 in
theorem tX7_goTake_75 : tbX7_goTake 75 = (.iload_n 2, 76, 0, 0, 0, 0, []) := rfl
set_option maxRecDepth 20000 in
theorem tX7_goTake_76 : tbX7_goTake 76 = (.bipush 10, 78, 0, 0, 0, 10, []) := rfl
set_option maxRecDepth 20000 in
theorem tX7_goTake_78 : tbX7_goTake 78 = (.iadd, 79, 0, 0, 0, 0, []) := rfl
set_option maxRecDepth 20000 in
theorem tX7_goTake_79 : tbX7_goTake 79 = (.iaload, 80, 0, 0, 0, 0, []) := rfl
set_option maxRecDepth 20000 in
theorem tX7_goTake_80 : tbX7_goTake 80 = (.isub, 81, 0, 0, 0, 0, []) := rfl
set_option maxRecDepth 20000 in
theorem tX7_goTake_81 : tbX7_goTake 81 = (.istore_n 3, 82, 0, 0, 0, 0, []) := rfl
set_option maxRecDepth 20000 in
theorem tX7_goTake_82 : tbX7_goTake 82 = (.aload_n 0, 83, 0, 0, 0, 0, []) := rfl
set_option maxRecDepth 20000 in
theorem tX7_goTake_83 : tbX7_goTake 83 = (.getfield 7, 86, 7, 0, 0, 0, [(0, 0)]) := rfl
set_option maxRecDepth 20000 in
theorem tX7_goTake_86 : tbX7_goTake 86 = (.iload_n 2, 87, 0, 0, 0, 0, []) := rfl
set_option maxRecDepth 20000 in
theorem tX7_goTake_87 : tbX7_goTake 87 = (.iconst 3, 88, 0, 0, 0, 3, []) := rfl
set_option maxRecDepth 20000 in
theorem tX7_goTake_88 : tbX7_goTake 88 = (.iadd, 89, 0, 0, 0, 0, []) := rfl
set_option maxRecDepth 20000 in
theorem tX7_goTake_89 : tbX7_goTake 89 = (.iconst 0, 90, 0, 0, 0, 0, []) := rfl
set_option maxRecDepth 20000 in
theorem tX7_goTake_90 : tbX7_goTake 90 = (.iastore, 91, 0, 0, 0, 0, []) := rfl
set_option maxRecDepth 20000 in
theorem tX7_goTake_91 : tbX7_goTake 91 = (.aload_n 0, 92, 0, 0, 0, 0, []) := rfl
set_option maxRecDepth 20000 in
theorem tX7_goTake_92 : tbX7_goTake 92 = (.getfield 7, 95, 7, 0, 0, 0, [(0, 0)]) := rfl
set_option maxRecDepth 20000 in
theorem tX7_goTake_95 : tbX7_goTake 95 = (.iload_n 2, 96, 0, 0, 0, 0, []) := rfl
set_option maxRecDepth 20000 in
theorem tX7_goTake_96 : tbX7_goTake 96 = (.bipush 9, 98, 0, 0, 0, 9, []) := rfl
set_option maxRecDepth 20000 in
theorem tX7_goTake_98 : tbX7_goTake 98 = (.iadd, 99, 0, 0, 0, 0, []) := rfl
set_option maxRecDepth 20000 in
theorem tX7_goTake_99 : tbX7_goTake 99 = (.iload_n 3, 100, 0, 0, 0, 0, []) := rfl
set_option maxRecDepth 20000 in
theorem tX7_goTake_100 : tbX7_goTake 100 = (.aload_n 0, 101, 0, 0, 0, 0, []) := rfl
set_option maxRecDepth 20000 in
theorem tX7_goTake_101 : tbX7_goTake 101 = (.getfield 7, 104, 7, 0, 0, 0, [(0, 0)]) := rfl
set_option maxRecDepth 20000 in
theorem tX7_goTake_104 : tbX7_goTake 104 = (.iload_n 2, 105, 0, 0, 0, 0, []) := rfl
set_option maxRecDepth 20000 in
theorem tX7_goTake_105 : tbX7_goTake 105 = (.bipush 9, 107, 0, 0, 0, 9, []) := rfl
set_option maxRecDepth 20000 in
theorem tX7_goTake_107 : tbX7_goTake 107 = (.iadd, 108, 0, 0, 0, 0, []) := rfl
set_option maxRecDepth 20000 in
theorem tX7_goTake_108 : tbX7_goTake 108 = (.iaload, 109, 0, 0, 0, 0, []) := rfl
set_option maxRecDepth 20000 in
theorem tX7_goTake_109 : tbX7_goTake 109 = (.if_icmp .le 7, 112, 116, 0, 0, 0, []) := rfl
set_option maxRecDepth 20000 in
theorem tX7_goTake_112 : tbX7_goTake 112 = (.iload_n 3, 113, 0, 0, 0, 0, []) := rfl
set_option maxRecDepth 20000 in
theorem tX7_goTake_113 : tbX7_goTake 113 = (.goto 12, 116, 125, 0, 0, 0, []) := rfl
set_option maxRecDepth 20000 in
theorem tX7_goTake_116 : tbX7_goTake 116 = (.aload_n 0, 117, 0, 0, 0, 0, []) := rfl
set_option maxRecDepth 20000 in
theorem tX7_goTake_117 : tbX7_goTake 117 = (.getfield 7, 120, 7, 0, 0, 0, [(0, 0)]) := rfl
set_option maxRecDepth 20000 in
theorem tX7_goTake_120 : tbX7_goTake 120 = (.iload_n 2, 121, 0, 0, 0, 0, []) := rfl
set_option maxRecDepth 20000 in
theorem tX7_goTake_121 : tbX7_goTake 121 = (.bipush 9, 123, 0, 0, 0, 9, []) := rfl
set_option maxRecDepth 20000 in
theorem tX7_goTake_123 : tbX7_goTake 123 = (.iadd, 124, 0, 0, 0, 0, []) := rfl
set_option maxRecDepth 20000 in
theorem tX7_goTake_124 : tbX7_goTake 124 = (.iaload, 125, 0, 0, 0, 0, []) := rfl
set_option maxRecDepth 20000 in
theorem tX7_goTake_125 : tbX7_goTake 125 = (.iastore, 126, 0, 0, 0, 0, []) := rfl
set_option maxRecDepth 20000 in
theorem tX7_goTake_126 : tbX7_goTake 126 = (.aload_n 0, 127, 0, 0, 0, 0, []) := rfl
set_option maxRecDepth 20000 in
theorem tX7_goTake_127 : tbX7_goTake 127 = (.getfield 7, 130, 7, 0, 0, 0, [(0, 0)]) := rfl
set_option maxRecDepth 20000 in
theorem tX7_goTake_130 : tbX7_goTake 130 = (.bipush 7, 132, 0, 0, 0, 7, []) := rfl
set_option maxRecDepth 20000 in
theorem tX7_goTake_132 : tbX7_goTake 132 = (.dup2, 133, 0, 0, 0, 0, []) := rfl
set_option maxRecDepth 20000 in
theorem tX7_goTake_133 : tbX7_goTake 133 = (.iaload, 134, 0, 0, 0, 0, []) := rfl
set_option maxRecDepth 20000 in
theorem tX7_goTake_134 : tbX7_goTake 134 = (.iconst 1, 135, 0, 0, 0, 1, []) := rfl
set_option maxRecDepth 20000 in
theorem tX7_goTake_135 : tbX7_goTake 135 = (.iadd, 136, 0, 0, 0, 0, []) := rfl
set_option maxRecDepth 20000 in
theorem tX7_goTake_136 : tbX7_goTake 136 = (.iastore, 137, 0, 0, 0, 0, []) := rfl
set_option maxRecDepth 20000 in
theorem tX7_goTake_137 : tbX7_goTake 137 = (.goto 14, 140, 151, 0, 0, 0, []) := rfl
set_option maxRecDepth 20000 in
theorem tX7_goTake_140 : tbX7_goTake 140 = (.aload_n 0, 141, 0, 0, 0, 0, []) := rfl
set_option maxRecDepth 20000 in
theorem tX7_goTake_141 : tbX7_goTake 141 = (.getfield 7, 144, 7, 0, 0, 0, [(0, 0)]) := rfl
set_option maxRecDepth 20000 in
theorem tX7_goTake_144 : tbX7_goTake 144 = (.bipush 8, 146, 0, 0, 0, 8, []) := rfl
set_option maxRecDepth 20000 in
theorem tX7_goTake_146 : tbX7_goTake 146 = (.dup2, 147, 0, 0, 0, 0, []) := rfl
set_option maxRecDepth 20000 in
theorem tX7_goTake_147 : tbX7_goTake 147 = (.iaload, 148, 0, 0, 0, 0, []) := rfl
set_option maxRecDepth 20000 in
theorem tX7_goTake_148 : tbX7_goTake 148 = (.iconst 1, 149, 0, 0, 0, 1, []) := rfl
set_option maxRecDepth 20000 in
theorem tX7_goTake_149 : tbX7_goTake 149 = (.iadd, 150, 0, 0, 0, 0, []) := rfl
set_option maxRecDepth 20000 in
theorem tX7_goTake_150 : tbX7_goTake 150 = (.iastore, 151, 0, 0, 0, 0, []) := rfl
set_option maxRecDepth 20000 in
theorem tX7_goTake_151 : tbX7_goTake 151 = (.aload_n 0, 152, 0, 0, 0, 0, []) := rfl
set_option maxRecDepth 20000 in
theorem tX7_goTake_152 : tbX7_goTake 152 = (.iload_n 1, 153, 0, 0, 0, 0, []) := rfl
set_option maxRecDepth 20000 in
theorem tX7_goTake_153 : tbX7_goTake 153 = (.invokevirtual 88, 156, 118, 1, 7, 0, []) := rfl
set_option maxRecDepth 20000 in
theorem tX7_goTake_156 : tbX7_goTake 156 = (.return_, 157, 0, 0, 0, 0, []) := rfl
def ltX7_goDone : List (Nat × pm_E) := [(0, .aload_n 0, 1, 0, 0, 0, 0, []), (1, .getfield 7, 4, 7, 0, 0, 0, [(0, 0)]), (4, .bipush 10, 6, 0, 0, 0, 10, []), (6, .dup2, 7, 0, 0, 0, 0, []), (7, .iaload, 8, 0, 0, 0, 0, []), (8, .iconst 1, 9, 0, 0, 0, 1, []), (9, .isub, 10, 0, 0, 0, 0, []), (10, .iastore, 11, 0, 0, 0, 0, []), (11, .aload_n 0, 12, 0, 0, 0, 0, []), (12, .getfield 7, 15, 7, 0, 0, 0, [(0, 0)]), (15, .bipush 11, 17, 0, 0, 0, 11, []), (17, .aload_n 0, 18, 0, 0, 0, 0, []), (18, .getfield 7, 21, 7, 0, 0, 0, [(0, 0)]), (21, .bipush 10, 23, 0, 0, 0, 10, []), (23, .iaload, 24, 0, 0, 0, 0, []), (24, .iadd, 25, 0, 0, 0, 0, []), (25, .iaload, 26, 0, 0, 0, 0, []), (26, .istore_n 1, 27, 0, 0, 0, 0, []), (27, .aload_n 0, 28, 0, 0, 0, 0, []), (28, .getfield 7, 31, 7, 0, 0, 0, [(0, 0)]), (31, .iload_n 1, 32, 0, 0, 0, 0, []), (32, .invokestatic 57, 35, 99, 1, 0, 0, []), (35, .iconst 4, 36, 0, 0, 0, 4, []), (36, .iadd, 37, 0, 0, 0, 0, []), (37, .iconst 2, 38, 0, 0, 0, 2, []), (38, .iastore, 39, 0, 0, 0, 0, []), (39, .aload_n 0, 40, 0, 0, 0, 0, []), (40, .getfield 7, 43, 7, 0, 0, 0, [(0, 0)]), (43, .iload_n 1, 44, 0, 0, 0, 0, []), (44, .invokestatic 57, 47, 99, 1, 0, 0, []), (47, .bipush 11, 49, 0, 0, 0, 11, []), (49, .iadd, 50, 0, 0, 0, 0, []), (50, .aload_n 0, 51, 0, 0, 0, 0, []), (51, .getfield 7, 54, 7, 0, 0, 0, [(0, 0)]), (54, .iconst 0, 55, 0, 0, 0, 0, []), (55, .iaload, 56, 0, 0, 0, 0, []), (56, .aload_n 0, 57, 0, 0, 0, 0, []), (57, .getfield 7, 60, 7, 0, 0, 0, [(0, 0)]), (60, .iconst 2, 61, 0, 0, 0, 2, []), (61, .iaload, 62, 0, 0, 0, 0, []), (62, .iadd, 63, 0, 0, 0, 0, []), (63, .iastore, 64, 0, 0, 0, 0, []), (64, .aload_n 0, 65, 0, 0, 0, 0, []), (65, .getfield 7, 68, 7, 0, 0, 0, [(0, 0)]), (68, .iload_n 1, 69, 0, 0, 0, 0, []), (69, .invokestatic 57, 72, 99, 1, 0, 0, []), (72, .bipush 12, 74, 0, 0, 0, 12, []), (74, .iadd, 75, 0, 0, 0, 0, []), (75, .aload_n 0, 76, 0, 0, 0, 0, []), (76, .getfield 7, 79, 7, 0, 0, 0, [(0, 0)]), (79, .bipush 15, 81, 0, 0, 0, 15, []), (81, .iaload, 82, 0, 0, 0, 0, []), (82, .iastore, 83, 0, 0, 0, 0, []), (83, .aload_n 0, 84, 0, 0, 0, 0, []), (84, .getfield 7, 87, 7, 0, 0, 0, [(0, 0)]), (87, .bipush 15, 89, 0, 0, 0, 15, []), (89, .dup2, 90, 0, 0, 0, 0, []), (90, .iaload, 91, 0, 0, 0, 0, []), (91, .iconst 1, 92, 0, 0, 0, 1, []), (92, .iadd, 93, 0, 0, 0, 0, []), (93, .iastore, 94, 0, 0, 0, 0, []), (94, .aload_n 0, 95, 0, 0, 0, 0, []), (95, .getfield 7, 98, 7, 0, 0, 0, [(0, 0)]), (98, .iconst 2, 99, 0, 0, 0, 2, []), (99, .iaload, 100, 0, 0, 0, 0, []), (100, .ifCond .ne 26, 103, 126, 0, 0, 0, []), (103, .aload_n 0, 104, 0, 0, 0, 0, []), (104, .getfield 7, 107, 7, 0, 0, 0, [(0, 0)]), (107, .iload_n 1, 108, 0, 0, 0, 0, []), (108, .invokestatic 57, 111, 99, 1, 0, 0, []), (111, .iconst 4, 112, 0, 0, 0, 4, []), (112, .iadd, 113, 0, 0, 0, 0, []), (113, .iconst 0, 114, 0, 0, 0, 0, []), (114, .iastore, 115, 0, 0, 0, 0, []), (115, .aload_n 0, 116, 0, 0, 0, 0, []), (116, .getfield 7, 119, 7, 0, 0, 0, [(0, 0)]), (119, .bipush 9, 121, 0, 0, 0, 9, []), (121, .dup2, 122, 0, 0, 0, 0, []), (122, .iaload, 123, 0, 0, 0, 0, []), (123, .iconst 1, 124, 0, 0, 0, 1, []), (124, .iadd, 125, 0, 0, 0, 0, []), (125, .iastore, 126, 0, 0, 0, 0, []), (126, .iload_n 1, 127, 0, 0, 0, 0, []), (127, .ireturn, 128, 0, 0, 0, 0, [])]
def tbX7_goDone : Nat → pm_E := pm_lk ltX7_goDone
theorem okX7_goDone : ∀ pc, (tbX7_goDone pc).1 = .nop ∨ pm_ok mX7_goDone pw_Ms pc (tbX7_goDone pc) := pm_lk_ok (by decide +kernel)
theorem nr_X7_goDone : mX7_goDone.2.2.2 = (some .int) := rfl
theorem tX7_goDone_0 : tbX7_goDone 0 = (.aload_n 0, 1, 0, 0, 0, 0, []) := rfl
theorem tX7_goDone_1 : tbX7_goDone 1 = (.getfield 7, 4, 7, 0, 0, 0, [(0, 0)]) := rfl
theorem tX7_goDone_4 : tbX7_goDone 4 = (.bipush 10, 6, 0, 0, 0, 10, []) := rfl
theorem tX7_goDone_6 : tbX7_goDone 6 = (.dup2, 7, 0, 0, 0, 0, []) := rfl
theorem tX7_goDone_7 : tbX7_goDone 7 = (.iaload, 8, 0, 0, 0, 0, []) := rfl
theorem tX7_goDone_8 : tbX7_goDone 8 = (.iconst 1, 9, 0, 0, 0, 1, []) := rfl
theorem tX7_goDone_9 : tbX7_goDone 9 = (.isub, 10, 0, 0, 0, 0, []) := rfl
theorem tX7_goDone_10 : tbX7_goDone 10 = (.iastore, 11, 0, 0, 0, 0, []) := rfl
theorem tX7_goDone_11 : tbX7_goDone 11 = (.aload_n 0, 12, 0, 0, 0, 0, []) := rfl
theorem tX7_goDone_12 : tbX7_goDone 12 = (.getfield 7, 15, 7, 0, 0, 0, [(0, 0)]) := rfl
theorem tX7_goDone_15 : tbX7_goDone 15 = (.bipush 11, 17, 0, 0, 0, 11, []) := rfl
theorem tX7_goDone_17 : tbX7_goDone 17 = (.aload_n 0, 18, 0, 0, 0, 0, []) := rfl
theorem tX7_goDone_18 : tbX7_goDone 18 = (.getfield 7, 21, 7, 0, 0, 0, [(0, 0)]) := rfl
theorem tX7_goDone_21 : tbX7_goDone 21 = (.bipush 10, 23, 0, 0, 0, 10, []) := rfl
theorem tX7_goDone_23 : tbX7_goDone 23 = (.iaload, 24, 0, 0, 0, 0, []) := rfl
theorem tX7_goDone_24 : tbX7_goDone 24 = (.iadd, 25, 0, 0, 0, 0, []) := rfl
theorem tX7_goDone_25 : tbX7_goDone 25 = (.iaload, 26, 0, 0, 0, 0, []) := rfl
theorem tX7_goDone_26 : tbX7_goDone 26 = (.istore_n 1, 27, 0, 0, 0, 0, []) := rfl
theorem tX7_goDone_27 : tbX7_goDone 27 = (.aload_n 0, 28, 0, 0, 0, 0, []) := rfl
theorem tX7_goDone_28 : tbX7_goDone 28 = (.getfield 7, 31, 7, 0, 0, 0, [(0, 0)]) := rfl
theorem tX7_goDone_31 : tbX7_goDone 31 = (.iload_n 1, 32, 0, 0, 0, 0, []) := rfl
theorem tX7_goDone_32 : tbX7_goDone 32 = (.invokestatic 57, 35, 99, 1, 0, 0, []) := rfl
theorem tX7_goDone_35 : tbX7_goDone 35 = (.iconst 4, 36, 0, 0, 0, 4, []) := rfl
theorem tX7_goDone_36 : tbX7_goDone 36 = (.iadd, 37, 0, 0, 0, 0, []) := rfl
theorem tX7_goDone_37 : tbX7_goDone 37 = (.iconst 2, 38, 0, 0, 0, 2, []) := rfl
theorem tX7_goDone_38 : tbX7_goDone 38 = (.iastore, 39, 0, 0, 0, 0, []) := rfl
theorem tX7_goDone_39 : tbX7_goDone 39 = (.aload_n 0, 40, 0, 0, 0, 0, []) := rfl
theorem tX7_goDone_40 : tbX7_goDone 40 = (.getfield 7, 43, 7, 0, 0, 0, [(0, 0)]) := rfl
theorem tX7_goDone_43 : tbX7_goDone 43 = (.iload_n 1, 44, 0, 0, 0, 0, []) := rfl
theorem tX7_goDone_44 : tbX7_goDone 44 = (.invokestatic 57, 47, 99, 1, 0, 0, []) := rfl
theorem tX7_goDone_47 : tbX7_goDone 47 = (.bipush 11, 49, 0, 0, 0, 11, []) := rfl
theorem tX7_goDone_49 : tbX7_goDone 49 = (.iadd, 50, 0, 0, 0, 0, []) := rfl
theorem tX7_goDone_50 : tbX7_goDone 50 = (.aload_n 0, 51, 0, 0, 0, 0, []) := rfl
theorem tX7_goDone_51 : tbX7_goDone 51 = (.getfield 7, 54, 7, 0, 0, 0, [(0, 0)]) := rfl
theorem tX7_goDone_54 : tbX7_goDone 54 = (.iconst 0, 55, 0, 0, 0, 0, []) := rfl
theorem tX7_goDone_55 : tbX7_goDone 55 = (.iaload, 56, 0, 0, 0, 0, []) := rfl
theorem tX7_goDone_56 : tbX7_goDone 56 = (.aload_n 0, 57, 0, 0, 0, 0, []) := rfl
theorem tX7_goDone_57 : tbX7_goDone 57 = (.getfield 7, 60, 7, 0, 0, 0, [(0, 0)]) := rfl
theorem tX7_goDone_60 : tbX7_goDone 60 = (.iconst 2, 61, 0, 0, 0, 2, []) := rfl
theorem tX7_goDone_61 : tbX7_goDone 61 = (.iaload, 62, 0, 0, 0, 0, []) := rfl
theorem tX7_goDone_62 : tbX7_goDone 62 = (.iadd, 63, 0, 0, 0, 0, []) := rfl
theorem tX7_goDone_63 : tbX7_goDone 63 = (.iastore, 64, 0, 0, 0, 0, []) := rfl
theorem tX7_goDone_64 : tbX7_goDone 64 = (.aload_n 0, 65, 0, 0, 0, 0, []) := rfl
theorem tX7_goDone_65 : tbX7_goDone 65 = (.getfield 7, 68, 7, 0, 0, 0, [(0, 0)]) := rfl
theorem tX7_goDone_68 : tbX7_goDone 68 = (.iload_n 1, 69, 0, 0, 0, 0, []) := rfl
theorem tX7_goDone_69 : tbX7_goDone 69 = (.invokestatic 57, 72, 99, 1, 0, 0, []) := rfl
theorem tX7_goDone_72 : tbX7_goDone 72 = (.bipush 12, 74, 0, 0, 0, 12, []) := rfl
theorem tX7_goDone_74 : tbX7_goDone 74 = (.iadd, 75, 0, 0, 0, 0, []) := rfl
theorem tX7_goDone_75 : tbX7_goDone 75 = (.aload_n 0, 76, 0, 0, 0, 0, []) := rfl
theorem tX7_goDone_76 : tbX7_goDone 76 = (.getfield 7, 79, 7, 0, 0, 0, [(0, 0)]) := rfl
theorem tX7_goDone_79 : tbX7_goDone 79 = (.bipush 15, 81, 0, 0, 0, 15, []) := rfl
theorem tX7_goDone_81 : tbX7_goDone 81 = (.iaload, 82, 0, 0, 0, 0, []) := rfl
theorem tX7_goDone_82 : tbX7_goDone 82 = (.iastore, 83, 0, 0, 0, 0, []) := rfl
theorem tX7_goDone_83 : tbX7_goDone 83 = (.aload_n 0, 84, 0, 0, 0, 0, []) := rfl
theorem tX7_goDone_84 : tbX7_goDone 84 = (.getfield 7, 87, 7, 0, 0, 0, [(0, 0)]) := rfl
theorem tX7_goDone_87 : tbX7_goDone 87 = (.bipush 15, 89, 0, 0, 0, 15, []) := rfl
theorem tX7_goDone_89 : tbX7_goDone 89 = (.dup2, 90, 0, 0, 0, 0, []) := rfl
theorem tX7_goDone_90 : tbX7_goDone 90 = (.iaload, 91, 0, 0, 0, 0, []) := rfl
theorem tX7_goDone_91 : tbX7_goDone 91 = (.iconst 1, 92, 0, 0, 0, 1, []) := rfl
theorem tX7_goDone_92 : tbX7_goDone 92 = (.iadd, 93, 0, 0, 0, 0, []) := rfl
theorem tX7_goDone_93 : tbX7_goDone 93 = (.iastore, 94, 0, 0, 0, 0, []) := rfl
theorem tX7_goDone_94 : tbX7_goDone 94 = (.aload_n 0, 95, 0, 0, 0, 0, []) := rfl
theorem tX7_goDone_95 : tbX7_goDone 95 = (.getfield 7, 98, 7, 0, 0, 0, [(0, 0)]) := rfl
theorem tX7_goDone_98 : tbX7_goDone 98 = (.iconst 2, 99, 0, 0, 0, 2, []) := rfl
theorem tX7_goDone_99 : tbX7_goDone 99 = (.iaload, 100, 0, 0, 0, 0, []) := rfl
theorem tX7_goDone_100 : tbX7_goDone 100 = (.ifCond .ne 26, 103, 126, 0, 0, 0, []) := rfl
theorem tX7_goDone_103 : tbX7_goDone 103 = (.aload_n 0, 104, 0, 0, 0, 0, []) := rfl
theorem tX7_goDone_104 : tbX7_goDone 104 = (.getfield 7, 107, 7, 0, 0, 0, [(0, 0)]) := rfl
theorem tX7_goDone_107 : tbX7_goDone 107 = (.iload_n 1, 108, 0, 0, 0, 0, []) := rfl
theorem tX7_goDone_108 : tbX7_goDone 108 = (.invokestatic 57, 111, 99, 1, 0, 0, []) := rfl
theorem tX7_goDone_111 : tbX7_goDone 111 = (.iconst 4, 112, 0, 0, 0, 4, []) := rfl
theorem tX7_goDone_112 : tbX7_goDone 112 = (.iadd, 113, 0, 0, 0, 0, []) := rfl
theorem tX7_goDone_113 : tbX7_goDone 113 = (.iconst 0, 114, 0, 0, 0, 0, []) := rfl
theorem tX7_goDone_114 : tbX7_goDone 114 = (.iastore, 115, 0, 0, 0, 0, []) := rfl
theorem tX7_goDone_115 : tbX7_goDone 115 = (.aload_n 0, 116, 0, 0, 0, 0, []) := rfl
theorem tX7_goDone_116 : tbX7_goDone 116 = (.getfield 7, 119, 7, 0, 0, 0, [(0, 0)]) := rfl
theorem tX7_goDone_119 : tbX7_goDone 119 = (.bipush 9, 121, 0, 0, 0, 9, []) := rfl
theorem tX7_goDone_121 : tbX7_goDone 121 = (.dup2, 122, 0, 0, 0, 0, []) := rfl
theorem tX7_goDone_122 : tbX7_goDone 122 = (.iaload, 123, 0, 0, 0, 0, []) := rfl
theorem tX7_goDone_123 : tbX7_goDone 123 = (.iconst 1, 124, 0, 0, 0, 1, []) := rfl
theorem tX7_goDone_124 : tbX7_goDone 124 = (.iadd, 125, 0, 0, 0, 0, []) := rfl
theorem tX7_goDone_125 : tbX7_goDone 125 = (.iastore, 126, 0, 0, 0, 0, []) := rfl
theorem tX7_goDone_126 : tbX7_goDone 126 = (.iload_n 1, 127, 0, 0, 0, 0, []) := rfl
theorem tX7_goDone_127 : tbX7_goDone 127 = (.ireturn, 128, 0, 0, 0, 0, []) := rfl
def ltX7_litState : List (Nat × pm_E) := [(0, .iload_n 1, 1, 0, 0, 0, 0, []), (1, .invokestatic 57, 4, 99, 1, 0, 0, []), (4, .istore_n 3, 5, 0, 0, 0, 0, []), (5, .iload_n 2, 6, 0, 0, 0, 0, []), (6, .tableswitch 113 4 10 #[42, 51, 60, 113, 113, 113, 74], 48, 119, 0, 0, 0, [(4, 48), (5, 57), (6, 66), (7, 119), (8, 119), (9, 119), (10, 80)]), (48, .aload_n 0, 49, 0, 0, 0, 0, []), (49, .getfield 7, 52, 7, 0, 0, 0, [(0, 0)]), (52, .iload_n 3, 53, 0, 0, 0, 0, []), (53, .iconst 4, 54, 0, 0, 0, 4, []), (54, .iadd, 55, 0, 0, 0, 0, []), (55, .iaload, 56, 0, 0, 0, 0, []), (56, .ireturn, 57, 0, 0, 0, 0, []), (57, .aload_n 0, 58, 0, 0, 0, 0, []), (58, .getfield 7, 61, 7, 0, 0, 0, [(0, 0)]), (61, .iload_n 3, 62, 0, 0, 0, 0, []), (62, .iconst 5, 63, 0, 0, 0, 5, []), (63, .iadd, 64, 0, 0, 0, 0, []), (64, .iaload, 65, 0, 0, 0, 0, []), (65, .ireturn, 66, 0, 0, 0, 0, []), (66, .aload_n 0, 67, 0, 0, 0, 0, []), (67, .iload_n 1, 68, 0, 0, 0, 0, []), (68, .invokevirtual 82, 71, 114, 1, 7, 0, []), (71, .ifCond .eq 7, 74, 78, 0, 0, 0, []), (74, .iconst 1, 75, 0, 0, 0, 1, []), (75, .goto 4, 78, 79, 0, 0, 0, []), (78, .iconst 0, 79, 0, 0, 0, 0, []), (79, .ireturn, 80, 0, 0, 0, 0, []), (80, .aload_n 0, 81, 0, 0, 0, 0, []), (81, .getfield 7, 84, 7, 0, 0, 0, [(0, 0)]), (84, .iload_n 3, 85, 0, 0, 0, 0, []), (85, .iconst 2, 86, 0, 0, 0, 2, []), (86, .iadd, 87, 0, 0, 0, 0, []), (87, .iaload, 88, 0, 0, 0, 0, []), (88, .iconst 1, 89, 0, 0, 0, 1, []), (89, .if_icmp .eq 15, 92, 104, 0, 0, 0, []), (92, .aload_n 0, 93, 0, 0, 0, 0, []), (93, .getfield 7, 96, 7, 0, 0, 0, [(0, 0)]), (96, .iload_n 3, 97, 0, 0, 0, 0, []), (97, .bipush 8, 99, 0, 0, 0, 8, []), (99, .iadd, 100, 0, 0, 0, 0, []), (100, .iaload, 101, 0, 0, 0, 0, []), (101, .ifCond .ne 8, 104, 109, 0, 0, 0, []), (104, .bipush (-4), 106, 0, 0, 0, -4, []), (106, .goto 12, 109, 118, 0, 0, 0, []), (109, .aload_n 0, 110, 0, 0, 0, 0, []), (110, .getfield 7, 113, 7, 0, 0, 0, [(0, 0)]), (113, .iload_n 3, 114, 0, 0, 0, 0, []), (114, .bipush 9, 116, 0, 0, 0, 9, []), (116, .iadd, 117, 0, 0, 0, 0, []), (117, .iaload, 118, 0, 0, 0, 0, []), (118, .ireturn, 119, 0, 0, 0, 0, []), (119, .aload_n 0, 120, 0, 0, 0, 0, []), (120, .getfield 7, 123, 7, 0, 0, 0, [(0, 0)]), (123, .iload_n 3, 124, 0, 0, 0, 0, []), (124, .iconst 4, 125, 0, 0, 0, 4, []), (125, .iadd, 126, 0, 0, 0, 0, []), (126, .iaload, 127, 0, 0, 0, 0, []), (127, .iconst 2, 128, 0, 0, 0, 2, []), (128, .if_icmp .ne 22, 131, 150, 0, 0, 0, []), (131, .aload_n 0, 132, 0, 0, 0, 0, []), (132, .getfield 7, 135, 7, 0, 0, 0, [(0, 0)]), (135, .iload_n 3, 136, 0, 0, 0, 0, []), (136, .bipush 11, 138, 0, 0, 0, 11, []), (138, .iadd, 139, 0, 0, 0, 0, []), (139, .iaload, 140, 0, 0, 0, 0, []), (140, .aload_n 0, 141, 0, 0, 0, 0, []), (141, .getfield 7, 144, 7, 0, 0, 0, [(0, 0)]), (144, .iconst 0, 145, 0, 0, 0, 0, []), (145, .iaload, 146, 0, 0, 0, 0, []), (146, .isub, 147, 0, 0, 0, 0, []), (147, .goto 5, 150, 152, 0, 0, 0, []), (150, .bipush (-4), 152, 0, 0, 0, -4, []), (152, .ireturn, 153, 0, 0, 0, 0, [])]
def tbX7_litState : Nat → pm_E := pm_lk ltX7_litState
theorem okX7_litState : ∀ pc, (tbX7_litState pc).1 = .nop ∨ pm_ok mX7_litState pw_Ms pc (tbX7_litState pc) := pm_lk_ok (by decide +kernel)
theorem nr_X7_litState : mX7_litState.2.2.2 = (some .int) := rfl
theorem tX7_litState_0 : tbX7_litState 0 = (.iload_n 1, 1, 0, 0, 0, 0, []) := rfl
theorem tX7_litState_1 : tbX7_litState 1 = (.invokestatic 57, 4, 99, 1, 0, 0, []) := rfl
theorem tX7_litState_4 : tbX7_litState 4 = (.istore_n 3, 5, 0, 0, 0, 0, []) := rfl
theorem tX7_litState_5 : tbX7_litState 5 = (.iload_n 2, 6, 0, 0, 0, 0, []) := rfl
theorem tX7_litState_6 : tbX7_litState 6 = (.tableswitch 113 4 10 #[42, 51, 60, 113, 113, 113, 74], 48, 119, 0, 0, 0, [(4, 48), (5, 57), (6, 66), (7, 119), (8, 119), (9, 119), (10, 80)]) := rfl
theorem tX7_litState_48 : tbX7_litState 48 = (.aload_n 0, 49, 0, 0, 0, 0, []) := rfl
theorem tX7_litState_49 : tbX7_litState 49 = (.getfield 7, 52, 7, 0, 0, 0, [(0, 0)]) := rfl
theorem tX7_litState_52 : tbX7_litState 52 = (.iload_n 3, 53, 0, 0, 0, 0, []) := rfl
theorem tX7_litState_53 : tbX7_litState 53 = (.iconst 4, 54, 0, 0, 0, 4, []) := rfl
theorem tX7_litState_54 : tbX7_litState 54 = (.iadd, 55, 0, 0, 0, 0, []) := rfl
theorem tX7_litState_55 : tbX7_litState 55 = (.iaload, 56, 0, 0, 0, 0, []) := rfl
theorem tX7_litState_56 : tbX7_litState 56 = (.ireturn, 57, 0, 0, 0, 0, []) := rfl
theorem tX7_litState_57 : tbX7_litState 57 = (.aload_n 0, 58, 0, 0, 0, 0, []) := rfl
theorem tX7_litState_58 : tbX7_litState 58 = (.getfield 7, 61, 7, 0, 0, 0, [(0, 0)]) := rfl
theorem tX7_litState_61 : tbX7_litState 61 = (.iload_n 3, 62, 0, 0, 0, 0, []) := rfl
theorem tX7_litState_62 : tbX7_litState 62 = (.iconst 5, 63, 0, 0, 0, 5, []) := rfl
theorem tX7_litState_63 : tbX7_litState 63 = (.iadd, 64, 0, 0, 0, 0, []) := rfl
theorem tX7_litState_64 : tbX7_litState 64 = (.iaload, 65, 0, 0, 0, 0, []) := rfl
theorem tX7_litState_65 : tbX7_litState 65 = (.ireturn, 66, 0, 0, 0, 0, []) := rfl
theorem tX7_litState_66 : tbX7_litState 66 = (.aload_n 0, 67, 0, 0, 0, 0, []) := rfl
theorem tX7_litState_67 : tbX7_litState 67 = (.iload_n 1, 68, 0, 0, 0, 0, []) := rfl
theorem tX7_litState_68 : tbX7_litState 68 = (.invokevirtual 82, 71, 114, 1, 7, 0, []) := rfl
theorem tX7_litState_71 : tbX7_litState 71 = (.ifCond .eq 7, 74, 78, 0, 0, 0, []) := rfl
theorem tX7_litState_74 : tbX7_litState 74 = (.iconst 1, 75, 0, 0, 0, 1, []) := rfl
theorem tX7_litState_75 : tbX7_litState 75 = (.goto 4, 78, 79, 0, 0, 0, []) := rfl
theorem tX7_litState_78 : tbX7_litState 78 = (.iconst 0, 79, 0, 0, 0, 0, []) := rfl
theorem tX7_litState_79 : tbX7_litState 79 = (.ireturn, 80, 0, 0, 0, 0, []) := rfl
theorem tX7_litState_80 : tbX7_litState 80 = (.aload_n 0, 81, 0, 0, 0, 0, []) := rfl
theorem tX7_litState_81 : tbX7_litState 81 = (.getfield 7, 84, 7, 0, 0, 0, [(0, 0)]) := rfl
theorem tX7_litState_84 : tbX7_litState 84 = (.iload_n 3, 85, 0, 0, 0, 0, []) := rfl
theorem tX7_litState_85 : tbX7_litState 85 = (.iconst 2, 86, 0, 0, 0, 2, []) := rfl
theorem tX7_litState_86 : tbX7_litState 86 = (.iadd, 87, 0, 0, 0, 0, []) := rfl
theorem tX7_litState_87 : tbX7_litState 87 = (.iaload, 88, 0, 0, 0, 0, []) := rfl
theorem tX7_litState_88 : tbX7_litState 88 = (.iconst 1, 89, 0, 0, 0, 1, []) := rfl
theorem tX7_litState_89 : tbX7_litState 89 = (.if_icmp .eq 15, 92, 104, 0, 0, 0, []) := rfl
theorem tX7_litState_92 : tbX7_litState 92 = (.aload_n 0, 93, 0, 0, 0, 0, []) := rfl
theorem tX7_litState_93 : tbX7_litState 93 = (.getfield 7, 96, 7, 0, 0, 0, [(0, 0)]) := rfl
theorem tX7_litState_96 : tbX7_litState 96 = (.iload_n 3, 97, 0, 0, 0, 0, []) := rfl
theorem tX7_litState_97 : tbX7_litState 97 = (.bipush 8, 99, 0, 0, 0, 8, []) := rfl
theorem tX7_litState_99 : tbX7_litState 99 = (.iadd, 100, 0, 0, 0, 0, []) := rfl
theorem tX7_litState_100 : tbX7_litState 100 = (.iaload, 101, 0, 0, 0, 0, []) := rfl
theorem tX7_litState_101 : tbX7_litState 101 = (.ifCond .ne 8, 104, 109, 0, 0, 0, []) := rfl
theorem tX7_litState_104 : tbX7_litState 104 = (.bipush (-4), 106, 0, 0, 0, -4, []) := rfl
theorem tX7_litState_106 : tbX7_litState 106 = (.goto 12, 109, 118, 0, 0, 0, []) := rfl
theorem tX7_litState_109 : tbX7_litState 109 = (.aload_n 0, 110, 0, 0, 0, 0, []) := rfl
theorem tX7_litState_110 : tbX7_litState 110 = (.getfield 7, 113, 7, 0, 0, 0, [(0, 0)]) := rfl
theorem tX7_litState_113 : tbX7_litState 113 = (.iload_n 3, 114, 0, 0, 0, 0, []) := rfl
theorem tX7_litState_114 : tbX7_litState 114 = (.bipush 9, 116, 0, 0, 0, 9, []) := rfl
theorem tX7_litState_116 : tbX7_litState 116 = (.iadd, 117, 0, 0, 0, 0, []) := rfl
theorem tX7_litState_117 : tbX7_litState 117 = (.iaload, 118, 0, 0, 0, 0, []) := rfl
theorem tX7_litState_118 : tbX7_litState 118 = (.ireturn, 119, 0, 0, 0, 0, []) := rfl
theorem tX7_litState_119 : tbX7_litState 119 = (.aload_n 0, 120, 0, 0, 0, 0, []) := rfl
theorem tX7_litState_120 : tbX7_litState 120 = (.getfield 7, 123, 7, 0, 0, 0, [(0, 0)]) := rfl
theorem tX7_litState_123 : tbX7_litState 123 = (.iload_n 3, 124, 0, 0, 0, 0, []) := rfl
theorem tX7_litState_124 : tbX7_litState 124 = (.iconst 4, 125, 0, 0, 0, 4, []) := rfl
theorem tX7_litState_125 : tbX7_litState 125 = (.iadd, 126, 0, 0, 0, 0, []) := rfl
theorem tX7_litState_126 : tbX7_litState 126 = (.iaload, 127, 0, 0, 0, 0, []) := rfl
theorem tX7_litState_127 : tbX7_litState 127 = (.iconst 2, 128, 0, 0, 0, 2, []) := rfl
theorem tX7_litState_128 : tbX7_litState 128 = (.if_icmp .ne 22, 131, 150, 0, 0, 0, []) := rfl
theorem tX7_litState_131 : tbX7_litState 131 = (.aload_n 0, 132, 0, 0, 0, 0, []) := rfl
theorem tX7_litState_132 : tbX7_litState 132 = (.getfield 7, 135, 7, 0, 0, 0, [(0, 0)]) := rfl
theorem tX7_litState_135 : tbX7_litState 135 = (.iload_n 3, 136, 0, 0, 0, 0, []) := rfl
theorem tX7_litState_136 : tbX7_litState 136 = (.bipush 11, 138, 0, 0, 0, 11, []) := rfl
theorem tX7_litState_138 : tbX7_litState 138 = (.iadd, 139, 0, 0, 0, 0, []) := rfl
theorem tX7_litState_139 : tbX7_litState 139 = (.iaload, 140, 0, 0, 0, 0, []) := rfl
theorem tX7_litState_140 : tbX7_litState 140 = (.aload_n 0, 141, 0, 0, 0, 0, []) := rfl
theorem tX7_litState_141 : tbX7_litState 141 = (.getfield 7, 144, 7, 0, 0, 0, [(0, 0)]) := rfl
theorem tX7_litState_144 : tbX7_litState 144 = (.iconst 0, 145, 0, 0, 0, 0, []) := rfl
theorem tX7_litState_145 : tbX7_litState 145 = (.iaload, 146, 0, 0, 0, 0, []) := rfl
theorem tX7_litState_146 : tbX7_litState 146 = (.isub, 147, 0, 0, 0, 0, []) := rfl
theorem tX7_litState_147 : tbX7_litState 147 = (.goto 5, 150, 152, 0, 0, 0, []) := rfl
theorem tX7_litState_150 : tbX7_litState 150 = (.bipush (-4), 152, 0, 0, 0, -4, []) := rfl
theorem tX7_litState_152 : tbX7_litState 152 = (.ireturn, 153, 0, 0, 0, 0, []) := rfl
def ltX7_lineOf : List (Nat × pm_E) := [(0, .aload_n 0, 1, 0, 0, 0, 0, []), (1, .iload_n 1, 2, 0, 0, 0, 0, []), (2, .invokevirtual 64, 5, 101, 1, 7, 0, []), (5, .ifCond .eq 13, 8, 18, 0, 0, 0, []), (8, .iload_n 2, 9, 0, 0, 0, 0, []), (9, .iconst 0, 10, 0, 0, 0, 0, []), (10, .bipush 11, 12, 0, 0, 0, 11, []), (12, .invokestatic 35, 15, 94, 3, 0, 0, []), (15, .ifCond .ne 5, 18, 20, 0, 0, 0, []), (18, .iconst (-1), 19, 0, 0, 0, -1, []), (19, .ireturn, 20, 0, 0, 0, 0, []), (20, .iload_n 2, 21, 0, 0, 0, 0, []), (21, .tableswitch 142 0 9 #[55, 67, 79, 91, 142, 142, 142, 103, 116, 129], 76, 163, 0, 0, 0, [(0, 76), (1, 88), (2, 100), (3, 112), (4, 163), (5, 163), (6, 163), (7, 124), (8, 137), (9, 150)]), (76, .aload_n 0, 77, 0, 0, 0, 0, []), (77, .getfield 7, 80, 7, 0, 0, 0, [(0, 0)]), (80, .iload_n 1, 81, 0, 0, 0, 0, []), (81, .invokestatic 57, 84, 99, 1, 0, 0, []), (84, .iconst 0, 85, 0, 0, 0, 0, []), (85, .iadd, 86, 0, 0, 0, 0, []), (86, .iaload, 87, 0, 0, 0, 0, []), (87, .ireturn, 88, 0, 0, 0, 0, []), (88, .aload_n 0, 89, 0, 0, 0, 0, []), (89, .getfield 7, 92, 7, 0, 0, 0, [(0, 0)]), (92, .iload_n 1, 93, 0, 0, 0, 0, []), (93, .invokestatic 57, 96, 99, 1, 0, 0, []), (96, .iconst 1, 97, 0, 0, 0, 1, []), (97, .iadd, 98, 0, 0, 0, 0, []), (98, .iaload, 99, 0, 0, 0, 0, []), (99, .ireturn, 100, 0, 0, 0, 0, []), (100, .aload_n 0, 101, 0, 0, 0, 0, []), (101, .getfield 7, 104, 7, 0, 0, 0, [(0, 0)]), (104, .iload_n 1, 105, 0, 0, 0, 0, []), (105, .invokestatic 57, 108, 99, 1, 0, 0, []), (108, .iconst 2, 109, 0, 0, 0, 2, []), (109, .iadd, 110, 0, 0, 0, 0, []), (110, .iaload, 111, 0, 0, 0, 0, []), (111, .ireturn, 112, 0, 0, 0, 0, []), (112, .aload_n 0, 113, 0, 0, 0, 0, []), (113, .getfield 7, 116, 7, 0, 0, 0, [(0, 0)]), (116, .iload_n 1, 117, 0, 0, 0, 0, []), (117, .invokestatic 57, 120, 99, 1, 0, 0, []), (120, .iconst 3, 121, 0, 0, 0, 3, []), (121, .iadd, 122, 0, 0, 0, 0, []), (122, .iaload, 123, 0, 0, 0, 0, []), (123, .ireturn, 124, 0, 0, 0, 0, []), (124, .aload_n 0, 125, 0, 0, 0, 0, []), (125, .getfield 7, 128, 7, 0, 0, 0, [(0, 0)]), (128, .iload_n 1, 129, 0, 0, 0, 0, []), (129, .invokestatic 57, 132, 99, 1, 0, 0, []), (132, .bipush 6, 134, 0, 0, 0, 6, []), (134, .iadd, 135, 0, 0, 0, 0, []), (135, .iaload, 136, 0, 0, 0, 0, []), (136, .ireturn, 137, 0, 0, 0, 0, []), (137, .aload_n 0, 138, 0, 0, 0, 0, []), (138, .getfield 7, 141, 7, 0, 0, 0, [(0, 0)]), (141, .iload_n 1, 142, 0, 0, 0, 0, []), (142, .invokestatic 57, 145, 99, 1, 0, 0, []), (145, .bipush 7, 147, 0, 0, 0, 7, []), (147, .iadd, 148, 0, 0, 0, 0, []), (148, .iaload, 149, 0, 0, 0, 0, []), (149, .ireturn, 150, 0, 0, 0, 0, []), (150, .aload_n 0, 151, 0, 0, 0, 0, []), (151, .getfield 7, 154, 7, 0, 0, 0, [(0, 0)]), (154, .iload_n 1, 155, 0, 0, 0, 0, []), (155, .invokestatic 57, 158, 99, 1, 0, 0, []), (158, .bipush 8, 160, 0, 0, 0, 8, []), (160, .iadd, 161, 0, 0, 0, 0, []), (161, .iaload, 162, 0, 0, 0, 0, []), (162, .ireturn, 163, 0, 0, 0, 0, []), (163, .aload_n 0, 164, 0, 0, 0, 0, []), (164, .iload_n 1, 165, 0, 0, 0, 0, []), (165, .iload_n 2, 166, 0, 0, 0, 0, []), (166, .invokevirtual 92, 169, 121, 2, 7, 0, []), (169, .ireturn, 170, 0, 0, 0, 0, [])]
def tbX7_lineOf : Nat → pm_E := pm_lk ltX7_lineOf
theorem okX7_lineOf : ∀ pc, (tbX7_lineOf pc).1 = .nop ∨ pm_ok mX7_lineOf pw_Ms pc (tbX7_lineOf pc) := pm_lk_ok (by decide +kernel)
theorem nr_X7_lineOf : mX7_lineOf.2.2.2 = (some .int) := rfl
theorem tX7_lineOf_0 : tbX7_lineOf 0 = (.aload_n 0, 1, 0, 0, 0, 0, []) := rfl
theorem tX7_lineOf_1 : tbX7_lineOf 1 = (.iload_n 1, 2, 0, 0, 0, 0, []) := rfl
theorem tX7_lineOf_2 : tbX7_lineOf 2 = (.invokevirtual 64, 5, 101, 1, 7, 0, []) := rfl
theorem tX7_lineOf_5 : tbX7_lineOf 5 = (.ifCond .eq 13, 8, 18, 0, 0, 0, []) := rfl
theorem tX7_lineOf_8 : tbX7_lineOf 8 = (.iload_n 2, 9, 0, 0, 0, 0, []) := rfl
theorem tX7_lineOf_9 : tbX7_lineOf 9 = (.iconst 0, 10, 0, 0, 0, 0, []) := rfl
theorem tX7_lineOf_10 : tbX7_lineOf 10 = (.bipush 11, 12, 0, 0, 0, 11, []) := rfl
theorem tX7_lineOf_12 : tbX7_lineOf 12 = (.invokestatic 35, 15, 94, 3, 0, 0, []) := rfl
theorem tX7_lineOf_15 : tbX7_lineOf 15 = (.ifCond .ne 5, 18, 20, 0, 0, 0, []) := rfl
theorem tX7_lineOf_18 : tbX7_lineOf 18 = (.iconst (-1), 19, 0, 0, 0, -1, []) := rfl
theorem tX7_lineOf_19 : tbX7_lineOf 19 = (.ireturn, 20, 0, 0, 0, 0, []) := rfl
theorem tX7_lineOf_20 : tbX7_lineOf 20 = (.iload_n 2, 21, 0, 0, 0, 0, []) := rfl
theorem tX7_lineOf_21 : tbX7_lineOf 21 = (.tableswitch 142 0 9 #[55, 67, 79, 91, 142, 142, 142, 103, 116, 129], 76, 163, 0, 0, 0, [(0, 76), (1, 88), (2, 100), (3, 112), (4, 163), (5, 163), (6, 163), (7, 124), (8, 137), (9, 150)]) := rfl
theorem tX7_lineOf_76 : tbX7_lineOf 76 = (.aload_n 0, 77, 0, 0, 0, 0, []) := rfl
theorem tX7_lineOf_77 : tbX7_lineOf 77 = (.getfield 7, 80, 7, 0, 0, 0, [(0, 0)]) := rfl
theorem tX7_lineOf_80 : tbX7_lineOf 80 = (.iload_n 1, 81, 0, 0, 0, 0, []) := rfl
theorem tX7_lineOf_81 : tbX7_lineOf 81 = (.invokestatic 57, 84, 99, 1, 0, 0, []) := rfl
theorem tX7_lineOf_84 : tbX7_lineOf 84 = (.iconst 0, 85, 0, 0, 0, 0, []) := rfl
theorem tX7_lineOf_85 : tbX7_lineOf 85 = (.iadd, 86, 0, 0, 0, 0, []) := rfl
theorem tX7_lineOf_86 : tbX7_lineOf 86 = (.iaload, 87, 0, 0, 0, 0, []) := rfl
theorem tX7_lineOf_87 : tbX7_lineOf 87 = (.ireturn, 88, 0, 0, 0, 0, []) := rfl
theorem tX7_lineOf_88 : tbX7_lineOf 88 = (.aload_n 0, 89, 0, 0, 0, 0, []) := rfl
theorem tX7_lineOf_89 : tbX7_lineOf 89 = (.getfield 7, 92, 7, 0, 0, 0, [(0, 0)]) := rfl
theorem tX7_lineOf_92 : tbX7_lineOf 92 = (.iload_n 1, 93, 0, 0, 0, 0, []) := rfl
theorem tX7_lineOf_93 : tbX7_lineOf 93 = (.invokestatic 57, 96, 99, 1, 0, 0, []) := rfl
theorem tX7_lineOf_96 : tbX7_lineOf 96 = (.iconst 1, 97, 0, 0, 0, 1, []) := rfl
theorem tX7_lineOf_97 : tbX7_lineOf 97 = (.iadd, 98, 0, 0, 0, 0, []) := rfl
theorem tX7_lineOf_98 : tbX7_lineOf 98 = (.iaload, 99, 0, 0, 0, 0, []) := rfl
theorem tX7_lineOf_99 : tbX7_lineOf 99 = (.ireturn, 100, 0, 0, 0, 0, []) := rfl
theorem tX7_lineOf_100 : tbX7_lineOf 100 = (.aload_n 0, 101, 0, 0, 0, 0, []) := rfl
theorem tX7_lineOf_101 : tbX7_lineOf 101 = (.getfield 7, 104, 7, 0, 0, 0, [(0, 0)]) := rfl
theorem tX7_lineOf_104 : tbX7_lineOf 104 = (.iload_n 1, 105, 0, 0, 0, 0, []) := rfl
theorem tX7_lineOf_105 : tbX7_lineOf 105 = (.invokestatic 57, 108, 99, 1, 0, 0, []) := rfl
theorem tX7_lineOf_108 : tbX7_lineOf 108 = (.iconst 2, 109, 0, 0, 0, 2, []) := rfl
theorem tX7_lineOf_109 : tbX7_lineOf 109 = (.iadd, 110, 0, 0, 0, 0, []) := rfl
theorem tX7_lineOf_110 : tbX7_lineOf 110 = (.iaload, 111, 0, 0, 0, 0, []) := rfl
theorem tX7_lineOf_111 : tbX7_lineOf 111 = (.ireturn, 112, 0, 0, 0, 0, []) := rfl
theorem tX7_lineOf_112 : tbX7_lineOf 112 = (.aload_n 0, 113, 0, 0, 0, 0, []) := rfl
theorem tX7_lineOf_113 : tbX7_lineOf 113 = (.getfield 7, 116, 7, 0, 0, 0, [(0, 0)]) := rfl
theorem tX7_lineOf_116 : tbX7_lineOf 116 = (.iload_n 1, 117, 0, 0, 0, 0, []) := rfl
theorem tX7_lineOf_117 : tbX7_lineOf 117 = (.invokestatic 57, 120, 99, 1, 0, 0, []) := rfl
theorem tX7_lineOf_120 : tbX7_lineOf 120 = (.iconst 3, 121, 0, 0, 0, 3, []) := rfl
theorem tX7_lineOf_121 : tbX7_lineOf 121 = (.iadd, 122, 0, 0, 0, 0, []) := rfl
theorem tX7_lineOf_122 : tbX7_lineOf 122 = (.iaload, 123, 0, 0, 0, 0, []) := rfl
theorem tX7_lineOf_123 : tbX7_lineOf 123 = (.ireturn, 124, 0, 0, 0, 0, []) := rfl
theorem tX7_lineOf_124 : tbX7_lineOf 124 = (.aload_n 0, 125, 0, 0, 0, 0, []) := rfl
theorem tX7_lineOf_125 : tbX7_lineOf 125 = (.getfield 7, 128, 7, 0, 0, 0, [(0, 0)]) := rfl
theorem tX7_lineOf_128 : tbX7_lineOf 128 = (.iload_n 1, 129, 0, 0, 0, 0, []) := rfl
theorem tX7_lineOf_129 : tbX7_lineOf 129 = (.invokestatic 57, 132, 99, 1, 0, 0, []) := rfl
theorem tX7_lineOf_132 : tbX7_lineOf 132 = (.bipush 6, 134, 0, 0, 0, 6, []) := rfl
theorem tX7_lineOf_134 : tbX7_lineOf 134 = (.iadd, 135, 0, 0, 0, 0, []) := rfl
theorem tX7_lineOf_135 : tbX7_lineOf 135 = (.iaload, 136, 0, 0, 0, 0, []) := rfl
theorem tX7_lineOf_136 : tbX7_lineOf 136 = (.ireturn, 137, 0, 0, 0, 0, []) := rfl
theorem tX7_lineOf_137 : tbX7_lineOf 137 = (.aload_n 0, 138, 0, 0, 0, 0, []) := rfl
theorem tX7_lineOf_138 : tbX7_lineOf 138 = (.getfield 7, 141, 7, 0, 0, 0, [(0, 0)]) := rfl
theorem tX7_lineOf_141 : tbX7_lineOf 141 = (.iload_n 1, 142, 0, 0, 0, 0, []) := rfl
theorem tX7_lineOf_142 : tbX7_lineOf 142 = (.invokestatic 57, 145, 99, 1, 0, 0, []) := rfl
theorem tX7_lineOf_145 : tbX7_lineOf 145 = (.bipush 7, 147, 0, 0, 0, 7, []) := rfl
theorem tX7_lineOf_147 : tbX7_lineOf 147 = (.iadd, 148, 0, 0, 0, 0, []) := rfl
theorem tX7_lineOf_148 : tbX7_lineOf 148 = (.iaload, 149, 0, 0, 0, 0, []) := rfl
theorem tX7_lineOf_149 : tbX7_lineOf 149 = (.ireturn, 150, 0, 0, 0, 0, []) := rfl
theorem tX7_lineOf_150 : tbX7_lineOf 150 = (.aload_n 0, 151, 0, 0, 0, 0, []) := rfl
theorem tX7_lineOf_151 : tbX7_lineOf 151 = (.getfield 7, 154, 7, 0, 0, 0, [(0, 0)]) := rfl
theorem tX7_lineOf_154 : tbX7_lineOf 154 = (.iload_n 1, 155, 0, 0, 0, 0, []) := rfl
theorem tX7_lineOf_155 : tbX7_lineOf 155 = (.invokestatic 57, 158, 99, 1, 0, 0, []) := rfl
theorem tX7_lineOf_158 : tbX7_lineOf 158 = (.bipush 8, 160, 0, 0, 0, 8, []) := rfl
theorem tX7_lineOf_160 : tbX7_lineOf 160 = (.iadd, 161, 0, 0, 0, 0, []) := rfl
theorem tX7_lineOf_161 : tbX7_lineOf 161 = (.iaload, 162, 0, 0, 0, 0, []) := rfl
theorem tX7_lineOf_162 : tbX7_lineOf 162 = (.ireturn, 163, 0, 0, 0, 0, []) := rfl
theorem tX7_lineOf_163 : tbX7_lineOf 163 = (.aload_n 0, 164, 0, 0, 0, 0, []) := rfl
theorem tX7_lineOf_164 : tbX7_lineOf 164 = (.iload_n 1, 165, 0, 0, 0, 0, []) := rfl
theorem tX7_lineOf_165 : tbX7_lineOf 165 = (.iload_n 2, 166, 0, 0, 0, 0, []) := rfl
theorem tX7_lineOf_166 : tbX7_lineOf 166 = (.invokevirtual 92, 169, 121, 2, 7, 0, []) := rfl
theorem tX7_lineOf_169 : tbX7_lineOf 169 = (.ireturn, 170, 0, 0, 0, 0, []) := rfl
def ltX7_nodeOf : List (Nat × pm_E) := [(0, .aload_n 0, 1, 0, 0, 0, 0, []), (1, .iload_n 1, 2, 0, 0, 0, 0, []), (2, .invokevirtual 43, 5, 100, 1, 7, 0, []), (5, .ifCond .eq 12, 8, 17, 0, 0, 0, []), (8, .iload_n 2, 9, 0, 0, 0, 0, []), (9, .iconst 0, 10, 0, 0, 0, 0, []), (10, .iconst 5, 11, 0, 0, 0, 5, []), (11, .invokestatic 35, 14, 94, 3, 0, 0, []), (14, .ifCond .ne 5, 17, 19, 0, 0, 0, []), (17, .iconst (-1), 18, 0, 0, 0, -1, []), (18, .ireturn, 19, 0, 0, 0, 0, []), (19, .iload_n 2, 20, 0, 0, 0, 0, []), (20, .tableswitch 102 0 4 #[36, 57, 69, 81, 93], 56, 122, 0, 0, 0, [(0, 56), (1, 77), (2, 89), (3, 101), (4, 113)]), (56, .iload_n 1, 57, 0, 0, 0, 0, []), (57, .ifCond .ne 8, 60, 65, 0, 0, 0, []), (60, .bipush (-4), 62, 0, 0, 0, -4, []), (62, .goto 14, 65, 76, 0, 0, 0, []), (65, .aload_n 0, 66, 0, 0, 0, 0, []), (66, .getfield 7, 69, 7, 0, 0, 0, [(0, 0)]), (69, .iload_n 1, 70, 0, 0, 0, 0, []), (70, .invokestatic 39, 73, 98, 1, 0, 0, []), (73, .iconst 0, 74, 0, 0, 0, 0, []), (74, .iadd, 75, 0, 0, 0, 0, []), (75, .iaload, 76, 0, 0, 0, 0, []), (76, .ireturn, 77, 0, 0, 0, 0, []), (77, .aload_n 0, 78, 0, 0, 0, 0, []), (78, .getfield 7, 81, 7, 0, 0, 0, [(0, 0)]), (81, .iload_n 1, 82, 0, 0, 0, 0, []), (82, .invokestatic 39, 85, 98, 1, 0, 0, []), (85, .iconst 1, 86, 0, 0, 0, 1, []), (86, .iadd, 87, 0, 0, 0, 0, []), (87, .iaload, 88, 0, 0, 0, 0, []), (88, .ireturn, 89, 0, 0, 0, 0, []), (89, .aload_n 0, 90, 0, 0, 0, 0, []), (90, .getfield 7, 93, 7, 0, 0, 0, [(0, 0)]), (93, .iload_n 1, 94, 0, 0, 0, 0, []), (94, .invokestatic 39, 97, 98, 1, 0, 0, []), (97, .iconst 3, 98, 0, 0, 0, 3, []), (98, .iadd, 99, 0, 0, 0, 0, []), (99, .iaload, 100, 0, 0, 0, 0, []), (100, .ireturn, 101, 0, 0, 0, 0, []), (101, .aload_n 0, 102, 0, 0, 0, 0, []), (102, .getfield 7, 105, 7, 0, 0, 0, [(0, 0)]), (105, .iload_n 1, 106, 0, 0, 0, 0, []), (106, .invokestatic 39, 109, 98, 1, 0, 0, []), (109, .iconst 2, 110, 0, 0, 0, 2, []), (110, .iadd, 111, 0, 0, 0, 0, []), (111, .iaload, 112, 0, 0, 0, 0, []), (112, .ireturn, 113, 0, 0, 0, 0, []), (113, .aload_n 0, 114, 0, 0, 0, 0, []), (114, .iload_n 1, 115, 0, 0, 0, 0, []), (115, .invokevirtual 73, 118, 107, 1, 7, 0, []), (118, .invokestatic 70, 121, 108, 1, 0, 0, []), (121, .ireturn, 122, 0, 0, 0, 0, []), (122, .aload_n 0, 123, 0, 0, 0, 0, []), (123, .iload_n 1, 124, 0, 0, 0, 0, []), (124, .invokevirtual 73, 127, 107, 1, 7, 0, []), (127, .aload_n 0, 128, 0, 0, 0, 0, []), (128, .iconst 0, 129, 0, 0, 0, 0, []), (129, .invokevirtual 67, 132, 139, 1, 7, 0, []), (132, .iand, 133, 0, 0, 0, 0, []), (133, .ireturn, 134, 0, 0, 0, 0, [])]
def tbX7_nodeOf : Nat → pm_E := pm_lk ltX7_nodeOf
theorem okX7_nodeOf : ∀ pc, (tbX7_nodeOf pc).1 = .nop ∨ pm_ok mX7_nodeOf pw_Ms pc (tbX7_nodeOf pc) := pm_lk_ok (by decide +kernel)
theorem nr_X7_nodeOf : mX7_nodeOf.2.2.2 = (some .int) := rfl
theorem tX7_nodeOf_0 : tbX7_nodeOf 0 = (.aload_n 0, 1, 0, 0, 0, 0, []) := rfl
theorem tX7_nodeOf_1 : tbX7_nodeOf 1 = (.iload_n 1, 2, 0, 0, 0, 0, []) := rfl
theorem tX7_nodeOf_2 : tbX7_nodeOf 2 = (.invokevirtual 43, 5, 100, 1, 7, 0, []) := rfl
theorem tX7_nodeOf_5 : tbX7_nodeOf 5 = (.ifCond .eq 12, 8, 17, 0, 0, 0, []) := rfl
theorem tX7_nodeOf_8 : tbX7_nodeOf 8 = (.iload_n 2, 9, 0, 0, 0, 0, []) := rfl
theorem tX7_nodeOf_9 : tbX7_nodeOf 9 = (.iconst 0, 10, 0, 0, 0, 0, []) := rfl
theorem tX7_nodeOf_10 : tbX7_nodeOf 10 = (.iconst 5, 11, 0, 0, 0, 5, []) := rfl
theorem tX7_nodeOf_11 : tbX7_nodeOf 11 = (.invokestatic 35, 14, 94, 3, 0, 0, []) := rfl
theorem tX7_nodeOf_14 : tbX7_nodeOf 14 = (.ifCond .ne 5, 17, 19, 0, 0, 0, []) := rfl
theorem tX7_nodeOf_17 : tbX7_nodeOf 17 = (.iconst (-1), 18, 0, 0, 0, -1, []) := rfl
theorem tX7_nodeOf_18 : tbX7_nodeOf 18 = (.ireturn, 19, 0, 0, 0, 0, []) := rfl
theorem tX7_nodeOf_19 : tbX7_nodeOf 19 = (.iload_n 2, 20, 0, 0, 0, 0, []) := rfl
theorem tX7_nodeOf_20 : tbX7_nodeOf 20 = (.tableswitch 102 0 4 #[36, 57, 69, 81, 93], 56, 122, 0, 0, 0, [(0, 56), (1, 77), (2, 89), (3, 101), (4, 113)]) := rfl
theorem tX7_nodeOf_56 : tbX7_nodeOf 56 = (.iload_n 1, 57, 0, 0, 0, 0, []) := rfl
theorem tX7_nodeOf_57 : tbX7_nodeOf 57 = (.ifCond .ne 8, 60, 65, 0, 0, 0, []) := rfl
theorem tX7_nodeOf_60 : tbX7_nodeOf 60 = (.bipush (-4), 62, 0, 0, 0, -4, []) := rfl
theorem tX7_nodeOf_62 : tbX7_nodeOf 62 = (.goto 14, 65, 76, 0, 0, 0, []) := rfl
theorem tX7_nodeOf_65 : tbX7_nodeOf 65 = (.aload_n 0, 66, 0, 0, 0, 0, []) := rfl
theorem tX7_nodeOf_66 : tbX7_nodeOf 66 = (.getfield 7, 69, 7, 0, 0, 0, [(0, 0)]) := rfl
theorem tX7_nodeOf_69 : tbX7_nodeOf 69 = (.iload_n 1, 70, 0, 0, 0, 0, []) := rfl
theorem tX7_nodeOf_70 : tbX7_nodeOf 70 = (.invokestatic 39, 73, 98, 1, 0, 0, []) := rfl
theorem tX7_nodeOf_73 : tbX7_nodeOf 73 = (.iconst 0, 74, 0, 0, 0, 0, []) := rfl
theorem tX7_nodeOf_74 : tbX7_nodeOf 74 = (.iadd, 75, 0, 0, 0, 0, []) := rfl
theorem tX7_nodeOf_75 : tbX7_nodeOf 75 = (.iaload, 76, 0, 0, 0, 0, []) := rfl
theorem tX7_nodeOf_76 : tbX7_nodeOf 76 = (.ireturn, 77, 0, 0, 0, 0, []) := rfl
theorem tX7_nodeOf_77 : tbX7_nodeOf 77 = (.aload_n 0, 78, 0, 0, 0, 0, []) := rfl
theorem tX7_nodeOf_78 : tbX7_nodeOf 78 = (.getfield 7, 81, 7, 0, 0, 0, [(0, 0)]) := rfl
theorem tX7_nodeOf_81 : tbX7_nodeOf 81 = (.iload_n 1, 82, 0, 0, 0, 0, []) := rfl
theorem tX7_nodeOf_82 : tbX7_nodeOf 82 = (.invokestatic 39, 85, 98, 1, 0, 0, []) := rfl
theorem tX7_nodeOf_85 : tbX7_nodeOf 85 = (.iconst 1, 86, 0, 0, 0, 1, []) := rfl
theorem tX7_nodeOf_86 : tbX7_nodeOf 86 = (.iadd, 87, 0, 0, 0, 0, []) := rfl
theorem tX7_nodeOf_87 : tbX7_nodeOf 87 = (.iaload, 88, 0, 0, 0, 0, []) := rfl
theorem tX7_nodeOf_88 : tbX7_nodeOf 88 = (.ireturn, 89, 0, 0, 0, 0, []) := rfl
theorem tX7_nodeOf_89 : tbX7_nodeOf 89 = (.aload_n 0, 90, 0, 0, 0, 0, []) := rfl
theorem tX7_nodeOf_90 : tbX7_nodeOf 90 = (.getfield 7, 93, 7, 0, 0, 0, [(0, 0)]) := rfl
theorem tX7_nodeOf_93 : tbX7_nodeOf 93 = (.iload_n 1, 94, 0, 0, 0, 0, []) := rfl
theorem tX7_nodeOf_94 : tbX7_nodeOf 94 = (.invokestatic 39, 97, 98, 1, 0, 0, []) := rfl
theorem tX7_nodeOf_97 : tbX7_nodeOf 97 = (.iconst 3, 98, 0, 0, 0, 3, []) := rfl
theorem tX7_nodeOf_98 : tbX7_nodeOf 98 = (.iadd, 99, 0, 0, 0, 0, []) := rfl
theorem tX7_nodeOf_99 : tbX7_nodeOf 99 = (.iaload, 100, 0, 0, 0, 0, []) := rfl
theorem tX7_nodeOf_100 : tbX7_nodeOf 100 = (.ireturn, 101, 0, 0, 0, 0, []) := rfl
theorem tX7_nodeOf_101 : tbX7_nodeOf 101 = (.aload_n 0, 102, 0, 0, 0, 0, []) := rfl
theorem tX7_nodeOf_102 : tbX7_nodeOf 102 = (.getfield 7, 105, 7, 0, 0, 0, [(0, 0)]) := rfl
theorem tX7_nodeOf_105 : tbX7_nodeOf 105 = (.iload_n 1, 106, 0, 0, 0, 0, []) := rfl
theorem tX7_nodeOf_106 : tbX7_nodeOf 106 = (.invokestatic 39, 109, 98, 1, 0, 0, []) := rfl
theorem tX7_nodeOf_109 : tbX7_nodeOf 109 = (.iconst 2, 110, 0, 0, 0, 2, []) := rfl
theorem tX7_nodeOf_110 : tbX7_nodeOf 110 = (.iadd, 111, 0, 0, 0, 0, []) := rfl
theorem tX7_nodeOf_111 : tbX7_nodeOf 111 = (.iaload, 112, 0, 0, 0, 0, []) := rfl
theorem tX7_nodeOf_112 : tbX7_nodeOf 112 = (.ireturn, 113, 0, 0, 0, 0, []) := rfl
theorem tX7_nodeOf_113 : tbX7_nodeOf 113 = (.aload_n 0, 114, 0, 0, 0, 0, []) := rfl
theorem tX7_nodeOf_114 : tbX7_nodeOf 114 = (.iload_n 1, 115, 0, 0, 0, 0, []) := rfl
theorem tX7_nodeOf_115 : tbX7_nodeOf 115 = (.invokevirtual 73, 118, 107, 1, 7, 0, []) := rfl
theorem tX7_nodeOf_118 : tbX7_nodeOf 118 = (.invokestatic 70, 121, 108, 1, 0, 0, []) := rfl
theorem tX7_nodeOf_121 : tbX7_nodeOf 121 = (.ireturn, 122, 0, 0, 0, 0, []) := rfl
theorem tX7_nodeOf_122 : tbX7_nodeOf 122 = (.aload_n 0, 123, 0, 0, 0, 0, []) := rfl
theorem tX7_nodeOf_123 : tbX7_nodeOf 123 = (.iload_n 1, 124, 0, 0, 0, 0, []) := rfl
theorem tX7_nodeOf_124 : tbX7_nodeOf 124 = (.invokevirtual 73, 127, 107, 1, 7, 0, []) := rfl
theorem tX7_nodeOf_127 : tbX7_nodeOf 127 = (.aload_n 0, 128, 0, 0, 0, 0, []) := rfl
theorem tX7_nodeOf_128 : tbX7_nodeOf 128 = (.iconst 0, 129, 0, 0, 0, 0, []) := rfl
theorem tX7_nodeOf_129 : tbX7_nodeOf 129 = (.invokevirtual 67, 132, 139, 1, 7, 0, []) := rfl
theorem tX7_nodeOf_132 : tbX7_nodeOf 132 = (.iand, 133, 0, 0, 0, 0, []) := rfl
theorem tX7_nodeOf_133 : tbX7_nodeOf 133 = (.ireturn, 134, 0, 0, 0, 0, []) := rfl
def ltX7_inputAt : List (Nat × pm_E) := [(0, .aload_n 0, 1, 0, 0, 0, 0, []), (1, .iload_n 1, 2, 0, 0, 0, 0, []), (2, .invokevirtual 43, 5, 100, 1, 7, 0, []), (5, .ifCond .eq 7, 8, 12, 0, 0, 0, []), (8, .iload_n 2, 9, 0, 0, 0, 0, []), (9, .ifCond .ge 5, 12, 14, 0, 0, 0, []), (12, .iconst (-1), 13, 0, 0, 0, -1, []), (13, .ireturn, 14, 0, 0, 0, 0, []), (14, .iload_n 2, 15, 0, 0, 0, 0, []), (15, .aload_n 0, 16, 0, 0, 0, 0, []), (16, .getfield 7, 19, 7, 0, 0, 0, [(0, 0)]), (19, .iload_n 1, 20, 0, 0, 0, 0, []), (20, .invokestatic 39, 23, 98, 1, 0, 0, []), (23, .iconst 3, 24, 0, 0, 0, 3, []), (24, .iadd, 25, 0, 0, 0, 0, []), (25, .iaload, 26, 0, 0, 0, 0, []), (26, .if_icmp .ge 19, 29, 45, 0, 0, 0, []), (29, .aload_n 0, 30, 0, 0, 0, 0, []), (30, .getfield 7, 33, 7, 0, 0, 0, [(0, 0)]), (33, .iload_n 1, 34, 0, 0, 0, 0, []), (34, .invokestatic 39, 37, 98, 1, 0, 0, []), (37, .iconst 4, 38, 0, 0, 0, 4, []), (38, .iadd, 39, 0, 0, 0, 0, []), (39, .iload_n 2, 40, 0, 0, 0, 0, []), (40, .iadd, 41, 0, 0, 0, 0, []), (41, .iaload, 42, 0, 0, 0, 0, []), (42, .goto 5, 45, 47, 0, 0, 0, []), (45, .bipush (-4), 47, 0, 0, 0, -4, []), (47, .ireturn, 48, 0, 0, 0, 0, [])]
def tbX7_inputAt : Nat → pm_E := pm_lk ltX7_inputAt
theorem okX7_inputAt : ∀ pc, (tbX7_inputAt pc).1 = .nop ∨ pm_ok mX7_inputAt pw_Ms pc (tbX7_inputAt pc) := pm_lk_ok (by decide +kernel)
theorem nr_X7_inputAt : mX7_inputAt.2.2.2 = (some .int) := rfl
theorem tX7_inputAt_0 : tbX7_inputAt 0 = (.aload_n 0, 1, 0, 0, 0, 0, []) := rfl
theorem tX7_inputAt_1 : tbX7_inputAt 1 = (.iload_n 1, 2, 0, 0, 0, 0, []) := rfl
theorem tX7_inputAt_2 : tbX7_inputAt 2 = (.invokevirtual 43, 5, 100, 1, 7, 0, []) := rfl
theorem tX7_inputAt_5 : tbX7_inputAt 5 = (.ifCond .eq 7, 8, 12, 0, 0, 0, []) := rfl
theorem tX7_inputAt_8 : tbX7_inputAt 8 = (.iload_n 2, 9, 0, 0, 0, 0, []) := rfl
theorem tX7_inputAt_9 : tbX7_inputAt 9 = (.ifCond .ge 5, 12, 14, 0, 0, 0, []) := rfl
theorem tX7_inputAt_12 : tbX7_inputAt 12 = (.iconst (-1), 13, 0, 0, 0, -1, []) := rfl
theorem tX7_inputAt_13 : tbX7_inputAt 13 = (.ireturn, 14, 0, 0, 0, 0, []) := rfl
theorem tX7_inputAt_14 : tbX7_inputAt 14 = (.iload_n 2, 15, 0, 0, 0, 0, []) := rfl
theorem tX7_inputAt_15 : tbX7_inputAt 15 = (.aload_n 0, 16, 0, 0, 0, 0, []) := rfl
theorem tX7_inputAt_16 : tbX7_inputAt 16 = (.getfield 7, 19, 7, 0, 0, 0, [(0, 0)]) := rfl
theorem tX7_inputAt_19 : tbX7_inputAt 19 = (.iload_n 1, 20, 0, 0, 0, 0, []) := rfl
theorem tX7_inputAt_20 : tbX7_inputAt 20 = (.invokestatic 39, 23, 98, 1, 0, 0, []) := rfl
theorem tX7_inputAt_23 : tbX7_inputAt 23 = (.iconst 3, 24, 0, 0, 0, 3, []) := rfl
theorem tX7_inputAt_24 : tbX7_inputAt 24 = (.iadd, 25, 0, 0, 0, 0, []) := rfl
theorem tX7_inputAt_25 : tbX7_inputAt 25 = (.iaload, 26, 0, 0, 0, 0, []) := rfl
theorem tX7_inputAt_26 : tbX7_inputAt 26 = (.if_icmp .ge 19, 29, 45, 0, 0, 0, []) := rfl
theorem tX7_inputAt_29 : tbX7_inputAt 29 = (.aload_n 0, 30, 0, 0, 0, 0, []) := rfl
theorem tX7_inputAt_30 : tbX7_inputAt 30 = (.getfield 7, 33, 7, 0, 0, 0, [(0, 0)]) := rfl
theorem tX7_inputAt_33 : tbX7_inputAt 33 = (.iload_n 1, 34, 0, 0, 0, 0, []) := rfl
theorem tX7_inputAt_34 : tbX7_inputAt 34 = (.invokestatic 39, 37, 98, 1, 0, 0, []) := rfl
theorem tX7_inputAt_37 : tbX7_inputAt 37 = (.iconst 4, 38, 0, 0, 0, 4, []) := rfl
theorem tX7_inputAt_38 : tbX7_inputAt 38 = (.iadd, 39, 0, 0, 0, 0, []) := rfl
theorem tX7_inputAt_39 : tbX7_inputAt 39 = (.iload_n 2, 40, 0, 0, 0, 0, []) := rfl
theorem tX7_inputAt_40 : tbX7_inputAt 40 = (.iadd, 41, 0, 0, 0, 0, []) := rfl
theorem tX7_inputAt_41 : tbX7_inputAt 41 = (.iaload, 42, 0, 0, 0, 0, []) := rfl
theorem tX7_inputAt_42 : tbX7_inputAt 42 = (.goto 5, 45, 47, 0, 0, 0, []) := rfl
theorem tX7_inputAt_45 : tbX7_inputAt 45 = (.bipush (-4), 47, 0, 0, 0, -4, []) := rfl
theorem tX7_inputAt_47 : tbX7_inputAt 47 = (.ireturn, 48, 0, 0, 0, 0, []) := rfl
def ltX7_goEdge : List (Nat × pm_E) := [(0, .iload_n 1, 1, 0, 0, 0, 0, []), (1, .invokestatic 57, 4, 99, 1, 0, 0, []), (4, .istore_n 2, 5, 0, 0, 0, 0, []), (5, .aload_n 0, 6, 0, 0, 0, 0, []), (6, .getfield 7, 9, 7, 0, 0, 0, [(0, 0)]), (9, .iconst 5, 10, 0, 0, 0, 5, []), (10, .dup2, 11, 0, 0, 0, 0, []), (11, .iaload, 12, 0, 0, 0, 0, []), (12, .iconst 1, 13, 0, 0, 0, 1, []), (13, .iadd, 14, 0, 0, 0, 0, []), (14, .iastore, 15, 0, 0, 0, 0, []), (15, .aload_n 0, 16, 0, 0, 0, 0, []), (16, .getfield 7, 19, 7, 0, 0, 0, [(0, 0)]), (19, .iload_n 2, 20, 0, 0, 0, 0, []), (20, .bipush 6, 22, 0, 0, 0, 6, []), (22, .iadd, 23, 0, 0, 0, 0, []), (23, .dup2, 24, 0, 0, 0, 0, []), (24, .iaload, 25, 0, 0, 0, 0, []), (25, .iconst 1, 26, 0, 0, 0, 1, []), (26, .iadd, 27, 0, 0, 0, 0, []), (27, .iastore, 28, 0, 0, 0, 0, []), (28, .aload_n 0, 29, 0, 0, 0, 0, []), (29, .getfield 7, 32, 7, 0, 0, 0, [(0, 0)]), (32, .iload_n 2, 33, 0, 0, 0, 0, []), (33, .iconst 3, 34, 0, 0, 0, 3, []), (34, .iadd, 35, 0, 0, 0, 0, []), (35, .iaload, 36, 0, 0, 0, 0, []), (36, .iconst 1, 37, 0, 0, 0, 1, []), (37, .if_icmp .ne 29, 40, 66, 0, 0, 0, []), (40, .aload_n 0, 41, 0, 0, 0, 0, []), (41, .getfield 7, 44, 7, 0, 0, 0, [(0, 0)]), (44, .bipush 6, 46, 0, 0, 0, 6, []), (46, .dup2, 47, 0, 0, 0, 0, []), (47, .iaload, 48, 0, 0, 0, 0, []), (48, .iconst 1, 49, 0, 0, 0, 1, []), (49, .iadd, 50, 0, 0, 0, 0, []), (50, .iastore, 51, 0, 0, 0, 0, []), (51, .aload_n 0, 52, 0, 0, 0, 0, []), (52, .getfield 7, 55, 7, 0, 0, 0, [(0, 0)]), (55, .iload_n 2, 56, 0, 0, 0, 0, []), (56, .bipush 7, 58, 0, 0, 0, 7, []), (58, .iadd, 59, 0, 0, 0, 0, []), (59, .dup2, 60, 0, 0, 0, 0, []), (60, .iaload, 61, 0, 0, 0, 0, []), (61, .iconst 1, 62, 0, 0, 0, 1, []), (62, .iadd, 63, 0, 0, 0, 0, []), (63, .iastore, 64, 0, 0, 0, 0, []), (64, .iconst 0, 65, 0, 0, 0, 0, []), (65, .ireturn, 66, 0, 0, 0, 0, []), (66, .aload_n 0, 67, 0, 0, 0, 0, []), (67, .getfield 7, 70, 7, 0, 0, 0, [(0, 0)]), (70, .iload_n 2, 71, 0, 0, 0, 0, []), (71, .iconst 3, 72, 0, 0, 0, 3, []), (72, .iadd, 73, 0, 0, 0, 0, []), (73, .iconst 1, 74, 0, 0, 0, 1, []), (74, .iastore, 75, 0, 0, 0, 0, []), (75, .aload_n 0, 76, 0, 0, 0, 0, []), (76, .getfield 7, 79, 7, 0, 0, 0, [(0, 0)]), (79, .iload_n 2, 80, 0, 0, 0, 0, []), (80, .bipush 10, 82, 0, 0, 0, 10, []), (82, .iadd, 83, 0, 0, 0, 0, []), (83, .aload_n 0, 84, 0, 0, 0, 0, []), (84, .getfield 7, 87, 7, 0, 0, 0, [(0, 0)]), (87, .iconst 0, 88, 0, 0, 0, 0, []), (88, .iaload, 89, 0, 0, 0, 0, []), (89, .iastore, 90, 0, 0, 0, 0, []), (90, .iconst 1, 91, 0, 0, 0, 1, []), (91, .ireturn, 92, 0, 0, 0, 0, [])]
def tbX7_goEdge : Nat → pm_E := pm_lk ltX7_goEdge
theorem okX7_goEdge : ∀ pc, (tbX7_goEdge pc).1 = .nop ∨ pm_ok mX7_goEdge pw_Ms pc (tbX7_goEdge pc) := pm_lk_ok (by decide +kernel)
theorem nr_X7_goEdge : mX7_goEdge.2.2.2 = (some .int) := rfl
theorem tX7_goEdge_0 : tbX7_goEdge 0 = (.iload_n 1, 1, 0, 0, 0, 0, []) := rfl
theorem tX7_goEdge_1 : tbX7_goEdge 1 = (.invokestatic 57, 4, 99, 1, 0, 0, []) := rfl
theorem tX7_goEdge_4 : tbX7_goEdge 4 = (.istore_n 2, 5, 0, 0, 0, 0, []) := rfl
theorem tX7_goEdge_5 : tbX7_goEdge 5 = (.aload_n 0, 6, 0, 0, 0, 0, []) := rfl
theorem tX7_goEdge_6 : tbX7_goEdge 6 = (.getfield 7, 9, 7, 0, 0, 0, [(0, 0)]) := rfl
theorem tX7_goEdge_9 : tbX7_goEdge 9 = (.iconst 5, 10, 0, 0, 0, 5, []) := rfl
theorem tX7_goEdge_10 : tbX7_goEdge 10 = (.dup2, 11, 0, 0, 0, 0, []) := rfl
theorem tX7_goEdge_11 : tbX7_goEdge 11 = (.iaload, 12, 0, 0, 0, 0, []) := rfl
theorem tX7_goEdge_12 : tbX7_goEdge 12 = (.iconst 1, 13, 0, 0, 0, 1, []) := rfl
theorem tX7_goEdge_13 : tbX7_goEdge 13 = (.iadd, 14, 0, 0, 0, 0, []) := rfl
theorem tX7_goEdge_14 : tbX7_goEdge 14 = (.iastore, 15, 0, 0, 0, 0, []) := rfl
theorem tX7_goEdge_15 : tbX7_goEdge 15 = (.aload_n 0, 16, 0, 0, 0, 0, []) := rfl
theorem tX7_goEdge_16 : tbX7_goEdge 16 = (.getfield 7, 19, 7, 0, 0, 0, [(0, 0)]) := rfl
theorem tX7_goEdge_19 : tbX7_goEdge 19 = (.iload_n 2, 20, 0, 0, 0, 0, []) := rfl
theorem tX7_goEdge_20 : tbX7_goEdge 20 = (.bipush 6, 22, 0, 0, 0, 6, []) := rfl
theorem tX7_goEdge_22 : tbX7_goEdge 22 = (.iadd, 23, 0, 0, 0, 0, []) := rfl
theorem tX7_goEdge_23 : tbX7_goEdge 23 = (.dup2, 24, 0, 0, 0, 0, []) := rfl
theorem tX7_goEdge_24 : tbX7_goEdge 24 = (.iaload, 25, 0, 0, 0, 0, []) := rfl
theorem tX7_goEdge_25 : tbX7_goEdge 25 = (.iconst 1, 26, 0, 0, 0, 1, []) := rfl
theorem tX7_goEdge_26 : tbX7_goEdge 26 = (.iadd, 27, 0, 0, 0, 0, []) := rfl
theorem tX7_goEdge_27 : tbX7_goEdge 27 = (.iastore, 28, 0, 0, 0, 0, []) := rfl
theorem tX7_goEdge_28 : tbX7_goEdge 28 = (.aload_n 0, 29, 0, 0, 0, 0, []) := rfl
theorem tX7_goEdge_29 : tbX7_goEdge 29 = (.getfield 7, 32, 7, 0, 0, 0, [(0, 0)]) := rfl
theorem tX7_goEdge_32 : tbX7_goEdge 32 = (.iload_n 2, 33, 0, 0, 0, 0, []) := rfl
theorem tX7_goEdge_33 : tbX7_goEdge 33 = (.iconst 3, 34, 0, 0, 0, 3, []) := rfl
theorem tX7_goEdge_34 : tbX7_goEdge 34 = (.iadd, 35, 0, 0, 0, 0, []) := rfl
theorem tX7_goEdge_35 : tbX7_goEdge 35 = (.iaload, 36, 0, 0, 0, 0, []) := rfl
theorem tX7_goEdge_36 : tbX7_goEdge 36 = (.iconst 1, 37, 0, 0, 0, 1, []) := rfl
theorem tX7_goEdge_37 : tbX7_goEdge 37 = (.if_icmp .ne 29, 40, 66, 0, 0, 0, []) := rfl
theorem tX7_goEdge_40 : tbX7_goEdge 40 = (.aload_n 0, 41, 0, 0, 0, 0, []) := rfl
theorem tX7_goEdge_41 : tbX7_goEdge 41 = (.getfield 7, 44, 7, 0, 0, 0, [(0, 0)]) := rfl
theorem tX7_goEdge_44 : tbX7_goEdge 44 = (.bipush 6, 46, 0, 0, 0, 6, []) := rfl
theorem tX7_goEdge_46 : tbX7_goEdge 46 = (.dup2, 47, 0, 0, 0, 0, []) := rfl
theorem tX7_goEdge_47 : tbX7_goEdge 47 = (.iaload, 48, 0, 0, 0, 0, []) := rfl
theorem tX7_goEdge_48 : tbX7_goEdge 48 = (.iconst 1, 49, 0, 0, 0, 1, []) := rfl
theorem tX7_goEdge_49 : tbX7_goEdge 49 = (.iadd, 50, 0, 0, 0, 0, []) := rfl
theorem tX7_goEdge_50 : tbX7_goEdge 50 = (.iastore, 51, 0, 0, 0, 0, []) := rfl
theorem tX7_goEdge_51 : tbX7_goEdge 51 = (.aload_n 0, 52, 0, 0, 0, 0, []) := rfl
theorem tX7_goEdge_52 : tbX7_goEdge 52 = (.getfield 7, 55, 7, 0, 0, 0, [(0, 0)]) := rfl
theorem tX7_goEdge_55 : tbX7_goEdge 55 = (.iload_n 2, 56, 0, 0, 0, 0, []) := rfl
theorem tX7_goEdge_56 : tbX7_goEdge 56 = (.bipush 7, 58, 0, 0, 0, 7, []) := rfl
theorem tX7_goEdge_58 : tbX7_goEdge 58 = (.iadd, 59, 0, 0, 0, 0, []) := rfl
theorem tX7_goEdge_59 : tbX7_goEdge 59 = (.dup2, 60, 0, 0, 0, 0, []) := rfl
theorem tX7_goEdge_60 : tbX7_goEdge 60 = (.iaload, 61, 0, 0, 0, 0, []) := rfl
theorem tX7_goEdge_61 : tbX7_goEdge 61 = (.iconst 1, 62, 0, 0, 0, 1, []) := rfl
theorem tX7_goEdge_62 : tbX7_goEdge 62 = (.iadd, 63, 0, 0, 0, 0, []) := rfl
theorem tX7_goEdge_63 : tbX7_goEdge 63 = (.iastore, 64, 0, 0, 0, 0, []) := rfl
theorem tX7_goEdge_64 : tbX7_goEdge 64 = (.iconst 0, 65, 0, 0, 0, 0, []) := rfl
theorem tX7_goEdge_65 : tbX7_goEdge 65 = (.ireturn, 66, 0, 0, 0, 0, []) := rfl
theorem tX7_goEdge_66 : tbX7_goEdge 66 = (.aload_n 0, 67, 0, 0, 0, 0, []) := rfl
theorem tX7_goEdge_67 : tbX7_goEdge 67 = (.getfield 7, 70, 7, 0, 0, 0, [(0, 0)]) := rfl
theorem tX7_goEdge_70 : tbX7_goEdge 70 = (.iload_n 2, 71, 0, 0, 0, 0, []) := rfl
theorem tX7_goEdge_71 : tbX7_goEdge 71 = (.iconst 3, 72, 0, 0, 0, 3, []) := rfl
theorem tX7_goEdge_72 : tbX7_goEdge 72 = (.iadd, 73, 0, 0, 0, 0, []) := rfl
theorem tX7_goEdge_73 : tbX7_goEdge 73 = (.iconst 1, 74, 0, 0, 0, 1, []) := rfl
theorem tX7_goEdge_74 : tbX7_goEdge 74 = (.iastore, 75, 0, 0, 0, 0, []) := rfl
theorem tX7_goEdge_75 : tbX7_goEdge 75 = (.aload_n 0, 76, 0, 0, 0, 0, []) := rfl
theorem tX7_goEdge_76 : tbX7_goEdge 76 = (.getfield 7, 79, 7, 0, 0, 0, [(0, 0)]) := rfl
theorem tX7_goEdge_79 : tbX7_goEdge 79 = (.iload_n 2, 80, 0, 0, 0, 0, []) := rfl
theorem tX7_goEdge_80 : tbX7_goEdge 80 = (.bipush 10, 82, 0, 0, 0, 10, []) := rfl
theorem tX7_goEdge_82 : tbX7_goEdge 82 = (.iadd, 83, 0, 0, 0, 0, []) := rfl
theorem tX7_goEdge_83 : tbX7_goEdge 83 = (.aload_n 0, 84, 0, 0, 0, 0, []) := rfl
theorem tX7_goEdge_84 : tbX7_goEdge 84 = (.getfield 7, 87, 7, 0, 0, 0, [(0, 0)]) := rfl
theorem tX7_goEdge_87 : tbX7_goEdge 87 = (.iconst 0, 88, 0, 0, 0, 0, []) := rfl
theorem tX7_goEdge_88 : tbX7_goEdge 88 = (.iaload, 89, 0, 0, 0, 0, []) := rfl
theorem tX7_goEdge_89 : tbX7_goEdge 89 = (.iastore, 90, 0, 0, 0, 0, []) := rfl
theorem tX7_goEdge_90 : tbX7_goEdge 90 = (.iconst 1, 91, 0, 0, 0, 1, []) := rfl
theorem tX7_goEdge_91 : tbX7_goEdge 91 = (.ireturn, 92, 0, 0, 0, 0, []) := rfl
def ltX7_edge : List (Nat × pm_E) := [(0, .aload_n 0, 1, 0, 0, 0, 0, []), (1, .iload_n 1, 2, 0, 0, 0, 0, []), (2, .invokevirtual 64, 5, 101, 1, 7, 0, []), (5, .ifCond .ne 5, 8, 10, 0, 0, 0, []), (8, .iconst (-1), 9, 0, 0, 0, -1, []), (9, .ireturn, 10, 0, 0, 0, 0, []), (10, .aload_n 0, 11, 0, 0, 0, 0, []), (11, .getfield 7, 14, 7, 0, 0, 0, [(0, 0)]), (14, .iload_n 1, 15, 0, 0, 0, 0, []), (15, .invokestatic 57, 18, 99, 1, 0, 0, []), (18, .iconst 2, 19, 0, 0, 0, 2, []), (19, .iadd, 20, 0, 0, 0, 0, []), (20, .iaload, 21, 0, 0, 0, 0, []), (21, .iconst 1, 22, 0, 0, 0, 1, []), (22, .if_icmp .ne 6, 25, 28, 0, 0, 0, []), (25, .bipush (-2), 27, 0, 0, 0, -2, []), (27, .ireturn, 28, 0, 0, 0, 0, []), (28, .aload_n 0, 29, 0, 0, 0, 0, []), (29, .invokevirtual 50, 32, 95, 0, 7, 0, []), (32, .aload_n 0, 33, 0, 0, 0, 0, []), (33, .iload_n 1, 34, 0, 0, 0, 0, []), (34, .invokevirtual 96, 37, 125, 1, 7, 0, []), (37, .ireturn, 38, 0, 0, 0, 0, [])]
def tbX7_edge : Nat → pm_E := pm_lk ltX7_edge
theorem okX7_edge : ∀ pc, (tbX7_edge pc).1 = .nop ∨ pm_ok mX7_edge pw_Ms pc (tbX7_edge pc) := pm_lk_ok (by decide +kernel)
theorem nr_X7_edge : mX7_edge.2.2.2 = (some .int) := rfl
theorem tX7_edge_0 : tbX7_edge 0 = (.aload_n 0, 1, 0, 0, 0, 0, []) := rfl
theorem tX7_edge_1 : tbX7_edge 1 = (.iload_n 1, 2, 0, 0, 0, 0, []) := rfl
theorem tX7_edge_2 : tbX7_edge 2 = (.invokevirtual 64, 5, 101, 1, 7, 0, []) := rfl
theorem tX7_edge_5 : tbX7_edge 5 = (.ifCond .ne 5, 8, 10, 0, 0, 0, []) := rfl
theorem tX7_edge_8 : tbX7_edge 8 = (.iconst (-1), 9, 0, 0, 0, -1, []) := rfl
theorem tX7_edge_9 : tbX7_edge 9 = (.ireturn, 10, 0, 0, 0, 0, []) := rfl
theorem tX7_edge_10 : tbX7_edge 10 = (.aload_n 0, 11, 0, 0, 0, 0, []) := rfl
theorem tX7_edge_11 : tbX7_edge 11 = (.getfield 7, 14, 7, 0, 0, 0, [(0, 0)]) := rfl
theorem tX7_edge_14 : tbX7_edge 14 = (.iload_n 1, 15, 0, 0, 0, 0, []) := rfl
theorem tX7_edge_15 : tbX7_edge 15 = (.invokestatic 57, 18, 99, 1, 0, 0, []) := rfl
theorem tX7_edge_18 : tbX7_edge 18 = (.iconst 2, 19, 0, 0, 0, 2, []) := rfl
theorem tX7_edge_19 : tbX7_edge 19 = (.iadd, 20, 0, 0, 0, 0, []) := rfl
theorem tX7_edge_20 : tbX7_edge 20 = (.iaload, 21, 0, 0, 0, 0, []) := rfl
theorem tX7_edge_21 : tbX7_edge 21 = (.iconst 1, 22, 0, 0, 0, 1, []) := rfl
theorem tX7_edge_22 : tbX7_edge 22 = (.if_icmp .ne 6, 25, 28, 0, 0, 0, []) := rfl
theorem tX7_edge_25 : tbX7_edge 25 = (.bipush (-2), 27, 0, 0, 0, -2, []) := rfl
theorem tX7_edge_27 : tbX7_edge 27 = (.ireturn, 28, 0, 0, 0, 0, []) := rfl
theorem tX7_edge_28 : tbX7_edge 28 = (.aload_n 0, 29, 0, 0, 0, 0, []) := rfl
theorem tX7_edge_29 : tbX7_edge 29 = (.invokevirtual 50, 32, 95, 0, 7, 0, []) := rfl
theorem tX7_edge_32 : tbX7_edge 32 = (.aload_n 0, 33, 0, 0, 0, 0, []) := rfl
theorem tX7_edge_33 : tbX7_edge 33 = (.iload_n 1, 34, 0, 0, 0, 0, []) := rfl
theorem tX7_edge_34 : tbX7_edge 34 = (.invokevirtual 96, 37, 125, 1, 7, 0, []) := rfl
theorem tX7_edge_37 : tbX7_edge 37 = (.ireturn, 38, 0, 0, 0, 0, []) := rfl
def ltX7_canLevel : List (Nat × pm_E) := [(0, .aload_n 0, 1, 0, 0, 0, 0, []), (1, .getfield 7, 4, 7, 0, 0, 0, [(0, 0)]), (4, .iload_n 1, 5, 0, 0, 0, 0, []), (5, .invokestatic 57, 8, 99, 1, 0, 0, []), (8, .iconst 2, 9, 0, 0, 0, 2, []), (9, .iadd, 10, 0, 0, 0, 0, []), (10, .iaload, 11, 0, 0, 0, 0, []), (11, .iconst 1, 12, 0, 0, 0, 1, []), (12, .if_icmp .ne 22, 15, 34, 0, 0, 0, []), (15, .aload_n 0, 16, 0, 0, 0, 0, []), (16, .getfield 7, 19, 7, 0, 0, 0, [(0, 0)]), (19, .iload_n 1, 20, 0, 0, 0, 0, []), (20, .invokestatic 57, 23, 99, 1, 0, 0, []), (23, .iconst 3, 24, 0, 0, 0, 3, []), (24, .iadd, 25, 0, 0, 0, 0, []), (25, .iaload, 26, 0, 0, 0, 0, []), (26, .iload_n 2, 27, 0, 0, 0, 0, []), (27, .if_icmp .eq 7, 30, 34, 0, 0, 0, []), (30, .iconst 1, 31, 0, 0, 0, 1, []), (31, .goto 4, 34, 35, 0, 0, 0, []), (34, .iconst 0, 35, 0, 0, 0, 0, []), (35, .ireturn, 36, 0, 0, 0, 0, [])]
def tbX7_canLevel : Nat → pm_E := pm_lk ltX7_canLevel
theorem okX7_canLevel : ∀ pc, (tbX7_canLevel pc).1 = .nop ∨ pm_ok mX7_canLevel pw_Ms pc (tbX7_canLevel pc) := pm_lk_ok (by decide +kernel)
theorem nr_X7_canLevel : mX7_canLevel.2.2.2 = (some .boolean) := rfl
theorem tX7_canLevel_0 : tbX7_canLevel 0 = (.aload_n 0, 1, 0, 0, 0, 0, []) := rfl
theorem tX7_canLevel_1 : tbX7_canLevel 1 = (.getfield 7, 4, 7, 0, 0, 0, [(0, 0)]) := rfl
theorem tX7_canLevel_4 : tbX7_canLevel 4 = (.iload_n 1, 5, 0, 0, 0, 0, []) := rfl
theorem tX7_canLevel_5 : tbX7_canLevel 5 = (.invokestatic 57, 8, 99, 1, 0, 0, []) := rfl
theorem tX7_canLevel_8 : tbX7_canLevel 8 = (.iconst 2, 9, 0, 0, 0, 2, []) := rfl
theorem tX7_canLevel_9 : tbX7_canLevel 9 = (.iadd, 10, 0, 0, 0, 0, []) := rfl
theorem tX7_canLevel_10 : tbX7_canLevel 10 = (.iaload, 11, 0, 0, 0, 0, []) := rfl
theorem tX7_canLevel_11 : tbX7_canLevel 11 = (.iconst 1, 12, 0, 0, 0, 1, []) := rfl
theorem tX7_canLevel_12 : tbX7_canLevel 12 = (.if_icmp .ne 22, 15, 34, 0, 0, 0, []) := rfl
theorem tX7_canLevel_15 : tbX7_canLevel 15 = (.aload_n 0, 16, 0, 0, 0, 0, []) := rfl
theorem tX7_canLevel_16 : tbX7_canLevel 16 = (.getfield 7, 19, 7, 0, 0, 0, [(0, 0)]) := rfl
theorem tX7_canLevel_19 : tbX7_canLevel 19 = (.iload_n 1, 20, 0, 0, 0, 0, []) := rfl
theorem tX7_canLevel_20 : tbX7_canLevel 20 = (.invokestatic 57, 23, 99, 1, 0, 0, []) := rfl
theorem tX7_canLevel_23 : tbX7_canLevel 23 = (.iconst 3, 24, 0, 0, 0, 3, []) := rfl
theorem tX7_canLevel_24 : tbX7_canLevel 24 = (.iadd, 25, 0, 0, 0, 0, []) := rfl
theorem tX7_canLevel_25 : tbX7_canLevel 25 = (.iaload, 26, 0, 0, 0, 0, []) := rfl
theorem tX7_canLevel_26 : tbX7_canLevel 26 = (.iload_n 2, 27, 0, 0, 0, 0, []) := rfl
theorem tX7_canLevel_27 : tbX7_canLevel 27 = (.if_icmp .eq 7, 30, 34, 0, 0, 0, []) := rfl
theorem tX7_canLevel_30 : tbX7_canLevel 30 = (.iconst 1, 31, 0, 0, 0, 1, []) := rfl
theorem tX7_canLevel_31 : tbX7_canLevel 31 = (.goto 4, 34, 35, 0, 0, 0, []) := rfl
theorem tX7_canLevel_34 : tbX7_canLevel 34 = (.iconst 0, 35, 0, 0, 0, 0, []) := rfl
theorem tX7_canLevel_35 : tbX7_canLevel 35 = (.ireturn, 36, 0, 0, 0, 0, []) := rfl
def ltX7_level : List (Nat × pm_E) := [(0, .aload_n 0, 1, 0, 0, 0, 0, []), (1, .iload_n 1, 2, 0, 0, 0, 0, []), (2, .invokevirtual 64, 5, 101, 1, 7, 0, []), (5, .ifCond .eq 10, 8, 15, 0, 0, 0, []), (8, .iload_n 2, 9, 0, 0, 0, 0, []), (9, .invokestatic 47, 12, 102, 1, 0, 0, []), (12, .ifCond .ne 5, 15, 17, 0, 0, 0, []), (15, .iconst (-1), 16, 0, 0, 0, -1, []), (16, .ireturn, 17, 0, 0, 0, 0, []), (17, .aload_n 0, 18, 0, 0, 0, 0, []), (18, .iload_n 1, 19, 0, 0, 0, 0, []), (19, .iload_n 2, 20, 0, 0, 0, 0, []), (20, .invokevirtual 99, 23, 127, 2, 7, 0, []), (23, .ifCond .ne 6, 26, 29, 0, 0, 0, []), (26, .bipush (-2), 28, 0, 0, 0, -2, []), (28, .ireturn, 29, 0, 0, 0, 0, []), (29, .aload_n 0, 30, 0, 0, 0, 0, []), (30, .invokevirtual 50, 33, 95, 0, 7, 0, []), (33, .aload_n 0, 34, 0, 0, 0, 0, []), (34, .getfield 7, 37, 7, 0, 0, 0, [(0, 0)]), (37, .iload_n 1, 38, 0, 0, 0, 0, []), (38, .invokestatic 57, 41, 99, 1, 0, 0, []), (41, .iconst 3, 42, 0, 0, 0, 3, []), (42, .iadd, 43, 0, 0, 0, 0, []), (43, .iload_n 2, 44, 0, 0, 0, 0, []), (44, .iastore, 45, 0, 0, 0, 0, []), (45, .aload_n 0, 46, 0, 0, 0, 0, []), (46, .iconst 0, 47, 0, 0, 0, 0, []), (47, .invokevirtual 67, 50, 139, 1, 7, 0, []), (50, .invokestatic 70, 53, 108, 1, 0, 0, []), (53, .ireturn, 54, 0, 0, 0, 0, [])]
def tbX7_level : Nat → pm_E := pm_lk ltX7_level
theorem okX7_level : ∀ pc, (tbX7_level pc).1 = .nop ∨ pm_ok mX7_level pw_Ms pc (tbX7_level pc) := pm_lk_ok (by decide +kernel)
theorem nr_X7_level : mX7_level.2.2.2 = (some .int) := rfl
theorem tX7_level_0 : tbX7_level 0 = (.aload_n 0, 1, 0, 0, 0, 0, []) := rfl
theorem tX7_level_1 : tbX7_level 1 = (.iload_n 1, 2, 0, 0, 0, 0, []) := rfl
theorem tX7_level_2 : tbX7_level 2 = (.invokevirtual 64, 5, 101, 1, 7, 0, []) := rfl
theorem tX7_level_5 : tbX7_level 5 = (.ifCond .eq 10, 8, 15, 0, 0, 0, []) := rfl
theorem tX7_level_8 : tbX7_level 8 = (.iload_n 2, 9, 0, 0, 0, 0, []) := rfl
theorem tX7_level_9 : tbX7_level 9 = (.invokestatic 47, 12, 102, 1, 0, 0, []) := rfl
theorem tX7_level_12 : tbX7_level 12 = (.ifCond .ne 5, 15, 17, 0, 0, 0, []) := rfl
theorem tX7_level_15 : tbX7_level 15 = (.iconst (-1), 16, 0, 0, 0, -1, []) := rfl
theorem tX7_level_16 : tbX7_level 16 = (.ireturn, 17, 0, 0, 0, 0, []) := rfl
theorem tX7_level_17 : tbX7_level 17 = (.aload_n 0, 18, 0, 0, 0, 0, []) := rfl
theorem tX7_level_18 : tbX7_level 18 = (.iload_n 1, 19, 0, 0, 0, 0, []) := rfl
theorem tX7_level_19 : tbX7_level 19 = (.iload_n 2, 20, 0, 0, 0, 0, []) := rfl
theorem tX7_level_20 : tbX7_level 20 = (.invokevirtual 99, 23, 127, 2, 7, 0, []) := rfl
theorem tX7_level_23 : tbX7_level 23 = (.ifCond .ne 6, 26, 29, 0, 0, 0, []) := rfl
theorem tX7_level_26 : tbX7_level 26 = (.bipush (-2), 28, 0, 0, 0, -2, []) := rfl
theorem tX7_level_28 : tbX7_level 28 = (.ireturn, 29, 0, 0, 0, 0, []) := rfl
theorem tX7_level_29 : tbX7_level 29 = (.aload_n 0, 30, 0, 0, 0, 0, []) := rfl
theorem tX7_level_30 : tbX7_level 30 = (.invokevirtual 50, 33, 95, 0, 7, 0, []) := rfl
theorem tX7_level_33 : tbX7_level 33 = (.aload_n 0, 34, 0, 0, 0, 0, []) := rfl
theorem tX7_level_34 : tbX7_level 34 = (.getfield 7, 37, 7, 0, 0, 0, [(0, 0)]) := rfl
theorem tX7_level_37 : tbX7_level 37 = (.iload_n 1, 38, 0, 0, 0, 0, []) := rfl
theorem tX7_level_38 : tbX7_level 38 = (.invokestatic 57, 41, 99, 1, 0, 0, []) := rfl
theorem tX7_level_41 : tbX7_level 41 = (.iconst 3, 42, 0, 0, 0, 3, []) := rfl
theorem tX7_level_42 : tbX7_level 42 = (.iadd, 43, 0, 0, 0, 0, []) := rfl
theorem tX7_level_43 : tbX7_level 43 = (.iload_n 2, 44, 0, 0, 0, 0, []) := rfl
theorem tX7_level_44 : tbX7_level 44 = (.iastore, 45, 0, 0, 0, 0, []) := rfl
theorem tX7_level_45 : tbX7_level 45 = (.aload_n 0, 46, 0, 0, 0, 0, []) := rfl
theorem tX7_level_46 : tbX7_level 46 = (.iconst 0, 47, 0, 0, 0, 0, []) := rfl
theorem tX7_level_47 : tbX7_level 47 = (.invokevirtual 67, 50, 139, 1, 7, 0, []) := rfl
theorem tX7_level_50 : tbX7_level 50 = (.invokestatic 70, 53, 108, 1, 0, 0, []) := rfl
theorem tX7_level_53 : tbX7_level 53 = (.ireturn, 54, 0, 0, 0, 0, []) := rfl
def ltX7_take : List (Nat × pm_E) := [(0, .aload_n 0, 1, 0, 0, 0, 0, []), (1, .getfield 7, 4, 7, 0, 0, 0, [(0, 0)]), (4, .bipush 10, 6, 0, 0, 0, 10, []), (6, .iaload, 7, 0, 0, 0, 0, []), (7, .iconst 4, 8, 0, 0, 0, 4, []), (8, .if_icmp .ne 6, 11, 14, 0, 0, 0, []), (11, .bipush (-3), 13, 0, 0, 0, -3, []), (13, .ireturn, 14, 0, 0, 0, 0, []), (14, .aload_n 0, 15, 0, 0, 0, 0, []), (15, .invokevirtual 102, 18, 116, 0, 7, 0, []), (18, .istore_n 1, 19, 0, 0, 0, 0, []), (19, .iload_n 1, 20, 0, 0, 0, 0, []), (20, .ifCond .ge 6, 23, 26, 0, 0, 0, []), (23, .bipush (-4), 25, 0, 0, 0, -4, []), (25, .ireturn, 26, 0, 0, 0, 0, []), (26, .aload_n 0, 27, 0, 0, 0, 0, []), (27, .invokevirtual 50, 30, 95, 0, 7, 0, []), (30, .aload_n 0, 31, 0, 0, 0, 0, []), (31, .iload_n 1, 32, 0, 0, 0, 0, []), (32, .invokevirtual 106, 35, 119, 1, 7, 0, []), (35, .iload_n 1, 36, 0, 0, 0, 0, []), (36, .ireturn, 37, 0, 0, 0, 0, [])]
def tbX7_take : Nat → pm_E := pm_lk ltX7_take
theorem okX7_take : ∀ pc, (tbX7_take pc).1 = .nop ∨ pm_ok mX7_take pw_Ms pc (tbX7_take pc) := pm_lk_ok (by decide +kernel)
theorem nr_X7_take : mX7_take.2.2.2 = (some .int) := rfl
theorem tX7_take_0 : tbX7_take 0 = (.aload_n 0, 1, 0, 0, 0, 0, []) := rfl
theorem tX7_take_1 : tbX7_take 1 = (.getfield 7, 4, 7, 0, 0, 0, [(0, 0)]) := rfl
theorem tX7_take_4 : tbX7_take 4 = (.bipush 10, 6, 0, 0, 0, 10, []) := rfl
theorem tX7_take_6 : tbX7_take 6 = (.iaload, 7, 0, 0, 0, 0, []) := rfl
theorem tX7_take_7 : tbX7_take 7 = (.iconst 4, 8, 0, 0, 0, 4, []) := rfl
theorem tX7_take_8 : tbX7_take 8 = (.if_icmp .ne 6, 11, 14, 0, 0, 0, []) := rfl
theorem tX7_take_11 : tbX7_take 11 = (.bipush (-3), 13, 0, 0, 0, -3, []) := rfl
theorem tX7_take_13 : tbX7_take 13 = (.ireturn, 14, 0, 0, 0, 0, []) := rfl
theorem tX7_take_14 : tbX7_take 14 = (.aload_n 0, 15, 0, 0, 0, 0, []) := rfl
theorem tX7_take_15 : tbX7_take 15 = (.invokevirtual 102, 18, 116, 0, 7, 0, []) := rfl
theorem tX7_take_18 : tbX7_take 18 = (.istore_n 1, 19, 0, 0, 0, 0, []) := rfl
theorem tX7_take_19 : tbX7_take 19 = (.iload_n 1, 20, 0, 0, 0, 0, []) := rfl
theorem tX7_take_20 : tbX7_take 20 = (.ifCond .ge 6, 23, 26, 0, 0, 0, []) := rfl
theorem tX7_take_23 : tbX7_take 23 = (.bipush (-4), 25, 0, 0, 0, -4, []) := rfl
theorem tX7_take_25 : tbX7_take 25 = (.ireturn, 26, 0, 0, 0, 0, []) := rfl
theorem tX7_take_26 : tbX7_take 26 = (.aload_n 0, 27, 0, 0, 0, 0, []) := rfl
theorem tX7_take_27 : tbX7_take 27 = (.invokevirtual 50, 30, 95, 0, 7, 0, []) := rfl
theorem tX7_take_30 : tbX7_take 30 = (.aload_n 0, 31, 0, 0, 0, 0, []) := rfl
theorem tX7_take_31 : tbX7_take 31 = (.iload_n 1, 32, 0, 0, 0, 0, []) := rfl
theorem tX7_take_32 : tbX7_take 32 = (.invokevirtual 106, 35, 119, 1, 7, 0, []) := rfl
theorem tX7_take_35 : tbX7_take 35 = (.iload_n 1, 36, 0, 0, 0, 0, []) := rfl
theorem tX7_take_36 : tbX7_take 36 = (.ireturn, 37, 0, 0, 0, 0, []) := rfl
def ltX7_done : List (Nat × pm_E) := [(0, .aload_n 0, 1, 0, 0, 0, 0, []), (1, .getfield 7, 4, 7, 0, 0, 0, [(0, 0)]), (4, .bipush 10, 6, 0, 0, 0, 10, []), (6, .iaload, 7, 0, 0, 0, 0, []), (7, .ifCond .ne 6, 10, 13, 0, 0, 0, []), (10, .bipush (-2), 12, 0, 0, 0, -2, []), (12, .ireturn, 13, 0, 0, 0, 0, []), (13, .aload_n 0, 14, 0, 0, 0, 0, []), (14, .invokevirtual 50, 17, 95, 0, 7, 0, []), (17, .aload_n 0, 18, 0, 0, 0, 0, []), (18, .invokevirtual 109, 21, 120, 0, 7, 0, []), (21, .ireturn, 22, 0, 0, 0, 0, [])]
def tbX7_done : Nat → pm_E := pm_lk ltX7_done
theorem okX7_done : ∀ pc, (tbX7_done pc).1 = .nop ∨ pm_ok mX7_done pw_Ms pc (tbX7_done pc) := pm_lk_ok (by decide +kernel)
theorem nr_X7_done : mX7_done.2.2.2 = (some .int) := rfl
theorem tX7_done_0 : tbX7_done 0 = (.aload_n 0, 1, 0, 0, 0, 0, []) := rfl
theorem tX7_done_1 : tbX7_done 1 = (.getfield 7, 4, 7, 0, 0, 0, [(0, 0)]) := rfl
theorem tX7_done_4 : tbX7_done 4 = (.bipush 10, 6, 0, 0, 0, 10, []) := rfl
theorem tX7_done_6 : tbX7_done 6 = (.iaload, 7, 0, 0, 0, 0, []) := rfl
theorem tX7_done_7 : tbX7_done 7 = (.ifCond .ne 6, 10, 13, 0, 0, 0, []) := rfl
theorem tX7_done_10 : tbX7_done 10 = (.bipush (-2), 12, 0, 0, 0, -2, []) := rfl
theorem tX7_done_12 : tbX7_done 12 = (.ireturn, 13, 0, 0, 0, 0, []) := rfl
theorem tX7_done_13 : tbX7_done 13 = (.aload_n 0, 14, 0, 0, 0, 0, []) := rfl
theorem tX7_done_14 : tbX7_done 14 = (.invokevirtual 50, 17, 95, 0, 7, 0, []) := rfl
theorem tX7_done_17 : tbX7_done 17 = (.aload_n 0, 18, 0, 0, 0, 0, []) := rfl
theorem tX7_done_18 : tbX7_done 18 = (.invokevirtual 109, 21, 120, 0, 7, 0, []) := rfl
theorem tX7_done_21 : tbX7_done 21 = (.ireturn, 22, 0, 0, 0, 0, []) := rfl
def ltX7_goTicks : List (Nat × pm_E) := [(0, .iconst 0, 1, 0, 0, 0, 0, []), (1, .istore_n 2, 2, 0, 0, 0, 0, []), (2, .iconst 0, 3, 0, 0, 0, 0, []), (3, .istore_n 3, 4, 0, 0, 0, 0, []), (4, .iload_n 3, 5, 0, 0, 0, 0, []), (5, .iload_n 1, 6, 0, 0, 0, 0, []), (6, .if_icmp .ge 93, 9, 99, 0, 0, 0, []), (9, .aload_n 0, 10, 0, 0, 0, 0, []), (10, .getfield 7, 13, 7, 0, 0, 0, [(0, 0)]), (13, .iconst 0, 14, 0, 0, 0, 0, []), (14, .dup2, 15, 0, 0, 0, 0, []), (15, .iaload, 16, 0, 0, 0, 0, []), (16, .iconst 1, 17, 0, 0, 0, 1, []), (17, .iadd, 18, 0, 0, 0, 0, []), (18, .iastore, 19, 0, 0, 0, 0, []), (19, .iconst 0, 20, 0, 0, 0, 0, []), (20, .istore 4, 22, 0, 0, 0, 0, []), (22, .iload 4, 24, 0, 0, 0, 0, []), (24, .aload_n 0, 25, 0, 0, 0, 0, []), (25, .getfield 7, 28, 7, 0, 0, 0, [(0, 0)]), (28, .iconst 4, 29, 0, 0, 0, 4, []), (29, .iaload, 30, 0, 0, 0, 0, []), (30, .if_icmp .ge 63, 33, 93, 0, 0, 0, []), (33, .aload_n 0, 34, 0, 0, 0, 0, []), (34, .getfield 7, 37, 7, 0, 0, 0, [(0, 0)]), (37, .iload 4, 39, 0, 0, 0, 0, []), (39, .invokestatic 57, 42, 99, 1, 0, 0, []), (42, .iconst 4, 43, 0, 0, 0, 4, []), (43, .iadd, 44, 0, 0, 0, 0, []), (44, .iaload, 45, 0, 0, 0, 0, []), (45, .iconst 2, 46, 0, 0, 0, 2, []), (46, .if_icmp .ne 41, 49, 87, 0, 0, 0, []), (49, .aload_n 0, 50, 0, 0, 0, 0, []), (50, .getfield 7, 53, 7, 0, 0, 0, [(0, 0)]), (53, .iload 4, 55, 0, 0, 0, 0, []), (55, .invokestatic 57, 58, 99, 1, 0, 0, []), (58, .bipush 11, 60, 0, 0, 0, 11, []), (60, .iadd, 61, 0, 0, 0, 0, []), (61, .iaload, 62, 0, 0, 0, 0, []), (62, .aload_n 0, 63, 0, 0, 0, 0, []), (63, .getfield 7, 66, 7, 0, 0, 0, [(0, 0)]), (66, .iconst 0, 67, 0, 0, 0, 0, []), (67, .iaload, 68, 0, 0, 0, 0, []), (68, .if_icmp .gt 19, 71, 87, 0, 0, 0, []), (71, .aload_n 0, 72, 0, 0, 0, 0, []), (72, .getfield 7, 75, 7, 0, 0, 0, [(0, 0)]), (75, .iload 4, 77, 0, 0, 0, 0, []), (77, .invokestatic 57, 80, 99, 1, 0, 0, []), (80, .iconst 4, 81, 0, 0, 0, 4, []), (81, .iadd, 82, 0, 0, 0, 0, []), (82, .iconst 0, 83, 0, 0, 0, 0, []), (83, .iastore, 84, 0, 0, 0, 0, []), (84, .iinc 2 1, 87, 0, 0, 0, 1, []), (87, .iinc 4 1, 90, 0, 0, 0, 1, []), (90, .goto (-68), 93, 22, 0, 0, 0, []), (93, .iinc 3 1, 96, 0, 0, 0, 1, []), (96, .goto (-92), 99, 4, 0, 0, 0, []), (99, .aload_n 0, 100, 0, 0, 0, 0, []), (100, .getfield 7, 103, 7, 0, 0, 0, [(0, 0)]), (103, .bipush 9, 105, 0, 0, 0, 9, []), (105, .dup2, 106, 0, 0, 0, 0, []), (106, .iaload, 107, 0, 0, 0, 0, []), (107, .iload_n 2, 108, 0, 0, 0, 0, []), (108, .iadd, 109, 0, 0, 0, 0, []), (109, .iastore, 110, 0, 0, 0, 0, []), (110, .iload_n 2, 111, 0, 0, 0, 0, []), (111, .ireturn, 112, 0, 0, 0, 0, [])]
def tbX7_goTicks : Nat → pm_E := pm_lk ltX7_goTicks
theorem okX7_goTicks : ∀ pc, (tbX7_goTicks pc).1 = .nop ∨ pm_ok mX7_goTicks pw_Ms pc (tbX7_goTicks pc) := pm_lk_ok (by decide +kernel)
theorem nr_X7_goTicks : mX7_goTicks.2.2.2 = (some .int) := rfl
theorem tX7_goTicks_0 : tbX7_goTicks 0 = (.iconst 0, 1, 0, 0, 0, 0, []) := rfl
theorem tX7_goTicks_1 : tbX7_goTicks 1 = (.istore_n 2, 2, 0, 0, 0, 0, []) := rfl
theorem tX7_goTicks_2 : tbX7_goTicks 2 = (.iconst 0, 3, 0, 0, 0, 0, []) := rfl
theorem tX7_goTicks_3 : tbX7_goTicks 3 = (.istore_n 3, 4, 0, 0, 0, 0, []) := rfl
theorem tX7_goTicks_4 : tbX7_goTicks 4 = (.iload_n 3, 5, 0, 0, 0, 0, []) := rfl
theorem tX7_goTicks_5 : tbX7_goTicks 5 = (.iload_n 1, 6, 0, 0, 0, 0, []) := rfl
theorem tX7_goTicks_6 : tbX7_goTicks 6 = (.if_icmp .ge 93, 9, 99, 0, 0, 0, []) := rfl
theorem tX7_goTicks_9 : tbX7_goTicks 9 = (.aload_n 0, 10, 0, 0, 0, 0, []) := rfl
theorem tX7_goTicks_10 : tbX7_goTicks 10 = (.getfield 7, 13, 7, 0, 0, 0, [(0, 0)]) := rfl
theorem tX7_goTicks_13 : tbX7_goTicks 13 = (.iconst 0, 14, 0, 0, 0, 0, []) := rfl
theorem tX7_goTicks_14 : tbX7_goTicks 14 = (.dup2, 15, 0, 0, 0, 0, []) := rfl
theorem tX7_goTicks_15 : tbX7_goTicks 15 = (.iaload, 16, 0, 0, 0, 0, []) := rfl
theorem tX7_goTicks_16 : tbX7_goTicks 16 = (.iconst 1, 17, 0, 0, 0, 1, []) := rfl
theorem tX7_goTicks_17 : tbX7_goTicks 17 = (.iadd, 18, 0, 0, 0, 0, []) := rfl
theorem tX7_goTicks_18 : tbX7_goTicks 18 = (.iastore, 19, 0, 0, 0, 0, []) := rfl
theorem tX7_goTicks_19 : tbX7_goTicks 19 = (.iconst 0, 20, 0, 0, 0, 0, []) := rfl
theorem tX7_goTicks_20 : tbX7_goTicks 20 = (.istore 4, 22, 0, 0, 0, 0, []) := rfl
theorem tX7_goTicks_22 : tbX7_goTicks 22 = (.iload 4, 24, 0, 0, 0, 0, []) := rfl
theorem tX7_goTicks_24 : tbX7_goTicks 24 = (.aload_n 0, 25, 0, 0, 0, 0, []) := rfl
theorem tX7_goTicks_25 : tbX7_goTicks 25 = (.getfield 7, 28, 7, 0, 0, 0, [(0, 0)]) := rfl
theorem tX7_goTicks_28 : tbX7_goTicks 28 = (.iconst 4, 29, 0, 0, 0, 4, []) := rfl
theorem tX7_goTicks_29 : tbX7_goTicks 29 = (.iaload, 30, 0, 0, 0, 0, []) := rfl
theorem tX7_goTicks_30 : tbX7_goTicks 30 = (.if_icmp .ge 63, 33, 93, 0, 0, 0, []) := rfl
theorem tX7_goTicks_33 : tbX7_goTicks 33 = (.aload_n 0, 34, 0, 0, 0, 0, []) := rfl
theorem tX7_goTicks_34 : tbX7_goTicks 34 = (.getfield 7, 37, 7, 0, 0, 0, [(0, 0)]) := rfl
theorem tX7_goTicks_37 : tbX7_goTicks 37 = (.iload 4, 39, 0, 0, 0, 0, []) := rfl
theorem tX7_goTicks_39 : tbX7_goTicks 39 = (.invokestatic 57, 42, 99, 1, 0, 0, []) := rfl
theorem tX7_goTicks_42 : tbX7_goTicks 42 = (.iconst 4, 43, 0, 0, 0, 4, []) := rfl
theorem tX7_goTicks_43 : tbX7_goTicks 43 = (.iadd, 44, 0, 0, 0, 0, []) := rfl
theorem tX7_goTicks_44 : tbX7_goTicks 44 = (.iaload, 45, 0, 0, 0, 0, []) := rfl
theorem tX7_goTicks_45 : tbX7_goTicks 45 = (.iconst 2, 46, 0, 0, 0, 2, []) := rfl
theorem tX7_goTicks_46 : tbX7_goTicks 46 = (.if_icmp .ne 41, 49, 87, 0, 0, 0, []) := rfl
theorem tX7_goTicks_49 : tbX7_goTicks 49 = (.aload_n 0, 50, 0, 0, 0, 0, []) := rfl
theorem tX7_goTicks_50 : tbX7_goTicks 50 = (.getfield 7, 53, 7, 0, 0, 0, [(0, 0)]) := rfl
theorem tX7_goTicks_53 : tbX7_goTicks 53 = (.iload 4, 55, 0, 0, 0, 0, []) := rfl
theorem tX7_goTicks_55 : tbX7_goTicks 55 = (.invokestatic 57, 58, 99, 1, 0, 0, []) := rfl
theorem tX7_goTicks_58 : tbX7_goTicks 58 = (.bipush 11, 60, 0, 0, 0, 11, []) := rfl
theorem tX7_goTicks_60 : tbX7_goTicks 60 = (.iadd, 61, 0, 0, 0, 0, []) := rfl
theorem tX7_goTicks_61 : tbX7_goTicks 61 = (.iaload, 62, 0, 0, 0, 0, []) := rfl
theorem tX7_goTicks_62 : tbX7_goTicks 62 = (.aload_n 0, 63, 0, 0, 0, 0, []) := rfl
theorem tX7_goTicks_63 : tbX7_goTicks 63 = (.getfield 7, 66, 7, 0, 0, 0, [(0, 0)]) := rfl
theorem tX7_goTicks_66 : tbX7_goTicks 66 = (.iconst 0, 67, 0, 0, 0, 0, []) := rfl
theorem tX7_goTicks_67 : tbX7_goTicks 67 = (.iaload, 68, 0, 0, 0, 0, []) := rfl
theorem tX7_goTicks_68 : tbX7_goTicks 68 = (.if_icmp .gt 19, 71, 87, 0, 0, 0, []) := rfl
theorem tX7_goTicks_71 : tbX7_goTicks 71 = (.aload_n 0, 72, 0, 0, 0, 0, []) := rfl
theorem tX7_goTicks_72 : tbX7_goTicks 72 = (.getfield 7, 75, 7, 0, 0, 0, [(0, 0)]) := rfl
theorem tX7_goTicks_75 : tbX7_goTicks 75 = (.iload 4, 77, 0, 0, 0, 0, []) := rfl
theorem tX7_goTicks_77 : tbX7_goTicks 77 = (.invokestatic 57, 80, 99, 1, 0, 0, []) := rfl
theorem tX7_goTicks_80 : tbX7_goTicks 80 = (.iconst 4, 81, 0, 0, 0, 4, []) := rfl
theorem tX7_goTicks_81 : tbX7_goTicks 81 = (.iadd, 82, 0, 0, 0, 0, []) := rfl
theorem tX7_goTicks_82 : tbX7_goTicks 82 = (.iconst 0, 83, 0, 0, 0, 0, []) := rfl
theorem tX7_goTicks_83 : tbX7_goTicks 83 = (.iastore, 84, 0, 0, 0, 0, []) := rfl
theorem tX7_goTicks_84 : tbX7_goTicks 84 = (.iinc 2 1, 87, 0, 0, 0, 1, []) := rfl
theorem tX7_goTicks_87 : tbX7_goTicks 87 = (.iinc 4 1, 90, 0, 0, 0, 1, []) := rfl
theorem tX7_goTicks_90 : tbX7_goTicks 90 = (.goto (-68), 93, 22, 0, 0, 0, []) := rfl
theorem tX7_goTicks_93 : tbX7_goTicks 93 = (.iinc 3 1, 96, 0, 0, 0, 1, []) := rfl
theorem tX7_goTicks_96 : tbX7_goTicks 96 = (.goto (-92), 99, 4, 0, 0, 0, []) := rfl
theorem tX7_goTicks_99 : tbX7_goTicks 99 = (.aload_n 0, 100, 0, 0, 0, 0, []) := rfl
theorem tX7_goTicks_100 : tbX7_goTicks 100 = (.getfield 7, 103, 7, 0, 0, 0, [(0, 0)]) := rfl
theorem tX7_goTicks_103 : tbX7_goTicks 103 = (.bipush 9, 105, 0, 0, 0, 9, []) := rfl
theorem tX7_goTicks_105 : tbX7_goTicks 105 = (.dup2, 106, 0, 0, 0, 0, []) := rfl
theorem tX7_goTicks_106 : tbX7_goTicks 106 = (.iaload, 107, 0, 0, 0, 0, []) := rfl
theorem tX7_goTicks_107 : tbX7_goTicks 107 = (.iload_n 2, 108, 0, 0, 0, 0, []) := rfl
theorem tX7_goTicks_108 : tbX7_goTicks 108 = (.iadd, 109, 0, 0, 0, 0, []) := rfl
theorem tX7_goTicks_109 : tbX7_goTicks 109 = (.iastore, 110, 0, 0, 0, 0, []) := rfl
theorem tX7_goTicks_110 : tbX7_goTicks 110 = (.iload_n 2, 111, 0, 0, 0, 0, []) := rfl
theorem tX7_goTicks_111 : tbX7_goTicks 111 = (.ireturn, 112, 0, 0, 0, 0, []) := rfl
def ltX7_tick : List (Nat × pm_E) := [(0, .iload_n 1, 1, 0, 0, 0, 0, []), (1, .iconst 1, 2, 0, 0, 0, 1, []), (2, .bipush 99, 4, 0, 0, 0, 99, []), (4, .invokestatic 35, 7, 94, 3, 0, 0, []), (7, .ifCond .ne 5, 10, 12, 0, 0, 0, []), (10, .iconst (-1), 11, 0, 0, 0, -1, []), (11, .ireturn, 12, 0, 0, 0, 0, []), (12, .aload_n 0, 13, 0, 0, 0, 0, []), (13, .getfield 7, 16, 7, 0, 0, 0, [(0, 0)]), (16, .iconst 0, 17, 0, 0, 0, 0, []), (17, .iaload, 18, 0, 0, 0, 0, []), (18, .iload_n 1, 19, 0, 0, 0, 0, []), (19, .iadd, 20, 0, 0, 0, 0, []), (20, .ldc 112, 22, 0, 0, 0, 50000, []), (22, .if_icmp .le 6, 25, 28, 0, 0, 0, []), (25, .bipush (-3), 27, 0, 0, 0, -3, []), (27, .ireturn, 28, 0, 0, 0, 0, []), (28, .aload_n 0, 29, 0, 0, 0, 0, []), (29, .invokevirtual 50, 32, 95, 0, 7, 0, []), (32, .aload_n 0, 33, 0, 0, 0, 0, []), (33, .iload_n 1, 34, 0, 0, 0, 0, []), (34, .invokevirtual 113, 37, 131, 1, 7, 0, []), (37, .ireturn, 38, 0, 0, 0, 0, [])]
def tbX7_tick : Nat → pm_E := pm_lk ltX7_tick
theorem okX7_tick : ∀ pc, (tbX7_tick pc).1 = .nop ∨ pm_ok mX7_tick pw_Ms pc (tbX7_tick pc) := pm_lk_ok (by decide +kernel)
theorem nr_X7_tick : mX7_tick.2.2.2 = (some .int) := rfl
theorem tX7_tick_0 : tbX7_tick 0 = (.iload_n 1, 1, 0, 0, 0, 0, []) := rfl
theorem tX7_tick_1 : tbX7_tick 1 = (.iconst 1, 2, 0, 0, 0, 1, []) := rfl
theorem tX7_tick_2 : tbX7_tick 2 = (.bipush 99, 4, 0, 0, 0, 99, []) := rfl
theorem tX7_tick_4 : tbX7_tick 4 = (.invokestatic 35, 7, 94, 3, 0, 0, []) := rfl
theorem tX7_tick_7 : tbX7_tick 7 = (.ifCond .ne 5, 10, 12, 0, 0, 0, []) := rfl
theorem tX7_tick_10 : tbX7_tick 10 = (.iconst (-1), 11, 0, 0, 0, -1, []) := rfl
theorem tX7_tick_11 : tbX7_tick 11 = (.ireturn, 12, 0, 0, 0, 0, []) := rfl
theorem tX7_tick_12 : tbX7_tick 12 = (.aload_n 0, 13, 0, 0, 0, 0, []) := rfl
theorem tX7_tick_13 : tbX7_tick 13 = (.getfield 7, 16, 7, 0, 0, 0, [(0, 0)]) := rfl
theorem tX7_tick_16 : tbX7_tick 16 = (.iconst 0, 17, 0, 0, 0, 0, []) := rfl
theorem tX7_tick_17 : tbX7_tick 17 = (.iaload, 18, 0, 0, 0, 0, []) := rfl
theorem tX7_tick_18 : tbX7_tick 18 = (.iload_n 1, 19, 0, 0, 0, 0, []) := rfl
theorem tX7_tick_19 : tbX7_tick 19 = (.iadd, 20, 0, 0, 0, 0, []) := rfl
theorem tX7_tick_20 : tbX7_tick 20 = (.ldc 112, 22, 0, 0, 0, 50000, []) := rfl
theorem tX7_tick_22 : tbX7_tick 22 = (.if_icmp .le 6, 25, 28, 0, 0, 0, []) := rfl
theorem tX7_tick_25 : tbX7_tick 25 = (.bipush (-3), 27, 0, 0, 0, -3, []) := rfl
theorem tX7_tick_27 : tbX7_tick 27 = (.ireturn, 28, 0, 0, 0, 0, []) := rfl
theorem tX7_tick_28 : tbX7_tick 28 = (.aload_n 0, 29, 0, 0, 0, 0, []) := rfl
theorem tX7_tick_29 : tbX7_tick 29 = (.invokevirtual 50, 32, 95, 0, 7, 0, []) := rfl
theorem tX7_tick_32 : tbX7_tick 32 = (.aload_n 0, 33, 0, 0, 0, 0, []) := rfl
theorem tX7_tick_33 : tbX7_tick 33 = (.iload_n 1, 34, 0, 0, 0, 0, []) := rfl
theorem tX7_tick_34 : tbX7_tick 34 = (.invokevirtual 113, 37, 131, 1, 7, 0, []) := rfl
theorem tX7_tick_37 : tbX7_tick 37 = (.ireturn, 38, 0, 0, 0, 0, []) := rfl
def ltX7_next : List (Nat × pm_E) := [(0, .aload_n 0, 1, 0, 0, 0, 0, []), (1, .invokevirtual 102, 4, 116, 0, 7, 0, []), (4, .istore_n 1, 5, 0, 0, 0, 0, []), (5, .iload_n 1, 6, 0, 0, 0, 0, []), (6, .ifCond .ge 8, 9, 14, 0, 0, 0, []), (9, .bipush (-4), 11, 0, 0, 0, -4, []), (11, .goto 4, 14, 15, 0, 0, 0, []), (14, .iload_n 1, 15, 0, 0, 0, 0, []), (15, .ireturn, 16, 0, 0, 0, 0, [])]
def tbX7_next : Nat → pm_E := pm_lk ltX7_next
theorem okX7_next : ∀ pc, (tbX7_next pc).1 = .nop ∨ pm_ok mX7_next pw_Ms pc (tbX7_next pc) := pm_lk_ok (by decide +kernel)
theorem nr_X7_next : mX7_next.2.2.2 = (some .int) := rfl
theorem tX7_next_0 : tbX7_next 0 = (.aload_n 0, 1, 0, 0, 0, 0, []) := rfl
theorem tX7_next_1 : tbX7_next 1 = (.invokevirtual 102, 4, 116, 0, 7, 0, []) := rfl
theorem tX7_next_4 : tbX7_next 4 = (.istore_n 1, 5, 0, 0, 0, 0, []) := rfl
theorem tX7_next_5 : tbX7_next 5 = (.iload_n 1, 6, 0, 0, 0, 0, []) := rfl
theorem tX7_next_6 : tbX7_next 6 = (.ifCond .ge 8, 9, 14, 0, 0, 0, []) := rfl
theorem tX7_next_9 : tbX7_next 9 = (.bipush (-4), 11, 0, 0, 0, -4, []) := rfl
theorem tX7_next_11 : tbX7_next 11 = (.goto 4, 14, 15, 0, 0, 0, []) := rfl
theorem tX7_next_14 : tbX7_next 14 = (.iload_n 1, 15, 0, 0, 0, 0, []) := rfl
theorem tX7_next_15 : tbX7_next 15 = (.ireturn, 16, 0, 0, 0, 0, []) := rfl
def ltX7_orderAt : List (Nat × pm_E) := [(0, .iload_n 1, 1, 0, 0, 0, 0, []), (1, .ifCond .ge 5, 4, 6, 0, 0, 0, []), (4, .iconst (-1), 5, 0, 0, 0, -1, []), (5, .ireturn, 6, 0, 0, 0, 0, []), (6, .aload_n 0, 7, 0, 0, 0, 0, []), (7, .invokevirtual 116, 10, 96, 0, 7, 0, []), (10, .aload_n 0, 11, 0, 0, 0, 0, []), (11, .invokevirtual 102, 14, 116, 0, 7, 0, []), (14, .istore_n 2, 15, 0, 0, 0, 0, []), (15, .iconst 0, 16, 0, 0, 0, 0, []), (16, .istore_n 3, 17, 0, 0, 0, 0, []), (17, .iload_n 3, 18, 0, 0, 0, 0, []), (18, .iload_n 1, 19, 0, 0, 0, 0, []), (19, .if_icmp .ge 35, 22, 54, 0, 0, 0, []), (22, .iload_n 2, 23, 0, 0, 0, 0, []), (23, .ifCond .lt 31, 26, 54, 0, 0, 0, []), (26, .aload_n 0, 27, 0, 0, 0, 0, []), (27, .getfield 7, 30, 7, 0, 0, 0, [(0, 0)]), (30, .iload_n 2, 31, 0, 0, 0, 0, []), (31, .invokestatic 57, 34, 99, 1, 0, 0, []), (34, .iconst 3, 35, 0, 0, 0, 3, []), (35, .iadd, 36, 0, 0, 0, 0, []), (36, .iconst 0, 37, 0, 0, 0, 0, []), (37, .iastore, 38, 0, 0, 0, 0, []), (38, .aload_n 0, 39, 0, 0, 0, 0, []), (39, .iload_n 2, 40, 0, 0, 0, 0, []), (40, .invokevirtual 88, 43, 118, 1, 7, 0, []), (43, .aload_n 0, 44, 0, 0, 0, 0, []), (44, .invokevirtual 102, 47, 116, 0, 7, 0, []), (47, .istore_n 2, 48, 0, 0, 0, 0, []), (48, .iinc 3 1, 51, 0, 0, 0, 1, []), (51, .goto (-34), 54, 17, 0, 0, 0, []), (54, .aload_n 0, 55, 0, 0, 0, 0, []), (55, .invokevirtual 119, 58, 97, 0, 7, 0, []), (58, .iload_n 2, 59, 0, 0, 0, 0, []), (59, .ifCond .ge 8, 62, 67, 0, 0, 0, []), (62, .bipush (-4), 64, 0, 0, 0, -4, []), (64, .goto 4, 67, 68, 0, 0, 0, []), (67, .iload_n 2, 68, 0, 0, 0, 0, []), (68, .ireturn, 69, 0, 0, 0, 0, [])]
def tbX7_orderAt : Nat → pm_E := pm_lk ltX7_orderAt
theorem okX7_orderAt : ∀ pc, (tbX7_orderAt pc).1 = .nop ∨ pm_ok mX7_orderAt pw_Ms pc (tbX7_orderAt pc) := pm_lk_ok (by decide +kernel)
theorem nr_X7_orderAt : mX7_orderAt.2.2.2 = (some .int) := rfl
theorem tX7_orderAt_0 : tbX7_orderAt 0 = (.iload_n 1, 1, 0, 0, 0, 0, []) := rfl
theorem tX7_orderAt_1 : tbX7_orderAt 1 = (.ifCond .ge 5, 4, 6, 0, 0, 0, []) := rfl
theorem tX7_orderAt_4 : tbX7_orderAt 4 = (.iconst (-1), 5, 0, 0, 0, -1, []) := rfl
theorem tX7_orderAt_5 : tbX7_orderAt 5 = (.ireturn, 6, 0, 0, 0, 0, []) := rfl
theorem tX7_orderAt_6 : tbX7_orderAt 6 = (.aload_n 0, 7, 0, 0, 0, 0, []) := rfl
theorem tX7_orderAt_7 : tbX7_orderAt 7 = (.invokevirtual 116, 10, 96, 0, 7, 0, []) := rfl
theorem tX7_orderAt_10 : tbX7_orderAt 10 = (.aload_n 0, 11, 0, 0, 0, 0, []) := rfl
theorem tX7_orderAt_11 : tbX7_orderAt 11 = (.invokevirtual 102, 14, 116, 0, 7, 0, []) := rfl
theorem tX7_orderAt_14 : tbX7_orderAt 14 = (.istore_n 2, 15, 0, 0, 0, 0, []) := rfl
theorem tX7_orderAt_15 : tbX7_orderAt 15 = (.iconst 0, 16, 0, 0, 0, 0, []) := rfl
theorem tX7_orderAt_16 : tbX7_orderAt 16 = (.istore_n 3, 17, 0, 0, 0, 0, []) := rfl
theorem tX7_orderAt_17 : tbX7_orderAt 17 = (.iload_n 3, 18, 0, 0, 0, 0, []) := rfl
theorem tX7_orderAt_18 : tbX7_orderAt 18 = (.iload_n 1, 19, 0, 0, 0, 0, []) := rfl
theorem tX7_orderAt_19 : tbX7_orderAt 19 = (.if_icmp .ge 35, 22, 54, 0, 0, 0, []) := rfl
theorem tX7_orderAt_22 : tbX7_orderAt 22 = (.iload_n 2, 23, 0, 0, 0, 0, []) := rfl
theorem tX7_orderAt_23 : tbX7_orderAt 23 = (.ifCond .lt 31, 26, 54, 0, 0, 0, []) := rfl
theorem tX7_orderAt_26 : tbX7_orderAt 26 = (.aload_n 0, 27, 0, 0, 0, 0, []) := rfl
theorem tX7_orderAt_27 : tbX7_orderAt 27 = (.getfield 7, 30, 7, 0, 0, 0, [(0, 0)]) := rfl
theorem tX7_orderAt_30 : tbX7_orderAt 30 = (.iload_n 2, 31, 0, 0, 0, 0, []) := rfl
theorem tX7_orderAt_31 : tbX7_orderAt 31 = (.invokestatic 57, 34, 99, 1, 0, 0, []) := rfl
theorem tX7_orderAt_34 : tbX7_orderAt 34 = (.iconst 3, 35, 0, 0, 0, 3, []) := rfl
theorem tX7_orderAt_35 : tbX7_orderAt 35 = (.iadd, 36, 0, 0, 0, 0, []) := rfl
theorem tX7_orderAt_36 : tbX7_orderAt 36 = (.iconst 0, 37, 0, 0, 0, 0, []) := rfl
theorem tX7_orderAt_37 : tbX7_orderAt 37 = (.iastore, 38, 0, 0, 0, 0, []) := rfl
theorem tX7_orderAt_38 : tbX7_orderAt 38 = (.aload_n 0, 39, 0, 0, 0, 0, []) := rfl
theorem tX7_orderAt_39 : tbX7_orderAt 39 = (.iload_n 2, 40, 0, 0, 0, 0, []) := rfl
theorem tX7_orderAt_40 : tbX7_orderAt 40 = (.invokevirtual 88, 43, 118, 1, 7, 0, []) := rfl
theorem tX7_orderAt_43 : tbX7_orderAt 43 = (.aload_n 0, 44, 0, 0, 0, 0, []) := rfl
theorem tX7_orderAt_44 : tbX7_orderAt 44 = (.invokevirtual 102, 47, 116, 0, 7, 0, []) := rfl
theorem tX7_orderAt_47 : tbX7_orderAt 47 = (.istore_n 2, 48, 0, 0, 0, 0, []) := rfl
theorem tX7_orderAt_48 : tbX7_orderAt 48 = (.iinc 3 1, 51, 0, 0, 0, 1, []) := rfl
theorem tX7_orderAt_51 : tbX7_orderAt 51 = (.goto (-34), 54, 17, 0, 0, 0, []) := rfl
theorem tX7_orderAt_54 : tbX7_orderAt 54 = (.aload_n 0, 55, 0, 0, 0, 0, []) := rfl
theorem tX7_orderAt_55 : tbX7_orderAt 55 = (.invokevirtual 119, 58, 97, 0, 7, 0, []) := rfl
theorem tX7_orderAt_58 : tbX7_orderAt 58 = (.iload_n 2, 59, 0, 0, 0, 0, []) := rfl
theorem tX7_orderAt_59 : tbX7_orderAt 59 = (.ifCond .ge 8, 62, 67, 0, 0, 0, []) := rfl
theorem tX7_orderAt_62 : tbX7_orderAt 62 = (.bipush (-4), 64, 0, 0, 0, -4, []) := rfl
theorem tX7_orderAt_64 : tbX7_orderAt 64 = (.goto 4, 67, 68, 0, 0, 0, []) := rfl
theorem tX7_orderAt_67 : tbX7_orderAt 67 = (.iload_n 2, 68, 0, 0, 0, 0, []) := rfl
theorem tX7_orderAt_68 : tbX7_orderAt 68 = (.ireturn, 69, 0, 0, 0, 0, []) := rfl
def ltX7_serviceAt : List (Nat × pm_E) := [(0, .iload_n 1, 1, 0, 0, 0, 0, []), (1, .ifCond .ge 5, 4, 6, 0, 0, 0, []), (4, .iconst (-1), 5, 0, 0, 0, -1, []), (5, .ireturn, 6, 0, 0, 0, 0, []), (6, .iload_n 1, 7, 0, 0, 0, 0, []), (7, .aload_n 0, 8, 0, 0, 0, 0, []), (8, .getfield 7, 11, 7, 0, 0, 0, [(0, 0)]), (11, .bipush 10, 13, 0, 0, 0, 10, []), (13, .iaload, 14, 0, 0, 0, 0, []), (14, .if_icmp .ge 25, 17, 39, 0, 0, 0, []), (17, .aload_n 0, 18, 0, 0, 0, 0, []), (18, .getfield 7, 21, 7, 0, 0, 0, [(0, 0)]), (21, .bipush 11, 23, 0, 0, 0, 11, []), (23, .aload_n 0, 24, 0, 0, 0, 0, []), (24, .getfield 7, 27, 7, 0, 0, 0, [(0, 0)]), (27, .bipush 10, 29, 0, 0, 0, 10, []), (29, .iaload, 30, 0, 0, 0, 0, []), (30, .iadd, 31, 0, 0, 0, 0, []), (31, .iconst 1, 32, 0, 0, 0, 1, []), (32, .isub, 33, 0, 0, 0, 0, []), (33, .iload_n 1, 34, 0, 0, 0, 0, []), (34, .isub, 35, 0, 0, 0, 0, []), (35, .iaload, 36, 0, 0, 0, 0, []), (36, .goto 5, 39, 41, 0, 0, 0, []), (39, .bipush (-4), 41, 0, 0, 0, -4, []), (41, .ireturn, 42, 0, 0, 0, 0, [])]
def tbX7_serviceAt : Nat → pm_E := pm_lk ltX7_serviceAt
theorem okX7_serviceAt : ∀ pc, (tbX7_serviceAt pc).1 = .nop ∨ pm_ok mX7_serviceAt pw_Ms pc (tbX7_serviceAt pc) := pm_lk_ok (by decide +kernel)
theorem nr_X7_serviceAt : mX7_serviceAt.2.2.2 = (some .int) := rfl
theorem tX7_serviceAt_0 : tbX7_serviceAt 0 = (.iload_n 1, 1, 0, 0, 0, 0, []) := rfl
theorem tX7_serviceAt_1 : tbX7_serviceAt 1 = (.ifCond .ge 5, 4, 6, 0, 0, 0, []) := rfl
theorem tX7_serviceAt_4 : tbX7_serviceAt 4 = (.iconst (-1), 5, 0, 0, 0, -1, []) := rfl
theorem tX7_serviceAt_5 : tbX7_serviceAt 5 = (.ireturn, 6, 0, 0, 0, 0, []) := rfl
theorem tX7_serviceAt_6 : tbX7_serviceAt 6 = (.iload_n 1, 7, 0, 0, 0, 0, []) := rfl
theorem tX7_serviceAt_7 : tbX7_serviceAt 7 = (.aload_n 0, 8, 0, 0, 0, 0, []) := rfl
theorem tX7_serviceAt_8 : tbX7_serviceAt 8 = (.getfield 7, 11, 7, 0, 0, 0, [(0, 0)]) := rfl
theorem tX7_serviceAt_11 : tbX7_serviceAt 11 = (.bipush 10, 13, 0, 0, 0, 10, []) := rfl
theorem tX7_serviceAt_13 : tbX7_serviceAt 13 = (.iaload, 14, 0, 0, 0, 0, []) := rfl
theorem tX7_serviceAt_14 : tbX7_serviceAt 14 = (.if_icmp .ge 25, 17, 39, 0, 0, 0, []) := rfl
theorem tX7_serviceAt_17 : tbX7_serviceAt 17 = (.aload_n 0, 18, 0, 0, 0, 0, []) := rfl
theorem tX7_serviceAt_18 : tbX7_serviceAt 18 = (.getfield 7, 21, 7, 0, 0, 0, [(0, 0)]) := rfl
theorem tX7_serviceAt_21 : tbX7_serviceAt 21 = (.bipush 11, 23, 0, 0, 0, 11, []) := rfl
theorem tX7_serviceAt_23 : tbX7_serviceAt 23 = (.aload_n 0, 24, 0, 0, 0, 0, []) := rfl
theorem tX7_serviceAt_24 : tbX7_serviceAt 24 = (.getfield 7, 27, 7, 0, 0, 0, [(0, 0)]) := rfl
theorem tX7_serviceAt_27 : tbX7_serviceAt 27 = (.bipush 10, 29, 0, 0, 0, 10, []) := rfl
theorem tX7_serviceAt_29 : tbX7_serviceAt 29 = (.iaload, 30, 0, 0, 0, 0, []) := rfl
theorem tX7_serviceAt_30 : tbX7_serviceAt 30 = (.iadd, 31, 0, 0, 0, 0, []) := rfl
theorem tX7_serviceAt_31 : tbX7_serviceAt 31 = (.iconst 1, 32, 0, 0, 0, 1, []) := rfl
theorem tX7_serviceAt_32 : tbX7_serviceAt 32 = (.isub, 33, 0, 0, 0, 0, []) := rfl
theorem tX7_serviceAt_33 : tbX7_serviceAt 33 = (.iload_n 1, 34, 0, 0, 0, 0, []) := rfl
theorem tX7_serviceAt_34 : tbX7_serviceAt 34 = (.isub, 35, 0, 0, 0, 0, []) := rfl
theorem tX7_serviceAt_35 : tbX7_serviceAt 35 = (.iaload, 36, 0, 0, 0, 0, []) := rfl
theorem tX7_serviceAt_36 : tbX7_serviceAt 36 = (.goto 5, 39, 41, 0, 0, 0, []) := rfl
theorem tX7_serviceAt_39 : tbX7_serviceAt 39 = (.bipush (-4), 41, 0, 0, 0, -4, []) := rfl
theorem tX7_serviceAt_41 : tbX7_serviceAt 41 = (.ireturn, 42, 0, 0, 0, 0, []) := rfl
def ltX7_isAhead : List (Nat × pm_E) := [(0, .aload_n 0, 1, 0, 0, 0, 0, []), (1, .getfield 7, 4, 7, 0, 0, 0, [(0, 0)]), (4, .iload_n 1, 5, 0, 0, 0, 0, []), (5, .invokestatic 57, 8, 99, 1, 0, 0, []), (8, .bipush 11, 10, 0, 0, 0, 11, []), (10, .iadd, 11, 0, 0, 0, 0, []), (11, .iaload, 12, 0, 0, 0, 0, []), (12, .aload_n 0, 13, 0, 0, 0, 0, []), (13, .getfield 7, 16, 7, 0, 0, 0, [(0, 0)]), (16, .iload_n 2, 17, 0, 0, 0, 0, []), (17, .invokestatic 57, 20, 99, 1, 0, 0, []), (20, .bipush 11, 22, 0, 0, 0, 11, []), (22, .iadd, 23, 0, 0, 0, 0, []), (23, .iaload, 24, 0, 0, 0, 0, []), (24, .isub, 25, 0, 0, 0, 0, []), (25, .istore_n 3, 26, 0, 0, 0, 0, []), (26, .iload_n 3, 27, 0, 0, 0, 0, []), (27, .ifCond .lt 34, 30, 61, 0, 0, 0, []), (30, .iload_n 3, 31, 0, 0, 0, 0, []), (31, .ifCond .ne 34, 34, 65, 0, 0, 0, []), (34, .aload_n 0, 35, 0, 0, 0, 0, []), (35, .getfield 7, 38, 7, 0, 0, 0, [(0, 0)]), (38, .iload_n 1, 39, 0, 0, 0, 0, []), (39, .invokestatic 57, 42, 99, 1, 0, 0, []), (42, .bipush 12, 44, 0, 0, 0, 12, []), (44, .iadd, 45, 0, 0, 0, 0, []), (45, .iaload, 46, 0, 0, 0, 0, []), (46, .aload_n 0, 47, 0, 0, 0, 0, []), (47, .getfield 7, 50, 7, 0, 0, 0, [(0, 0)]), (50, .iload_n 2, 51, 0, 0, 0, 0, []), (51, .invokestatic 57, 54, 99, 1, 0, 0, []), (54, .bipush 12, 56, 0, 0, 0, 12, []), (56, .iadd, 57, 0, 0, 0, 0, []), (57, .iaload, 58, 0, 0, 0, 0, []), (58, .if_icmp .ge 7, 61, 65, 0, 0, 0, []), (61, .iconst 1, 62, 0, 0, 0, 1, []), (62, .goto 4, 65, 66, 0, 0, 0, []), (65, .iconst 0, 66, 0, 0, 0, 0, []), (66, .ireturn, 67, 0, 0, 0, 0, [])]
def tbX7_isAhead : Nat → pm_E := pm_lk ltX7_isAhead
theorem okX7_isAhead : ∀ pc, (tbX7_isAhead pc).1 = .nop ∨ pm_ok mX7_isAhead pw_Ms pc (tbX7_isAhead pc) := pm_lk_ok (by decide +kernel)
theorem nr_X7_isAhead : mX7_isAhead.2.2.2 = (some .boolean) := rfl
theorem tX7_isAhead_0 : tbX7_isAhead 0 = (.aload_n 0, 1, 0, 0, 0, 0, []) := rfl
theorem tX7_isAhead_1 : tbX7_isAhead 1 = (.getfield 7, 4, 7, 0, 0, 0, [(0, 0)]) := rfl
theorem tX7_isAhead_4 : tbX7_isAhead 4 = (.iload_n 1, 5, 0, 0, 0, 0, []) := rfl
theorem tX7_isAhead_5 : tbX7_isAhead 5 = (.invokestatic 57, 8, 99, 1, 0, 0, []) := rfl
theorem tX7_isAhead_8 : tbX7_isAhead 8 = (.bipush 11, 10, 0, 0, 0, 11, []) := rfl
theorem tX7_isAhead_10 : tbX7_isAhead 10 = (.iadd, 11, 0, 0, 0, 0, []) := rfl
theorem tX7_isAhead_11 : tbX7_isAhead 11 = (.iaload, 12, 0, 0, 0, 0, []) := rfl
theorem tX7_isAhead_12 : tbX7_isAhead 12 = (.aload_n 0, 13, 0, 0, 0, 0, []) := rfl
theorem tX7_isAhead_13 : tbX7_isAhead 13 = (.getfield 7, 16, 7, 0, 0, 0, [(0, 0)]) := rfl
theorem tX7_isAhead_16 : tbX7_isAhead 16 = (.iload_n 2, 17, 0, 0, 0, 0, []) := rfl
theorem tX7_isAhead_17 : tbX7_isAhead 17 = (.invokestatic 57, 20, 99, 1, 0, 0, []) := rfl
theorem tX7_isAhead_20 : tbX7_isAhead 20 = (.bipush 11, 22, 0, 0, 0, 11, []) := rfl
theorem tX7_isAhead_22 : tbX7_isAhead 22 = (.iadd, 23, 0, 0, 0, 0, []) := rfl
theorem tX7_isAhead_23 : tbX7_isAhead 23 = (.iaload, 24, 0, 0, 0, 0, []) := rfl
theorem tX7_isAhead_24 : tbX7_isAhead 24 = (.isub, 25, 0, 0, 0, 0, []) := rfl
theorem tX7_isAhead_25 : tbX7_isAhead 25 = (.istore_n 3, 26, 0, 0, 0, 0, []) := rfl
theorem tX7_isAhead_26 : tbX7_isAhead 26 = (.iload_n 3, 27, 0, 0, 0, 0, []) := rfl
theorem tX7_isAhead_27 : tbX7_isAhead 27 = (.ifCond .lt 34, 30, 61, 0, 0, 0, []) := rfl
theorem tX7_isAhead_30 : tbX7_isAhead 30 = (.iload_n 3, 31, 0, 0, 0, 0, []) := rfl
theorem tX7_isAhead_31 : tbX7_isAhead 31 = (.ifCond .ne 34, 34, 65, 0, 0, 0, []) := rfl
theorem tX7_isAhead_34 : tbX7_isAhead 34 = (.aload_n 0, 35, 0, 0, 0, 0, []) := rfl
theorem tX7_isAhead_35 : tbX7_isAhead 35 = (.getfield 7, 38, 7, 0, 0, 0, [(0, 0)]) := rfl
theorem tX7_isAhead_38 : tbX7_isAhead 38 = (.iload_n 1, 39, 0, 0, 0, 0, []) := rfl
theorem tX7_isAhead_39 : tbX7_isAhead 39 = (.invokestatic 57, 42, 99, 1, 0, 0, []) := rfl
theorem tX7_isAhead_42 : tbX7_isAhead 42 = (.bipush 12, 44, 0, 0, 0, 12, []) := rfl
theorem tX7_isAhead_44 : tbX7_isAhead 44 = (.iadd, 45, 0, 0, 0, 0, []) := rfl
theorem tX7_isAhead_45 : tbX7_isAhead 45 = (.iaload, 46, 0, 0, 0, 0, []) := rfl
theorem tX7_isAhead_46 : tbX7_isAhead 46 = (.aload_n 0, 47, 0, 0, 0, 0, []) := rfl
theorem tX7_isAhead_47 : tbX7_isAhead 47 = (.getfield 7, 50, 7, 0, 0, 0, [(0, 0)]) := rfl
theorem tX7_isAhead_50 : tbX7_isAhead 50 = (.iload_n 2, 51, 0, 0, 0, 0, []) := rfl
theorem tX7_isAhead_51 : tbX7_isAhead 51 = (.invokestatic 57, 54, 99, 1, 0, 0, []) := rfl
theorem tX7_isAhead_54 : tbX7_isAhead 54 = (.bipush 12, 56, 0, 0, 0, 12, []) := rfl
theorem tX7_isAhead_56 : tbX7_isAhead 56 = (.iadd, 57, 0, 0, 0, 0, []) := rfl
theorem tX7_isAhead_57 : tbX7_isAhead 57 = (.iaload, 58, 0, 0, 0, 0, []) := rfl
theorem tX7_isAhead_58 : tbX7_isAhead 58 = (.if_icmp .ge 7, 61, 65, 0, 0, 0, []) := rfl
theorem tX7_isAhead_61 : tbX7_isAhead 61 = (.iconst 1, 62, 0, 0, 0, 1, []) := rfl
theorem tX7_isAhead_62 : tbX7_isAhead 62 = (.goto 4, 65, 66, 0, 0, 0, []) := rfl
theorem tX7_isAhead_65 : tbX7_isAhead 65 = (.iconst 0, 66, 0, 0, 0, 0, []) := rfl
theorem tX7_isAhead_66 : tbX7_isAhead 66 = (.ireturn, 67, 0, 0, 0, 0, []) := rfl
def ltX7_waitingAt : List (Nat × pm_E) := [(0, .iload_n 1, 1, 0, 0, 0, 0, []), (1, .ifCond .ge 5, 4, 6, 0, 0, 0, []), (4, .iconst (-1), 5, 0, 0, 0, -1, []), (5, .ireturn, 6, 0, 0, 0, 0, []), (6, .iconst 0, 7, 0, 0, 0, 0, []), (7, .istore_n 2, 8, 0, 0, 0, 0, []), (8, .iload_n 2, 9, 0, 0, 0, 0, []), (9, .aload_n 0, 10, 0, 0, 0, 0, []), (10, .getfield 7, 13, 7, 0, 0, 0, [(0, 0)]), (13, .iconst 4, 14, 0, 0, 0, 4, []), (14, .iaload, 15, 0, 0, 0, 0, []), (15, .if_icmp .ge 87, 18, 102, 0, 0, 0, []), (18, .iconst 0, 19, 0, 0, 0, 0, []), (19, .istore_n 3, 20, 0, 0, 0, 0, []), (20, .iconst 0, 21, 0, 0, 0, 0, []), (21, .istore 4, 23, 0, 0, 0, 0, []), (23, .iload 4, 25, 0, 0, 0, 0, []), (25, .aload_n 0, 26, 0, 0, 0, 0, []), (26, .getfield 7, 29, 7, 0, 0, 0, [(0, 0)]), (29, .iconst 4, 30, 0, 0, 0, 4, []), (30, .iaload, 31, 0, 0, 0, 0, []), (31, .if_icmp .ge 43, 34, 74, 0, 0, 0, []), (34, .iload_n 3, 35, 0, 0, 0, 0, []), (35, .aload_n 0, 36, 0, 0, 0, 0, []), (36, .getfield 7, 39, 7, 0, 0, 0, [(0, 0)]), (39, .iload 4, 41, 0, 0, 0, 0, []), (41, .invokestatic 57, 44, 99, 1, 0, 0, []), (44, .iconst 4, 45, 0, 0, 0, 4, []), (45, .iadd, 46, 0, 0, 0, 0, []), (46, .iaload, 47, 0, 0, 0, 0, []), (47, .iconst 2, 48, 0, 0, 0, 2, []), (48, .if_icmp .ne 17, 51, 65, 0, 0, 0, []), (51, .aload_n 0, 52, 0, 0, 0, 0, []), (52, .iload 4, 54, 0, 0, 0, 0, []), (54, .iload_n 2, 55, 0, 0, 0, 0, []), (55, .invokevirtual 122, 58, 136, 2, 7, 0, []), (58, .ifCond .eq 7, 61, 65, 0, 0, 0, []), (61, .iconst 1, 62, 0, 0, 0, 1, []), (62, .goto 4, 65, 66, 0, 0, 0, []), (65, .iconst 0, 66, 0, 0, 0, 0, []), (66, .iadd, 67, 0, 0, 0, 0, []), (67, .istore_n 3, 68, 0, 0, 0, 0, []), (68, .iinc 4 1, 71, 0, 0, 0, 1, []), (71, .goto (-48), 74, 23, 0, 0, 0, []), (74, .aload_n 0, 75, 0, 0, 0, 0, []), (75, .getfield 7, 78, 7, 0, 0, 0, [(0, 0)]), (78, .iload_n 2, 79, 0, 0, 0, 0, []), (79, .invokestatic 57, 82, 99, 1, 0, 0, []), (82, .iconst 4, 83, 0, 0, 0, 4, []), (83, .iadd, 84, 0, 0, 0, 0, []), (84, .iaload, 85, 0, 0, 0, 0, []), (85, .iconst 2, 86, 0, 0, 0, 2, []), (86, .if_icmp .ne 10, 89, 96, 0, 0, 0, []), (89, .iload_n 3, 90, 0, 0, 0, 0, []), (90, .iload_n 1, 91, 0, 0, 0, 0, []), (91, .if_icmp .ne 5, 94, 96, 0, 0, 0, []), (94, .iload_n 2, 95, 0, 0, 0, 0, []), (95, .ireturn, 96, 0, 0, 0, 0, []), (96, .iinc 2 1, 99, 0, 0, 0, 1, []), (99, .goto (-91), 102, 8, 0, 0, 0, []), (102, .bipush (-4), 104, 0, 0, 0, -4, []), (104, .ireturn, 105, 0, 0, 0, 0, [])]
def tbX7_waitingAt : Nat → pm_E := pm_lk ltX7_waitingAt
theorem okX7_waitingAt : ∀ pc, (tbX7_waitingAt pc).1 = .nop ∨ pm_ok mX7_waitingAt pw_Ms pc (tbX7_waitingAt pc) := pm_lk_ok (by decide +kernel)
theorem nr_X7_waitingAt : mX7_waitingAt.2.2.2 = (some .int) := rfl
theorem tX7_waitingAt_0 : tbX7_waitingAt 0 = (.iload_n 1, 1, 0, 0, 0, 0, []) := rfl
theorem tX7_waitingAt_1 : tbX7_waitingAt 1 = (.ifCond .ge 5, 4, 6, 0, 0, 0, []) := rfl
theorem tX7_waitingAt_4 : tbX7_waitingAt 4 = (.iconst (-1), 5, 0, 0, 0, -1, []) := rfl
theorem tX7_waitingAt_5 : tbX7_waitingAt 5 = (.ireturn, 6, 0, 0, 0, 0, []) := rfl
theorem tX7_waitingAt_6 : tbX7_waitingAt 6 = (.iconst 0, 7, 0, 0, 0, 0, []) := rfl
theorem tX7_waitingAt_7 : tbX7_waitingAt 7 = (.istore_n 2, 8, 0, 0, 0, 0, []) := rfl
theorem tX7_waitingAt_8 : tbX7_waitingAt 8 = (.iload_n 2, 9, 0, 0, 0, 0, []) := rfl
theorem tX7_waitingAt_9 : tbX7_waitingAt 9 = (.aload_n 0, 10, 0, 0, 0, 0, []) := rfl
theorem tX7_waitingAt_10 : tbX7_waitingAt 10 = (.getfield 7, 13, 7, 0, 0, 0, [(0, 0)]) := rfl
theorem tX7_waitingAt_13 : tbX7_waitingAt 13 = (.iconst 4, 14, 0, 0, 0, 4, []) := rfl
theorem tX7_waitingAt_14 : tbX7_waitingAt 14 = (.iaload, 15, 0, 0, 0, 0, []) := rfl
theorem tX7_waitingAt_15 : tbX7_waitingAt 15 = (.if_icmp .ge 87, 18, 102, 0, 0, 0, []) := rfl
theorem tX7_waitingAt_18 : tbX7_waitingAt 18 = (.iconst 0, 19, 0, 0, 0, 0, []) := rfl
theorem tX7_waitingAt_19 : tbX7_waitingAt 19 = (.istore_n 3, 20, 0, 0, 0, 0, []) := rfl
theorem tX7_waitingAt_20 : tbX7_waitingAt 20 = (.iconst 0, 21, 0, 0, 0, 0, []) := rfl
theorem tX7_waitingAt_21 : tbX7_waitingAt 21 = (.istore 4, 23, 0, 0, 0, 0, []) := rfl
theorem tX7_waitingAt_23 : tbX7_waitingAt 23 = (.iload 4, 25, 0, 0, 0, 0, []) := rfl
theorem tX7_waitingAt_25 : tbX7_waitingAt 25 = (.aload_n 0, 26, 0, 0, 0, 0, []) := rfl
theorem tX7_waitingAt_26 : tbX7_waitingAt 26 = (.getfield 7, 29, 7, 0, 0, 0, [(0, 0)]) := rfl
theorem tX7_waitingAt_29 : tbX7_waitingAt 29 = (.iconst 4, 30, 0, 0, 0, 4, []) := rfl
theorem tX7_waitingAt_30 : tbX7_waitingAt 30 = (.iaload, 31, 0, 0, 0, 0, []) := rfl
theorem tX7_waitingAt_31 : tbX7_waitingAt 31 = (.if_icmp .ge 43, 34, 74, 0, 0, 0, []) := rfl
theorem tX7_waitingAt_34 : tbX7_waitingAt 34 = (.iload_n 3, 35, 0, 0, 0, 0, []) := rfl
theorem tX7_waitingAt_35 : tbX7_waitingAt 35 = (.aload_n 0, 36, 0, 0, 0, 0, []) := rfl
theorem tX7_waitingAt_36 : tbX7_waitingAt 36 = (.getfield 7, 39, 7, 0, 0, 0, [(0, 0)]) := rfl
theorem tX7_waitingAt_39 : tbX7_waitingAt 39 = (.iload 4, 41, 0, 0, 0, 0, []) := rfl
theorem tX7_waitingAt_41 : tbX7_waitingAt 41 = (.invokestatic 57, 44, 99, 1, 0, 0, []) := rfl
theorem tX7_waitingAt_44 : tbX7_waitingAt 44 = (.iconst 4, 45, 0, 0, 0, 4, []) := rfl
theorem tX7_waitingAt_45 : tbX7_waitingAt 45 = (.iadd, 46, 0, 0, 0, 0, []) := rfl
theorem tX7_waitingAt_46 : tbX7_waitingAt 46 = (.iaload, 47, 0, 0, 0, 0, []) := rfl
theorem tX7_waitingAt_47 : tbX7_waitingAt 47 = (.iconst 2, 48, 0, 0, 0, 2, []) := rfl
theorem tX7_waitingAt_48 : tbX7_waitingAt 48 = (.if_icmp .ne 17, 51, 65, 0, 0, 0, []) := rfl
theorem tX7_waitingAt_51 : tbX7_waitingAt 51 = (.aload_n 0, 52, 0, 0, 0, 0, []) := rfl
theorem tX7_waitingAt_52 : tbX7_waitingAt 52 = (.iload 4, 54, 0, 0, 0, 0, []) := rfl
theorem tX7_waitingAt_54 : tbX7_waitingAt 54 = (.iload_n 2, 55, 0, 0, 0, 0, []) := rfl
theorem tX7_waitingAt_55 : tbX7_waitingAt 55 = (.invokevirtual 122, 58, 136, 2, 7, 0, []) := rfl
theorem tX7_waitingAt_58 : tbX7_waitingAt 58 = (.ifCond .eq 7, 61, 65, 0, 0, 0, []) := rfl
theorem tX7_waitingAt_61 : tbX7_waitingAt 61 = (.iconst 1, 62, 0, 0, 0, 1, []) := rfl
theorem tX7_waitingAt_62 : tbX7_waitingAt 62 = (.goto 4, 65, 66, 0, 0, 0, []) := rfl
theorem tX7_waitingAt_65 : tbX7_waitingAt 65 = (.iconst 0, 66, 0, 0, 0, 0, []) := rfl
theorem tX7_waitingAt_66 : tbX7_waitingAt 66 = (.iadd, 67, 0, 0, 0, 0, []) := rfl
theorem tX7_waitingAt_67 : tbX7_waitingAt 67 = (.istore_n 3, 68, 0, 0, 0, 0, []) := rfl
theorem tX7_waitingAt_68 : tbX7_waitingAt 68 = (.iinc 4 1, 71, 0, 0, 0, 1, []) := rfl
theorem tX7_waitingAt_71 : tbX7_waitingAt 71 = (.goto (-48), 74, 23, 0, 0, 0, []) := rfl
theorem tX7_waitingAt_74 : tbX7_waitingAt 74 = (.aload_n 0, 75, 0, 0, 0, 0, []) := rfl
theorem tX7_waitingAt_75 : tbX7_waitingAt 75 = (.getfield 7, 78, 7, 0, 0, 0, [(0, 0)]) := rfl
theorem tX7_waitingAt_78 : tbX7_waitingAt 78 = (.iload_n 2, 79, 0, 0, 0, 0, []) := rfl
theorem tX7_waitingAt_79 : tbX7_waitingAt 79 = (.invokestatic 57, 82, 99, 1, 0, 0, []) := rfl
theorem tX7_waitingAt_82 : tbX7_waitingAt 82 = (.iconst 4, 83, 0, 0, 0, 4, []) := rfl
theorem tX7_waitingAt_83 : tbX7_waitingAt 83 = (.iadd, 84, 0, 0, 0, 0, []) := rfl
theorem tX7_waitingAt_84 : tbX7_waitingAt 84 = (.iaload, 85, 0, 0, 0, 0, []) := rfl
theorem tX7_waitingAt_85 : tbX7_waitingAt 85 = (.iconst 2, 86, 0, 0, 0, 2, []) := rfl
theorem tX7_waitingAt_86 : tbX7_waitingAt 86 = (.if_icmp .ne 10, 89, 96, 0, 0, 0, []) := rfl
theorem tX7_waitingAt_89 : tbX7_waitingAt 89 = (.iload_n 3, 90, 0, 0, 0, 0, []) := rfl
theorem tX7_waitingAt_90 : tbX7_waitingAt 90 = (.iload_n 1, 91, 0, 0, 0, 0, []) := rfl
theorem tX7_waitingAt_91 : tbX7_waitingAt 91 = (.if_icmp .ne 5, 94, 96, 0, 0, 0, []) := rfl
theorem tX7_waitingAt_94 : tbX7_waitingAt 94 = (.iload_n 2, 95, 0, 0, 0, 0, []) := rfl
theorem tX7_waitingAt_95 : tbX7_waitingAt 95 = (.ireturn, 96, 0, 0, 0, 0, []) := rfl
theorem tX7_waitingAt_96 : tbX7_waitingAt 96 = (.iinc 2 1, 99, 0, 0, 0, 1, []) := rfl
theorem tX7_waitingAt_99 : tbX7_waitingAt 99 = (.goto (-91), 102, 8, 0, 0, 0, []) := rfl
theorem tX7_waitingAt_102 : tbX7_waitingAt 102 = (.bipush (-4), 104, 0, 0, 0, -4, []) := rfl
theorem tX7_waitingAt_104 : tbX7_waitingAt 104 = (.ireturn, 105, 0, 0, 0, 0, []) := rfl
def ltX7_isOf : List (Nat × pm_E) := [(0, .iload_n 2, 1, 0, 0, 0, 0, []), (1, .tableswitch 125 0 4 #[35, 56, 62, 83, 104], 36, 126, 0, 0, 0, [(0, 36), (1, 57), (2, 63), (3, 84), (4, 105)]), (36, .aload_n 0, 37, 0, 0, 0, 0, []), (37, .getfield 7, 40, 7, 0, 0, 0, [(0, 0)]), (40, .iload_n 1, 41, 0, 0, 0, 0, []), (41, .invokestatic 57, 44, 99, 1, 0, 0, []), (44, .iconst 3, 45, 0, 0, 0, 3, []), (45, .iadd, 46, 0, 0, 0, 0, []), (46, .iaload, 47, 0, 0, 0, 0, []), (47, .iconst 1, 48, 0, 0, 0, 1, []), (48, .if_icmp .ne 7, 51, 55, 0, 0, 0, []), (51, .iconst 1, 52, 0, 0, 0, 1, []), (52, .goto 4, 55, 56, 0, 0, 0, []), (55, .iconst 0, 56, 0, 0, 0, 0, []), (56, .ireturn, 57, 0, 0, 0, 0, []), (57, .aload_n 0, 58, 0, 0, 0, 0, []), (58, .iload_n 1, 59, 0, 0, 0, 0, []), (59, .invokevirtual 82, 62, 114, 1, 7, 0, []), (62, .ireturn, 63, 0, 0, 0, 0, []), (63, .aload_n 0, 64, 0, 0, 0, 0, []), (64, .getfield 7, 67, 7, 0, 0, 0, [(0, 0)]), (67, .iload_n 1, 68, 0, 0, 0, 0, []), (68, .invokestatic 57, 71, 99, 1, 0, 0, []), (71, .iconst 4, 72, 0, 0, 0, 4, []), (72, .iadd, 73, 0, 0, 0, 0, []), (73, .iaload, 74, 0, 0, 0, 0, []), (74, .iconst 1, 75, 0, 0, 0, 1, []), (75, .if_icmp .ne 7, 78, 82, 0, 0, 0, []), (78, .iconst 1, 79, 0, 0, 0, 1, []), (79, .goto 4, 82, 83, 0, 0, 0, []), (82, .iconst 0, 83, 0, 0, 0, 0, []), (83, .ireturn, 84, 0, 0, 0, 0, []), (84, .aload_n 0, 85, 0, 0, 0, 0, []), (85, .getfield 7, 88, 7, 0, 0, 0, [(0, 0)]), (88, .iload_n 1, 89, 0, 0, 0, 0, []), (89, .invokestatic 57, 92, 99, 1, 0, 0, []), (92, .iconst 4, 93, 0, 0, 0, 4, []), (93, .iadd, 94, 0, 0, 0, 0, []), (94, .iaload, 95, 0, 0, 0, 0, []), (95, .iconst 2, 96, 0, 0, 0, 2, []), (96, .if_icmp .ne 7, 99, 103, 0, 0, 0, []), (99, .iconst 1, 100, 0, 0, 0, 1, []), (100, .goto 4, 103, 104, 0, 0, 0, []), (103, .iconst 0, 104, 0, 0, 0, 0, []), (104, .ireturn, 105, 0, 0, 0, 0, []), (105, .aload_n 0, 106, 0, 0, 0, 0, []), (106, .getfield 7, 109, 7, 0, 0, 0, [(0, 0)]), (109, .iload_n 1, 110, 0, 0, 0, 0, []), (110, .invokestatic 57, 113, 99, 1, 0, 0, []), (113, .iconst 5, 114, 0, 0, 0, 5, []), (114, .iadd, 115, 0, 0, 0, 0, []), (115, .iaload, 116, 0, 0, 0, 0, []), (116, .iconst 1, 117, 0, 0, 0, 1, []), (117, .if_icmp .ne 7, 120, 124, 0, 0, 0, []), (120, .iconst 1, 121, 0, 0, 0, 1, []), (121, .goto 4, 124, 125, 0, 0, 0, []), (124, .iconst 0, 125, 0, 0, 0, 0, []), (125, .ireturn, 126, 0, 0, 0, 0, []), (126, .aload_n 0, 127, 0, 0, 0, 0, []), (127, .iload_n 1, 128, 0, 0, 0, 0, []), (128, .invokevirtual 76, 131, 113, 1, 7, 0, []), (131, .ireturn, 132, 0, 0, 0, 0, [])]
def tbX7_isOf : Nat → pm_E := pm_lk ltX7_isOf
theorem okX7_isOf : ∀ pc, (tbX7_isOf pc).1 = .nop ∨ pm_ok mX7_isOf pw_Ms pc (tbX7_isOf pc) := pm_lk_ok (by decide +kernel)
theorem nr_X7_isOf : mX7_isOf.2.2.2 = (some .boolean) := rfl
theorem tX7_isOf_0 : tbX7_isOf 0 = (.iload_n 2, 1, 0, 0, 0, 0, []) := rfl
theorem tX7_isOf_1 : tbX7_isOf 1 = (.tableswitch 125 0 4 #[35, 56, 62, 83, 104], 36, 126, 0, 0, 0, [(0, 36), (1, 57), (2, 63), (3, 84), (4, 105)]) := rfl
theorem tX7_isOf_36 : tbX7_isOf 36 = (.aload_n 0, 37, 0, 0, 0, 0, []) := rfl
theorem tX7_isOf_37 : tbX7_isOf 37 = (.getfield 7, 40, 7, 0, 0, 0, [(0, 0)]) := rfl
theorem tX7_isOf_40 : tbX7_isOf 40 = (.iload_n 1, 41, 0, 0, 0, 0, []) := rfl
theorem tX7_isOf_41 : tbX7_isOf 41 = (.invokestatic 57, 44, 99, 1, 0, 0, []) := rfl
theorem tX7_isOf_44 : tbX7_isOf 44 = (.iconst 3, 45, 0, 0, 0, 3, []) := rfl
theorem tX7_isOf_45 : tbX7_isOf 45 = (.iadd, 46, 0, 0, 0, 0, []) := rfl
theorem tX7_isOf_46 : tbX7_isOf 46 = (.iaload, 47, 0, 0, 0, 0, []) := rfl
theorem tX7_isOf_47 : tbX7_isOf 47 = (.iconst 1, 48, 0, 0, 0, 1, []) := rfl
theorem tX7_isOf_48 : tbX7_isOf 48 = (.if_icmp .ne 7, 51, 55, 0, 0, 0, []) := rfl
theorem tX7_isOf_51 : tbX7_isOf 51 = (.iconst 1, 52, 0, 0, 0, 1, []) := rfl
theorem tX7_isOf_52 : tbX7_isOf 52 = (.goto 4, 55, 56, 0, 0, 0, []) := rfl
theorem tX7_isOf_55 : tbX7_isOf 55 = (.iconst 0, 56, 0, 0, 0, 0, []) := rfl
theorem tX7_isOf_56 : tbX7_isOf 56 = (.ireturn, 57, 0, 0, 0, 0, []) := rfl
theorem tX7_isOf_57 : tbX7_isOf 57 = (.aload_n 0, 58, 0, 0, 0, 0, []) := rfl
theorem tX7_isOf_58 : tbX7_isOf 58 = (.iload_n 1, 59, 0, 0, 0, 0, []) := rfl
theorem tX7_isOf_59 : tbX7_isOf 59 = (.invokevirtual 82, 62, 114, 1, 7, 0, []) := rfl
theorem tX7_isOf_62 : tbX7_isOf 62 = (.ireturn, 63, 0, 0, 0, 0, []) := rfl
theorem tX7_isOf_63 : tbX7_isOf 63 = (.aload_n 0, 64, 0, 0, 0, 0, []) := rfl
theorem tX7_isOf_64 : tbX7_isOf 64 = (.getfield 7, 67, 7, 0, 0, 0, [(0, 0)]) := rfl
theorem tX7_isOf_67 : tbX7_isOf 67 = (.iload_n 1, 68, 0, 0, 0, 0, []) := rfl
theorem tX7_isOf_68 : tbX7_isOf 68 = (.invokestatic 57, 71, 99, 1, 0, 0, []) := rfl
theorem tX7_isOf_71 : tbX7_isOf 71 = (.iconst 4, 72, 0, 0, 0, 4, []) := rfl
theorem tX7_isOf_72 : tbX7_isOf 72 = (.iadd, 73, 0, 0, 0, 0, []) := rfl
theorem tX7_isOf_73 : tbX7_isOf 73 = (.iaload, 74, 0, 0, 0, 0, []) := rfl
theorem tX7_isOf_74 : tbX7_isOf 74 = (.iconst 1, 75, 0, 0, 0, 1, []) := rfl
theorem tX7_isOf_75 : tbX7_isOf 75 = (.if_icmp .ne 7, 78, 82, 0, 0, 0, []) := rfl
theorem tX7_isOf_78 : tbX7_isOf 78 = (.iconst 1, 79, 0, 0, 0, 1, []) := rfl
theorem tX7_isOf_79 : tbX7_isOf 79 = (.goto 4, 82, 83, 0, 0, 0, []) := rfl
theorem tX7_isOf_82 : tbX7_isOf 82 = (.iconst 0, 83, 0, 0, 0, 0, []) := rfl
theorem tX7_isOf_83 : tbX7_isOf 83 = (.ireturn, 84, 0, 0, 0, 0, []) := rfl
theorem tX7_isOf_84 : tbX7_isOf 84 = (.aload_n 0, 85, 0, 0, 0, 0, []) := rfl
theorem tX7_isOf_85 : tbX7_isOf 85 = (.getfield 7, 88, 7, 0, 0, 0, [(0, 0)]) := rfl
theorem tX7_isOf_88 : tbX7_isOf 88 = (.iload_n 1, 89, 0, 0, 0, 0, []) := rfl
theorem tX7_isOf_89 : tbX7_isOf 89 = (.invokestatic 57, 92, 99, 1, 0, 0, []) := rfl
theorem tX7_isOf_92 : tbX7_isOf 92 = (.iconst 4, 93, 0, 0, 0, 4, []) := rfl
theorem tX7_isOf_93 : tbX7_isOf 93 = (.iadd, 94, 0, 0, 0, 0, []) := rfl
theorem tX7_isOf_94 : tbX7_isOf 94 = (.iaload, 95, 0, 0, 0, 0, []) := rfl
theorem tX7_isOf_95 : tbX7_isOf 95 = (.iconst 2, 96, 0, 0, 0, 2, []) := rfl
theorem tX7_isOf_96 : tbX7_isOf 96 = (.if_icmp .ne 7, 99, 103, 0, 0, 0, []) := rfl
theorem tX7_isOf_99 : tbX7_isOf 99 = (.iconst 1, 100, 0, 0, 0, 1, []) := rfl
theorem tX7_isOf_100 : tbX7_isOf 100 = (.goto 4, 103, 104, 0, 0, 0, []) := rfl
theorem tX7_isOf_103 : tbX7_isOf 103 = (.iconst 0, 104, 0, 0, 0, 0, []) := rfl
theorem tX7_isOf_104 : tbX7_isOf 104 = (.ireturn, 105, 0, 0, 0, 0, []) := rfl
theorem tX7_isOf_105 : tbX7_isOf 105 = (.aload_n 0, 106, 0, 0, 0, 0, []) := rfl
theorem tX7_isOf_106 : tbX7_isOf 106 = (.getfield 7, 109, 7, 0, 0, 0, [(0, 0)]) := rfl
theorem tX7_isOf_109 : tbX7_isOf 109 = (.iload_n 1, 110, 0, 0, 0, 0, []) := rfl
theorem tX7_isOf_110 : tbX7_isOf 110 = (.invokestatic 57, 113, 99, 1, 0, 0, []) := rfl
theorem tX7_isOf_113 : tbX7_isOf 113 = (.iconst 5, 114, 0, 0, 0, 5, []) := rfl
theorem tX7_isOf_114 : tbX7_isOf 114 = (.iadd, 115, 0, 0, 0, 0, []) := rfl
theorem tX7_isOf_115 : tbX7_isOf 115 = (.iaload, 116, 0, 0, 0, 0, []) := rfl
theorem tX7_isOf_116 : tbX7_isOf 116 = (.iconst 1, 117, 0, 0, 0, 1, []) := rfl
theorem tX7_isOf_117 : tbX7_isOf 117 = (.if_icmp .ne 7, 120, 124, 0, 0, 0, []) := rfl
theorem tX7_isOf_120 : tbX7_isOf 120 = (.iconst 1, 121, 0, 0, 0, 1, []) := rfl
theorem tX7_isOf_121 : tbX7_isOf 121 = (.goto 4, 124, 125, 0, 0, 0, []) := rfl
theorem tX7_isOf_124 : tbX7_isOf 124 = (.iconst 0, 125, 0, 0, 0, 0, []) := rfl
theorem tX7_isOf_125 : tbX7_isOf 125 = (.ireturn, 126, 0, 0, 0, 0, []) := rfl
theorem tX7_isOf_126 : tbX7_isOf 126 = (.aload_n 0, 127, 0, 0, 0, 0, []) := rfl
theorem tX7_isOf_127 : tbX7_isOf 127 = (.iload_n 1, 128, 0, 0, 0, 0, []) := rfl
theorem tX7_isOf_128 : tbX7_isOf 128 = (.invokevirtual 76, 131, 113, 1, 7, 0, []) := rfl
theorem tX7_isOf_131 : tbX7_isOf 131 = (.ireturn, 132, 0, 0, 0, 0, []) := rfl
def ltX7_linesOf : List (Nat × pm_E) := [(0, .iconst 0, 1, 0, 0, 0, 0, []), (1, .istore_n 2, 2, 0, 0, 0, 0, []), (2, .iconst 0, 3, 0, 0, 0, 0, []), (3, .istore_n 3, 4, 0, 0, 0, 0, []), (4, .iload_n 3, 5, 0, 0, 0, 0, []), (5, .aload_n 0, 6, 0, 0, 0, 0, []), (6, .getfield 7, 9, 7, 0, 0, 0, [(0, 0)]), (9, .iconst 4, 10, 0, 0, 0, 4, []), (10, .iaload, 11, 0, 0, 0, 0, []), (11, .if_icmp .ge 28, 14, 39, 0, 0, 0, []), (14, .iload_n 2, 15, 0, 0, 0, 0, []), (15, .aload_n 0, 16, 0, 0, 0, 0, []), (16, .iload_n 3, 17, 0, 0, 0, 0, []), (17, .iload_n 1, 18, 0, 0, 0, 0, []), (18, .invokevirtual 125, 21, 138, 2, 7, 0, []), (21, .ifCond .eq 9, 24, 30, 0, 0, 0, []), (24, .iconst 1, 25, 0, 0, 0, 1, []), (25, .iload_n 3, 26, 0, 0, 0, 0, []), (26, .ishl, 27, 0, 0, 0, 0, []), (27, .goto 4, 30, 31, 0, 0, 0, []), (30, .iconst 0, 31, 0, 0, 0, 0, []), (31, .ior, 32, 0, 0, 0, 0, []), (32, .istore_n 2, 33, 0, 0, 0, 0, []), (33, .iinc 3 1, 36, 0, 0, 0, 1, []), (36, .goto (-32), 39, 4, 0, 0, 0, []), (39, .iload_n 2, 40, 0, 0, 0, 0, []), (40, .ireturn, 41, 0, 0, 0, 0, [])]
def tbX7_linesOf : Nat → pm_E := pm_lk ltX7_linesOf
theorem okX7_linesOf : ∀ pc, (tbX7_linesOf pc).1 = .nop ∨ pm_ok mX7_linesOf pw_Ms pc (tbX7_linesOf pc) := pm_lk_ok (by decide +kernel)
theorem nr_X7_linesOf : mX7_linesOf.2.2.2 = (some .int) := rfl
theorem tX7_linesOf_0 : tbX7_linesOf 0 = (.iconst 0, 1, 0, 0, 0, 0, []) := rfl
theorem tX7_linesOf_1 : tbX7_linesOf 1 = (.istore_n 2, 2, 0, 0, 0, 0, []) := rfl
theorem tX7_linesOf_2 : tbX7_linesOf 2 = (.iconst 0, 3, 0, 0, 0, 0, []) := rfl
theorem tX7_linesOf_3 : tbX7_linesOf 3 = (.istore_n 3, 4, 0, 0, 0, 0, []) := rfl
theorem tX7_linesOf_4 : tbX7_linesOf 4 = (.iload_n 3, 5, 0, 0, 0, 0, []) := rfl
theorem tX7_linesOf_5 : tbX7_linesOf 5 = (.aload_n 0, 6, 0, 0, 0, 0, []) := rfl
theorem tX7_linesOf_6 : tbX7_linesOf 6 = (.getfield 7, 9, 7, 0, 0, 0, [(0, 0)]) := rfl
theorem tX7_linesOf_9 : tbX7_linesOf 9 = (.iconst 4, 10, 0, 0, 0, 4, []) := rfl
theorem tX7_linesOf_10 : tbX7_linesOf 10 = (.iaload, 11, 0, 0, 0, 0, []) := rfl
theorem tX7_linesOf_11 : tbX7_linesOf 11 = (.if_icmp .ge 28, 14, 39, 0, 0, 0, []) := rfl
theorem tX7_linesOf_14 : tbX7_linesOf 14 = (.iload_n 2, 15, 0, 0, 0, 0, []) := rfl
theorem tX7_linesOf_15 : tbX7_linesOf 15 = (.aload_n 0, 16, 0, 0, 0, 0, []) := rfl
theorem tX7_linesOf_16 : tbX7_linesOf 16 = (.iload_n 3, 17, 0, 0, 0, 0, []) := rfl
theorem tX7_linesOf_17 : tbX7_linesOf 17 = (.iload_n 1, 18, 0, 0, 0, 0, []) := rfl
theorem tX7_linesOf_18 : tbX7_linesOf 18 = (.invokevirtual 125, 21, 138, 2, 7, 0, []) := rfl
theorem tX7_linesOf_21 : tbX7_linesOf 21 = (.ifCond .eq 9, 24, 30, 0, 0, 0, []) := rfl
theorem tX7_linesOf_24 : tbX7_linesOf 24 = (.iconst 1, 25, 0, 0, 0, 1, []) := rfl
theorem tX7_linesOf_25 : tbX7_linesOf 25 = (.iload_n 3, 26, 0, 0, 0, 0, []) := rfl
theorem tX7_linesOf_26 : tbX7_linesOf 26 = (.ishl, 27, 0, 0, 0, 0, []) := rfl
theorem tX7_linesOf_27 : tbX7_linesOf 27 = (.goto 4, 30, 31, 0, 0, 0, []) := rfl
theorem tX7_linesOf_30 : tbX7_linesOf 30 = (.iconst 0, 31, 0, 0, 0, 0, []) := rfl
theorem tX7_linesOf_31 : tbX7_linesOf 31 = (.ior, 32, 0, 0, 0, 0, []) := rfl
theorem tX7_linesOf_32 : tbX7_linesOf 32 = (.istore_n 2, 33, 0, 0, 0, 0, []) := rfl
theorem tX7_linesOf_33 : tbX7_linesOf 33 = (.iinc 3 1, 36, 0, 0, 0, 1, []) := rfl
theorem tX7_linesOf_36 : tbX7_linesOf 36 = (.goto (-32), 39, 4, 0, 0, 0, []) := rfl
theorem tX7_linesOf_39 : tbX7_linesOf 39 = (.iload_n 2, 40, 0, 0, 0, 0, []) := rfl
theorem tX7_linesOf_40 : tbX7_linesOf 40 = (.ireturn, 41, 0, 0, 0, 0, []) := rfl
def ltX7_lines : List (Nat × pm_E) := [(0, .iload_n 1, 1, 0, 0, 0, 0, []), (1, .iconst 0, 2, 0, 0, 0, 0, []), (2, .iconst 5, 3, 0, 0, 0, 5, []), (3, .invokestatic 35, 6, 94, 3, 0, 0, []), (6, .ifCond .eq 11, 9, 17, 0, 0, 0, []), (9, .aload_n 0, 10, 0, 0, 0, 0, []), (10, .iload_n 1, 11, 0, 0, 0, 0, []), (11, .invokevirtual 67, 14, 139, 1, 7, 0, []), (14, .goto 4, 17, 18, 0, 0, 0, []), (17, .iconst (-1), 18, 0, 0, 0, -1, []), (18, .ireturn, 19, 0, 0, 0, 0, [])]
def tbX7_lines : Nat → pm_E := pm_lk ltX7_lines
theorem okX7_lines : ∀ pc, (tbX7_lines pc).1 = .nop ∨ pm_ok mX7_lines pw_Ms pc (tbX7_lines pc) := pm_lk_ok (by decide +kernel)
theorem nr_X7_lines : mX7_lines.2.2.2 = (some .int) := rfl
theorem tX7_lines_0 : tbX7_lines 0 = (.iload_n 1, 1, 0, 0, 0, 0, []) := rfl
theorem tX7_lines_1 : tbX7_lines 1 = (.iconst 0, 2, 0, 0, 0, 0, []) := rfl
theorem tX7_lines_2 : tbX7_lines 2 = (.iconst 5, 3, 0, 0, 0, 5, []) := rfl
theorem tX7_lines_3 : tbX7_lines 3 = (.invokestatic 35, 6, 94, 3, 0, 0, []) := rfl
theorem tX7_lines_6 : tbX7_lines 6 = (.ifCond .eq 11, 9, 17, 0, 0, 0, []) := rfl
theorem tX7_lines_9 : tbX7_lines 9 = (.aload_n 0, 10, 0, 0, 0, 0, []) := rfl
theorem tX7_lines_10 : tbX7_lines 10 = (.iload_n 1, 11, 0, 0, 0, 0, []) := rfl
theorem tX7_lines_11 : tbX7_lines 11 = (.invokevirtual 67, 14, 139, 1, 7, 0, []) := rfl
theorem tX7_lines_14 : tbX7_lines 14 = (.goto 4, 17, 18, 0, 0, 0, []) := rfl
theorem tX7_lines_17 : tbX7_lines 17 = (.iconst (-1), 18, 0, 0, 0, -1, []) := rfl
theorem tX7_lines_18 : tbX7_lines 18 = (.ireturn, 19, 0, 0, 0, 0, []) := rfl
def ltX7_litEdges : List (Nat × pm_E) := [(0, .iconst 0, 1, 0, 0, 0, 0, []), (1, .istore_n 1, 2, 0, 0, 0, 0, []), (2, .iconst 0, 3, 0, 0, 0, 0, []), (3, .istore_n 2, 4, 0, 0, 0, 0, []), (4, .iload_n 2, 5, 0, 0, 0, 0, []), (5, .aload_n 0, 6, 0, 0, 0, 0, []), (6, .getfield 7, 9, 7, 0, 0, 0, [(0, 0)]), (9, .iconst 4, 10, 0, 0, 0, 4, []), (10, .iaload, 11, 0, 0, 0, 0, []), (11, .if_icmp .ge 41, 14, 52, 0, 0, 0, []), (14, .iload_n 1, 15, 0, 0, 0, 0, []), (15, .aload_n 0, 16, 0, 0, 0, 0, []), (16, .getfield 7, 19, 7, 0, 0, 0, [(0, 0)]), (19, .iload_n 2, 20, 0, 0, 0, 0, []), (20, .invokestatic 57, 23, 99, 1, 0, 0, []), (23, .iconst 2, 24, 0, 0, 0, 2, []), (24, .iadd, 25, 0, 0, 0, 0, []), (25, .iaload, 26, 0, 0, 0, 0, []), (26, .ifCond .ne 17, 29, 43, 0, 0, 0, []), (29, .aload_n 0, 30, 0, 0, 0, 0, []), (30, .getfield 7, 33, 7, 0, 0, 0, [(0, 0)]), (33, .iload_n 2, 34, 0, 0, 0, 0, []), (34, .invokestatic 57, 37, 99, 1, 0, 0, []), (37, .iconst 3, 38, 0, 0, 0, 3, []), (38, .iadd, 39, 0, 0, 0, 0, []), (39, .iaload, 40, 0, 0, 0, 0, []), (40, .goto 4, 43, 44, 0, 0, 0, []), (43, .iconst 0, 44, 0, 0, 0, 0, []), (44, .iadd, 45, 0, 0, 0, 0, []), (45, .istore_n 1, 46, 0, 0, 0, 0, []), (46, .iinc 2 1, 49, 0, 0, 0, 1, []), (49, .goto (-45), 52, 4, 0, 0, 0, []), (52, .iload_n 1, 53, 0, 0, 0, 0, []), (53, .ireturn, 54, 0, 0, 0, 0, [])]
def tbX7_litEdges : Nat → pm_E := pm_lk ltX7_litEdges
theorem okX7_litEdges : ∀ pc, (tbX7_litEdges pc).1 = .nop ∨ pm_ok mX7_litEdges pw_Ms pc (tbX7_litEdges pc) := pm_lk_ok (by decide +kernel)
theorem nr_X7_litEdges : mX7_litEdges.2.2.2 = (some .int) := rfl
theorem tX7_litEdges_0 : tbX7_litEdges 0 = (.iconst 0, 1, 0, 0, 0, 0, []) := rfl
theorem tX7_litEdges_1 : tbX7_litEdges 1 = (.istore_n 1, 2, 0, 0, 0, 0, []) := rfl
theorem tX7_litEdges_2 : tbX7_litEdges 2 = (.iconst 0, 3, 0, 0, 0, 0, []) := rfl
theorem tX7_litEdges_3 : tbX7_litEdges 3 = (.istore_n 2, 4, 0, 0, 0, 0, []) := rfl
theorem tX7_litEdges_4 : tbX7_litEdges 4 = (.iload_n 2, 5, 0, 0, 0, 0, []) := rfl
theorem tX7_litEdges_5 : tbX7_litEdges 5 = (.aload_n 0, 6, 0, 0, 0, 0, []) := rfl
theorem tX7_litEdges_6 : tbX7_litEdges 6 = (.getfield 7, 9, 7, 0, 0, 0, [(0, 0)]) := rfl
theorem tX7_litEdges_9 : tbX7_litEdges 9 = (.iconst 4, 10, 0, 0, 0, 4, []) := rfl
theorem tX7_litEdges_10 : tbX7_litEdges 10 = (.iaload, 11, 0, 0, 0, 0, []) := rfl
theorem tX7_litEdges_11 : tbX7_litEdges 11 = (.if_icmp .ge 41, 14, 52, 0, 0, 0, []) := rfl
theorem tX7_litEdges_14 : tbX7_litEdges 14 = (.iload_n 1, 15, 0, 0, 0, 0, []) := rfl
theorem tX7_litEdges_15 : tbX7_litEdges 15 = (.aload_n 0, 16, 0, 0, 0, 0, []) := rfl
theorem tX7_litEdges_16 : tbX7_litEdges 16 = (.getfield 7, 19, 7, 0, 0, 0, [(0, 0)]) := rfl
theorem tX7_litEdges_19 : tbX7_litEdges 19 = (.iload_n 2, 20, 0, 0, 0, 0, []) := rfl
theorem tX7_litEdges_20 : tbX7_litEdges 20 = (.invokestatic 57, 23, 99, 1, 0, 0, []) := rfl
theorem tX7_litEdges_23 : tbX7_litEdges 23 = (.iconst 2, 24, 0, 0, 0, 2, []) := rfl
theorem tX7_litEdges_24 : tbX7_litEdges 24 = (.iadd, 25, 0, 0, 0, 0, []) := rfl
theorem tX7_litEdges_25 : tbX7_litEdges 25 = (.iaload, 26, 0, 0, 0, 0, []) := rfl
theorem tX7_litEdges_26 : tbX7_litEdges 26 = (.ifCond .ne 17, 29, 43, 0, 0, 0, []) := rfl
theorem tX7_litEdges_29 : tbX7_litEdges 29 = (.aload_n 0, 30, 0, 0, 0, 0, []) := rfl
theorem tX7_litEdges_30 : tbX7_litEdges 30 = (.getfield 7, 33, 7, 0, 0, 0, [(0, 0)]) := rfl
theorem tX7_litEdges_33 : tbX7_litEdges 33 = (.iload_n 2, 34, 0, 0, 0, 0, []) := rfl
theorem tX7_litEdges_34 : tbX7_litEdges 34 = (.invokestatic 57, 37, 99, 1, 0, 0, []) := rfl
theorem tX7_litEdges_37 : tbX7_litEdges 37 = (.iconst 3, 38, 0, 0, 0, 3, []) := rfl
theorem tX7_litEdges_38 : tbX7_litEdges 38 = (.iadd, 39, 0, 0, 0, 0, []) := rfl
theorem tX7_litEdges_39 : tbX7_litEdges 39 = (.iaload, 40, 0, 0, 0, 0, []) := rfl
theorem tX7_litEdges_40 : tbX7_litEdges 40 = (.goto 4, 43, 44, 0, 0, 0, []) := rfl
theorem tX7_litEdges_43 : tbX7_litEdges 43 = (.iconst 0, 44, 0, 0, 0, 0, []) := rfl
theorem tX7_litEdges_44 : tbX7_litEdges 44 = (.iadd, 45, 0, 0, 0, 0, []) := rfl
theorem tX7_litEdges_45 : tbX7_litEdges 45 = (.istore_n 1, 46, 0, 0, 0, 0, []) := rfl
theorem tX7_litEdges_46 : tbX7_litEdges 46 = (.iinc 2 1, 49, 0, 0, 0, 1, []) := rfl
theorem tX7_litEdges_49 : tbX7_litEdges 49 = (.goto (-45), 52, 4, 0, 0, 0, []) := rfl
theorem tX7_litEdges_52 : tbX7_litEdges 52 = (.iload_n 1, 53, 0, 0, 0, 0, []) := rfl
theorem tX7_litEdges_53 : tbX7_litEdges 53 = (.ireturn, 54, 0, 0, 0, 0, []) := rfl
def ltX7_count : List (Nat × pm_E) := [(0, .iload_n 1, 1, 0, 0, 0, 0, []), (1, .tableswitch 156 0 12 #[67, 74, 81, 88, 95, 103, 108, 116, 124, 131, 138, 146, 151], 68, 157, 0, 0, 0, [(0, 68), (1, 75), (2, 82), (3, 89), (4, 96), (5, 104), (6, 109), (7, 117), (8, 125), (9, 132), (10, 139), (11, 147), (12, 152)]), (68, .aload_n 0, 69, 0, 0, 0, 0, []), (69, .getfield 7, 72, 7, 0, 0, 0, [(0, 0)]), (72, .iconst 3, 73, 0, 0, 0, 3, []), (73, .iaload, 74, 0, 0, 0, 0, []), (74, .ireturn, 75, 0, 0, 0, 0, []), (75, .aload_n 0, 76, 0, 0, 0, 0, []), (76, .getfield 7, 79, 7, 0, 0, 0, [(0, 0)]), (79, .iconst 4, 80, 0, 0, 0, 4, []), (80, .iaload, 81, 0, 0, 0, 0, []), (81, .ireturn, 82, 0, 0, 0, 0, []), (82, .aload_n 0, 83, 0, 0, 0, 0, []), (83, .getfield 7, 86, 7, 0, 0, 0, [(0, 0)]), (86, .iconst 0, 87, 0, 0, 0, 0, []), (87, .iaload, 88, 0, 0, 0, 0, []), (88, .ireturn, 89, 0, 0, 0, 0, []), (89, .aload_n 0, 90, 0, 0, 0, 0, []), (90, .getfield 7, 93, 7, 0, 0, 0, [(0, 0)]), (93, .iconst 5, 94, 0, 0, 0, 5, []), (94, .iaload, 95, 0, 0, 0, 0, []), (95, .ireturn, 96, 0, 0, 0, 0, []), (96, .aload_n 0, 97, 0, 0, 0, 0, []), (97, .getfield 7, 100, 7, 0, 0, 0, [(0, 0)]), (100, .bipush 6, 102, 0, 0, 0, 6, []), (102, .iaload, 103, 0, 0, 0, 0, []), (103, .ireturn, 104, 0, 0, 0, 0, []), (104, .aload_n 0, 105, 0, 0, 0, 0, []), (105, .invokevirtual 128, 108, 141, 0, 7, 0, []), (108, .ireturn, 109, 0, 0, 0, 0, []), (109, .aload_n 0, 110, 0, 0, 0, 0, []), (110, .getfield 7, 113, 7, 0, 0, 0, [(0, 0)]), (113, .bipush 7, 115, 0, 0, 0, 7, []), (115, .iaload, 116, 0, 0, 0, 0, []), (116, .ireturn, 117, 0, 0, 0, 0, []), (117, .aload_n 0, 118, 0, 0, 0, 0, []), (118, .getfield 7, 121, 7, 0, 0, 0, [(0, 0)]), (121, .bipush 8, 123, 0, 0, 0, 8, []), (123, .iaload, 124, 0, 0, 0, 0, []), (124, .ireturn, 125, 0, 0, 0, 0, []), (125, .aload_n 0, 126, 0, 0, 0, 0, []), (126, .getfield 7, 129, 7, 0, 0, 0, [(0, 0)]), (129, .iconst 1, 130, 0, 0, 0, 1, []), (130, .iaload, 131, 0, 0, 0, 0, []), (131, .ireturn, 132, 0, 0, 0, 0, []), (132, .aload_n 0, 133, 0, 0, 0, 0, []), (133, .getfield 7, 136, 7, 0, 0, 0, [(0, 0)]), (136, .iconst 2, 137, 0, 0, 0, 2, []), (137, .iaload, 138, 0, 0, 0, 0, []), (138, .ireturn, 139, 0, 0, 0, 0, []), (139, .aload_n 0, 140, 0, 0, 0, 0, []), (140, .getfield 7, 143, 7, 0, 0, 0, [(0, 0)]), (143, .bipush 9, 145, 0, 0, 0, 9, []), (145, .iaload, 146, 0, 0, 0, 0, []), (146, .ireturn, 147, 0, 0, 0, 0, []), (147, .aload_n 0, 148, 0, 0, 0, 0, []), (148, .getfield 31, 151, 7, 8, 0, 0, []), (151, .ireturn, 152, 0, 0, 0, 0, []), (152, .aload_n 0, 153, 0, 0, 0, 0, []), (153, .getfield 131, 156, 7, 7, 0, 0, []), (156, .ireturn, 157, 0, 0, 0, 0, []), (157, .iconst (-1), 158, 0, 0, 0, -1, []), (158, .ireturn, 159, 0, 0, 0, 0, [])]
def tbX7_count : Nat → pm_E := pm_lk ltX7_count
theorem okX7_count : ∀ pc, (tbX7_count pc).1 = .nop ∨ pm_ok mX7_count pw_Ms pc (tbX7_count pc) := pm_lk_ok (by decide +kernel)
theorem nr_X7_count : mX7_count.2.2.2 = (some .int) := rfl
theorem tX7_count_0 : tbX7_count 0 = (.iload_n 1, 1, 0, 0, 0, 0, []) := rfl
theorem tX7_count_1 : tbX7_count 1 = (.tableswitch 156 0 12 #[67, 74, 81, 88, 95, 103, 108, 116, 124, 131, 138, 146, 151], 68, 157, 0, 0, 0, [(0, 68), (1, 75), (2, 82), (3, 89), (4, 96), (5, 104), (6, 109), (7, 117), (8, 125), (9, 132), (10, 139), (11, 147), (12, 152)]) := rfl
theorem tX7_count_68 : tbX7_count 68 = (.aload_n 0, 69, 0, 0, 0, 0, []) := rfl
theorem tX7_count_69 : tbX7_count 69 = (.getfield 7, 72, 7, 0, 0, 0, [(0, 0)]) := rfl
theorem tX7_count_72 : tbX7_count 72 = (.iconst 3, 73, 0, 0, 0, 3, []) := rfl
theorem tX7_count_73 : tbX7_count 73 = (.iaload, 74, 0, 0, 0, 0, []) := rfl
theorem tX7_count_74 : tbX7_count 74 = (.ireturn, 75, 0, 0, 0, 0, []) := rfl
theorem tX7_count_75 : tbX7_count 75 = (.aload_n 0, 76, 0, 0, 0, 0, []) := rfl
theorem tX7_count_76 : tbX7_count 76 = (.getfield 7, 79, 7, 0, 0, 0, [(0, 0)]) := rfl
theorem tX7_count_79 : tbX7_count 79 = (.iconst 4, 80, 0, 0, 0, 4, []) := rfl
theorem tX7_count_80 : tbX7_count 80 = (.iaload, 81, 0, 0, 0, 0, []) := rfl
theorem tX7_count_81 : tbX7_count 81 = (.ireturn, 82, 0, 0, 0, 0, []) := rfl
theorem tX7_count_82 : tbX7_count 82 = (.aload_n 0, 83, 0, 0, 0, 0, []) := rfl
theorem tX7_count_83 : tbX7_count 83 = (.getfield 7, 86, 7, 0, 0, 0, [(0, 0)]) := rfl
theorem tX7_count_86 : tbX7_count 86 = (.iconst 0, 87, 0, 0, 0, 0, []) := rfl
theorem tX7_count_87 : tbX7_count 87 = (.iaload, 88, 0, 0, 0, 0, []) := rfl
theorem tX7_count_88 : tbX7_count 88 = (.ireturn, 89, 0, 0, 0, 0, []) := rfl
theorem tX7_count_89 : tbX7_count 89 = (.aload_n 0, 90, 0, 0, 0, 0, []) := rfl
theorem tX7_count_90 : tbX7_count 90 = (.getfield 7, 93, 7, 0, 0, 0, [(0, 0)]) := rfl
theorem tX7_count_93 : tbX7_count 93 = (.iconst 5, 94, 0, 0, 0, 5, []) := rfl
theorem tX7_count_94 : tbX7_count 94 = (.iaload, 95, 0, 0, 0, 0, []) := rfl
theorem tX7_count_95 : tbX7_count 95 = (.ireturn, 96, 0, 0, 0, 0, []) := rfl
theorem tX7_count_96 : tbX7_count 96 = (.aload_n 0, 97, 0, 0, 0, 0, []) := rfl
theorem tX7_count_97 : tbX7_count 97 = (.getfield 7, 100, 7, 0, 0, 0, [(0, 0)]) := rfl
theorem tX7_count_100 : tbX7_count 100 = (.bipush 6, 102, 0, 0, 0, 6, []) := rfl
theorem tX7_count_102 : tbX7_count 102 = (.iaload, 103, 0, 0, 0, 0, []) := rfl
theorem tX7_count_103 : tbX7_count 103 = (.ireturn, 104, 0, 0, 0, 0, []) := rfl
theorem tX7_count_104 : tbX7_count 104 = (.aload_n 0, 105, 0, 0, 0, 0, []) := rfl
theorem tX7_count_105 : tbX7_count 105 = (.invokevirtual 128, 108, 141, 0, 7, 0, []) := rfl
theorem tX7_count_108 : tbX7_count 108 = (.ireturn, 109, 0, 0, 0, 0, []) := rfl
theorem tX7_count_109 : tbX7_count 109 = (.aload_n 0, 110, 0, 0, 0, 0, []) := rfl
theorem tX7_count_110 : tbX7_count 110 = (.getfield 7, 113, 7, 0, 0, 0, [(0, 0)]) := rfl
theorem tX7_count_113 : tbX7_count 113 = (.bipush 7, 115, 0, 0, 0, 7, []) := rfl
theorem tX7_count_115 : tbX7_count 115 = (.iaload, 116, 0, 0, 0, 0, []) := rfl
theorem tX7_count_116 : tbX7_count 116 = (.ireturn, 117, 0, 0, 0, 0, []) := rfl
theorem tX7_count_117 : tbX7_count 117 = (.aload_n 0, 118, 0, 0, 0, 0, []) := rfl
theorem tX7_count_118 : tbX7_count 118 = (.getfield 7, 121, 7, 0, 0, 0, [(0, 0)]) := rfl
theorem tX7_count_121 : tbX7_count 121 = (.bipush 8, 123, 0, 0, 0, 8, []) := rfl
theorem tX7_count_123 : tbX7_count 123 = (.iaload, 124, 0, 0, 0, 0, []) := rfl
theorem tX7_count_124 : tbX7_count 124 = (.ireturn, 125, 0, 0, 0, 0, []) := rfl
theorem tX7_count_125 : tbX7_count 125 = (.aload_n 0, 126, 0, 0, 0, 0, []) := rfl
theorem tX7_count_126 : tbX7_count 126 = (.getfield 7, 129, 7, 0, 0, 0, [(0, 0)]) := rfl
theorem tX7_count_129 : tbX7_count 129 = (.iconst 1, 130, 0, 0, 0, 1, []) := rfl
theorem tX7_count_130 : tbX7_count 130 = (.iaload, 131, 0, 0, 0, 0, []) := rfl
theorem tX7_count_131 : tbX7_count 131 = (.ireturn, 132, 0, 0, 0, 0, []) := rfl
theorem tX7_count_132 : tbX7_count 132 = (.aload_n 0, 133, 0, 0, 0, 0, []) := rfl
theorem tX7_count_133 : tbX7_count 133 = (.getfield 7, 136, 7, 0, 0, 0, [(0, 0)]) := rfl
theorem tX7_count_136 : tbX7_count 136 = (.iconst 2, 137, 0, 0, 0, 2, []) := rfl
theorem tX7_count_137 : tbX7_count 137 = (.iaload, 138, 0, 0, 0, 0, []) := rfl
theorem tX7_count_138 : tbX7_count 138 = (.ireturn, 139, 0, 0, 0, 0, []) := rfl
theorem tX7_count_139 : tbX7_count 139 = (.aload_n 0, 140, 0, 0, 0, 0, []) := rfl
theorem tX7_count_140 : tbX7_count 140 = (.getfield 7, 143, 7, 0, 0, 0, [(0, 0)]) := rfl
theorem tX7_count_143 : tbX7_count 143 = (.bipush 9, 145, 0, 0, 0, 9, []) := rfl
theorem tX7_count_145 : tbX7_count 145 = (.iaload, 146, 0, 0, 0, 0, []) := rfl
theorem tX7_count_146 : tbX7_count 146 = (.ireturn, 147, 0, 0, 0, 0, []) := rfl
theorem tX7_count_147 : tbX7_count 147 = (.aload_n 0, 148, 0, 0, 0, 0, []) := rfl
theorem tX7_count_148 : tbX7_count 148 = (.getfield 31, 151, 7, 8, 0, 0, []) := rfl
theorem tX7_count_151 : tbX7_count 151 = (.ireturn, 152, 0, 0, 0, 0, []) := rfl
theorem tX7_count_152 : tbX7_count 152 = (.aload_n 0, 153, 0, 0, 0, 0, []) := rfl
theorem tX7_count_153 : tbX7_count 153 = (.getfield 131, 156, 7, 7, 0, 0, []) := rfl
theorem tX7_count_156 : tbX7_count 156 = (.ireturn, 157, 0, 0, 0, 0, []) := rfl
theorem tX7_count_157 : tbX7_count 157 = (.iconst (-1), 158, 0, 0, 0, -1, []) := rfl
theorem tX7_count_158 : tbX7_count 158 = (.ireturn, 159, 0, 0, 0, 0, []) := rfl
def ltX7_undo : List (Nat × pm_E) := [(0, .aload_n 0, 1, 0, 0, 0, 0, []), (1, .getfield 31, 4, 7, 8, 0, 0, []), (4, .ifCond .ne 6, 7, 10, 0, 0, 0, []), (7, .bipush (-2), 9, 0, 0, 0, -2, []), (9, .ireturn, 10, 0, 0, 0, 0, []), (10, .aload_n 0, 11, 0, 0, 0, 0, []), (11, .dup, 12, 0, 0, 0, 0, []), (12, .getfield 31, 15, 7, 8, 0, 0, []), (15, .iconst 1, 16, 0, 0, 0, 1, []), (16, .isub, 17, 0, 0, 0, 0, []), (17, .putfield 31, 20, 7, 8, 0, 0, []), (20, .iconst 0, 21, 0, 0, 0, 0, []), (21, .istore_n 1, 22, 0, 0, 0, 0, []), (22, .iload_n 1, 23, 0, 0, 0, 0, []), (23, .sipush 374, 26, 0, 0, 0, 374, []), (26, .if_icmp .ge 30, 29, 56, 0, 0, 0, []), (29, .aload_n 0, 30, 0, 0, 0, 0, []), (30, .getfield 7, 33, 7, 0, 0, 0, [(0, 0)]), (33, .iload_n 1, 34, 0, 0, 0, 0, []), (34, .aload_n 0, 35, 0, 0, 0, 0, []), (35, .getfield 13, 38, 7, 1, 0, 0, [(0, 0)]), (38, .sipush 374, 41, 0, 0, 0, 374, []), (41, .aload_n 0, 42, 0, 0, 0, 0, []), (42, .getfield 31, 45, 7, 8, 0, 0, []), (45, .imul, 46, 0, 0, 0, 0, []), (46, .iload_n 1, 47, 0, 0, 0, 0, []), (47, .iadd, 48, 0, 0, 0, 0, []), (48, .iaload, 49, 0, 0, 0, 0, []), (49, .iastore, 50, 0, 0, 0, 0, []), (50, .iinc 1 1, 53, 0, 0, 0, 1, []), (53, .goto (-31), 56, 22, 0, 0, 0, []), (56, .aload_n 0, 57, 0, 0, 0, 0, []), (57, .getfield 31, 60, 7, 8, 0, 0, []), (60, .ireturn, 61, 0, 0, 0, 0, [])]
def tbX7_undo : Nat → pm_E := pm_lk ltX7_undo
theorem okX7_undo : ∀ pc, (tbX7_undo pc).1 = .nop ∨ pm_ok mX7_undo pw_Ms pc (tbX7_undo pc) := pm_lk_ok (by decide +kernel)
theorem nr_X7_undo : mX7_undo.2.2.2 = (some .int) := rfl
theorem tX7_undo_0 : tbX7_undo 0 = (.aload_n 0, 1, 0, 0, 0, 0, []) := rfl
theorem tX7_undo_1 : tbX7_undo 1 = (.getfield 31, 4, 7, 8, 0, 0, []) := rfl
theorem tX7_undo_4 : tbX7_undo 4 = (.ifCond .ne 6, 7, 10, 0, 0, 0, []) := rfl
theorem tX7_undo_7 : tbX7_undo 7 = (.bipush (-2), 9, 0, 0, 0, -2, []) := rfl
theorem tX7_undo_9 : tbX7_undo 9 = (.ireturn, 10, 0, 0, 0, 0, []) := rfl
theorem tX7_undo_10 : tbX7_undo 10 = (.aload_n 0, 11, 0, 0, 0, 0, []) := rfl
theorem tX7_undo_11 : tbX7_undo 11 = (.dup, 12, 0, 0, 0, 0, []) := rfl
theorem tX7_undo_12 : tbX7_undo 12 = (.getfield 31, 15, 7, 8, 0, 0, []) := rfl
theorem tX7_undo_15 : tbX7_undo 15 = (.iconst 1, 16, 0, 0, 0, 1, []) := rfl
theorem tX7_undo_16 : tbX7_undo 16 = (.isub, 17, 0, 0, 0, 0, []) := rfl
theorem tX7_undo_17 : tbX7_undo 17 = (.putfield 31, 20, 7, 8, 0, 0, []) := rfl
theorem tX7_undo_20 : tbX7_undo 20 = (.iconst 0, 21, 0, 0, 0, 0, []) := rfl
theorem tX7_undo_21 : tbX7_undo 21 = (.istore_n 1, 22, 0, 0, 0, 0, []) := rfl
theorem tX7_undo_22 : tbX7_undo 22 = (.iload_n 1, 23, 0, 0, 0, 0, []) := rfl
theorem tX7_undo_23 : tbX7_undo 23 = (.sipush 374, 26, 0, 0, 0, 374, []) := rfl
theorem tX7_undo_26 : tbX7_undo 26 = (.if_icmp .ge 30, 29, 56, 0, 0, 0, []) := rfl
theorem tX7_undo_29 : tbX7_undo 29 = (.aload_n 0, 30, 0, 0, 0, 0, []) := rfl
theorem tX7_undo_30 : tbX7_undo 30 = (.getfield 7, 33, 7, 0, 0, 0, [(0, 0)]) := rfl
theorem tX7_undo_33 : tbX7_undo 33 = (.iload_n 1, 34, 0, 0, 0, 0, []) := rfl
theorem tX7_undo_34 : tbX7_undo 34 = (.aload_n 0, 35, 0, 0, 0, 0, []) := rfl
theorem tX7_undo_35 : tbX7_undo 35 = (.getfield 13, 38, 7, 1, 0, 0, [(0, 0)]) := rfl
theorem tX7_undo_38 : tbX7_undo 38 = (.sipush 374, 41, 0, 0, 0, 374, []) := rfl
theorem tX7_undo_41 : tbX7_undo 41 = (.aload_n 0, 42, 0, 0, 0, 0, []) := rfl
theorem tX7_undo_42 : tbX7_undo 42 = (.getfield 31, 45, 7, 8, 0, 0, []) := rfl
theorem tX7_undo_45 : tbX7_undo 45 = (.imul, 46, 0, 0, 0, 0, []) := rfl
theorem tX7_undo_46 : tbX7_undo 46 = (.iload_n 1, 47, 0, 0, 0, 0, []) := rfl
theorem tX7_undo_47 : tbX7_undo 47 = (.iadd, 48, 0, 0, 0, 0, []) := rfl
theorem tX7_undo_48 : tbX7_undo 48 = (.iaload, 49, 0, 0, 0, 0, []) := rfl
theorem tX7_undo_49 : tbX7_undo 49 = (.iastore, 50, 0, 0, 0, 0, []) := rfl
theorem tX7_undo_50 : tbX7_undo 50 = (.iinc 1 1, 53, 0, 0, 0, 1, []) := rfl
theorem tX7_undo_53 : tbX7_undo 53 = (.goto (-31), 56, 22, 0, 0, 0, []) := rfl
theorem tX7_undo_56 : tbX7_undo 56 = (.aload_n 0, 57, 0, 0, 0, 0, []) := rfl
theorem tX7_undo_57 : tbX7_undo 57 = (.getfield 31, 60, 7, 8, 0, 0, []) := rfl
theorem tX7_undo_60 : tbX7_undo 60 = (.ireturn, 61, 0, 0, 0, 0, []) := rfl
def ltX7_type : List (Nat × pm_E) := [(0, .iload_n 1, 1, 0, 0, 0, 0, []), (1, .bipush 32, 3, 0, 0, 0, 32, []), (3, .bipush 126, 5, 0, 0, 0, 126, []), (5, .invokestatic 35, 8, 94, 3, 0, 0, []), (8, .ifCond .ne 5, 11, 13, 0, 0, 0, []), (11, .iconst (-1), 12, 0, 0, 0, -1, []), (12, .ireturn, 13, 0, 0, 0, 0, []), (13, .aload_n 0, 14, 0, 0, 0, 0, []), (14, .getfield 131, 17, 7, 7, 0, 0, []), (17, .bipush 60, 19, 0, 0, 0, 60, []), (19, .if_icmp .ne 6, 22, 25, 0, 0, 0, []), (22, .bipush (-3), 24, 0, 0, 0, -3, []), (24, .ireturn, 25, 0, 0, 0, 0, []), (25, .aload_n 0, 26, 0, 0, 0, 0, []), (26, .getfield 28, 29, 7, 6, 0, 0, [(0, 0)]), (29, .aload_n 0, 30, 0, 0, 0, 0, []), (30, .getfield 131, 33, 7, 7, 0, 0, []), (33, .iload_n 1, 34, 0, 0, 0, 0, []), (34, .iastore, 35, 0, 0, 0, 0, []), (35, .aload_n 0, 36, 0, 0, 0, 0, []), (36, .dup, 37, 0, 0, 0, 0, []), (37, .getfield 131, 40, 7, 7, 0, 0, []), (40, .iconst 1, 41, 0, 0, 0, 1, []), (41, .iadd, 42, 0, 0, 0, 0, []), (42, .putfield 131, 45, 7, 7, 0, 0, []), (45, .aload_n 0, 46, 0, 0, 0, 0, []), (46, .getfield 131, 49, 7, 7, 0, 0, []), (49, .ireturn, 50, 0, 0, 0, 0, [])]
def tbX7_type : Nat → pm_E := pm_lk ltX7_type
theorem okX7_type : ∀ pc, (tbX7_type pc).1 = .nop ∨ pm_ok mX7_type pw_Ms pc (tbX7_type pc) := pm_lk_ok (by decide +kernel)
theorem nr_X7_type : mX7_type.2.2.2 = (some .int) := rfl
theorem tX7_type_0 : tbX7_type 0 = (.iload_n 1, 1, 0, 0, 0, 0, []) := rfl
theorem tX7_type_1 : tbX7_type 1 = (.bipush 32, 3, 0, 0, 0, 32, []) := rfl
theorem tX7_type_3 : tbX7_type 3 = (.bipush 126, 5, 0, 0, 0, 126, []) := rfl
theorem tX7_type_5 : tbX7_type 5 = (.invokestatic 35, 8, 94, 3, 0, 0, []) := rfl
theorem tX7_type_8 : tbX7_type 8 = (.ifCond .ne 5, 11, 13, 0, 0, 0, []) := rfl
theorem tX7_type_11 : tbX7_type 11 = (.iconst (-1), 12, 0, 0, 0, -1, []) := rfl
theorem tX7_type_12 : tbX7_type 12 = (.ireturn, 13, 0, 0, 0, 0, []) := rfl
theorem tX7_type_13 : tbX7_type 13 = (.aload_n 0, 14, 0, 0, 0, 0, []) := rfl
theorem tX7_type_14 : tbX7_type 14 = (.getfield 131, 17, 7, 7, 0, 0, []) := rfl
theorem tX7_type_17 : tbX7_type 17 = (.bipush 60, 19, 0, 0, 0, 60, []) := rfl
theorem tX7_type_19 : tbX7_type 19 = (.if_icmp .ne 6, 22, 25, 0, 0, 0, []) := rfl
theorem tX7_type_22 : tbX7_type 22 = (.bipush (-3), 24, 0, 0, 0, -3, []) := rfl
theorem tX7_type_24 : tbX7_type 24 = (.ireturn, 25, 0, 0, 0, 0, []) := rfl
theorem tX7_type_25 : tbX7_type 25 = (.aload_n 0, 26, 0, 0, 0, 0, []) := rfl
theorem tX7_type_26 : tbX7_type 26 = (.getfield 28, 29, 7, 6, 0, 0, [(0, 0)]) := rfl
theorem tX7_type_29 : tbX7_type 29 = (.aload_n 0, 30, 0, 0, 0, 0, []) := rfl
theorem tX7_type_30 : tbX7_type 30 = (.getfield 131, 33, 7, 7, 0, 0, []) := rfl
theorem tX7_type_33 : tbX7_type 33 = (.iload_n 1, 34, 0, 0, 0, 0, []) := rfl
theorem tX7_type_34 : tbX7_type 34 = (.iastore, 35, 0, 0, 0, 0, []) := rfl
theorem tX7_type_35 : tbX7_type 35 = (.aload_n 0, 36, 0, 0, 0, 0, []) := rfl
theorem tX7_type_36 : tbX7_type 36 = (.dup, 37, 0, 0, 0, 0, []) := rfl
theorem tX7_type_37 : tbX7_type 37 = (.getfield 131, 40, 7, 7, 0, 0, []) := rfl
theorem tX7_type_40 : tbX7_type 40 = (.iconst 1, 41, 0, 0, 0, 1, []) := rfl
theorem tX7_type_41 : tbX7_type 41 = (.iadd, 42, 0, 0, 0, 0, []) := rfl
theorem tX7_type_42 : tbX7_type 42 = (.putfield 131, 45, 7, 7, 0, 0, []) := rfl
theorem tX7_type_45 : tbX7_type 45 = (.aload_n 0, 46, 0, 0, 0, 0, []) := rfl
theorem tX7_type_46 : tbX7_type 46 = (.getfield 131, 49, 7, 7, 0, 0, []) := rfl
theorem tX7_type_49 : tbX7_type 49 = (.ireturn, 50, 0, 0, 0, 0, []) := rfl
def ltX7_clearText : List (Nat × pm_E) := [(0, .aload_n 0, 1, 0, 0, 0, 0, []), (1, .getfield 131, 4, 7, 7, 0, 0, []), (4, .istore_n 1, 5, 0, 0, 0, 0, []), (5, .aload_n 0, 6, 0, 0, 0, 0, []), (6, .iconst 0, 7, 0, 0, 0, 0, []), (7, .putfield 131, 10, 7, 7, 0, 0, []), (10, .iload_n 1, 11, 0, 0, 0, 0, []), (11, .ireturn, 12, 0, 0, 0, 0, [])]
def tbX7_clearText : Nat → pm_E := pm_lk ltX7_clearText
theorem okX7_clearText : ∀ pc, (tbX7_clearText pc).1 = .nop ∨ pm_ok mX7_clearText pw_Ms pc (tbX7_clearText pc) := pm_lk_ok (by decide +kernel)
theorem nr_X7_clearText : mX7_clearText.2.2.2 = (some .int) := rfl
theorem tX7_clearText_0 : tbX7_clearText 0 = (.aload_n 0, 1, 0, 0, 0, 0, []) := rfl
theorem tX7_clearText_1 : tbX7_clearText 1 = (.getfield 131, 4, 7, 7, 0, 0, []) := rfl
theorem tX7_clearText_4 : tbX7_clearText 4 = (.istore_n 1, 5, 0, 0, 0, 0, []) := rfl
theorem tX7_clearText_5 : tbX7_clearText 5 = (.aload_n 0, 6, 0, 0, 0, 0, []) := rfl
theorem tX7_clearText_6 : tbX7_clearText 6 = (.iconst 0, 7, 0, 0, 0, 0, []) := rfl
theorem tX7_clearText_7 : tbX7_clearText 7 = (.putfield 131, 10, 7, 7, 0, 0, []) := rfl
theorem tX7_clearText_10 : tbX7_clearText 10 = (.iload_n 1, 11, 0, 0, 0, 0, []) := rfl
theorem tX7_clearText_11 : tbX7_clearText 11 = (.ireturn, 12, 0, 0, 0, 0, []) := rfl
def ltX7_sees : List (Nat × pm_E) := [(0, .aload_n 0, 1, 0, 0, 0, 0, []), (1, .getfield 134, 4, 7, 9, 0, 0, []), (4, .aload_n 0, 5, 0, 0, 0, 0, []), (5, .getfield 131, 8, 7, 7, 0, 0, []), (8, .if_icmp .ge 20, 11, 28, 0, 0, 0, []), (11, .aload_n 0, 12, 0, 0, 0, 0, []), (12, .getfield 28, 15, 7, 6, 0, 0, [(0, 0)]), (15, .aload_n 0, 16, 0, 0, 0, 0, []), (16, .getfield 134, 19, 7, 9, 0, 0, []), (19, .iaload, 20, 0, 0, 0, 0, []), (20, .iload_n 1, 21, 0, 0, 0, 0, []), (21, .if_icmp .ne 7, 24, 28, 0, 0, 0, []), (24, .iconst 1, 25, 0, 0, 0, 1, []), (25, .goto 4, 28, 29, 0, 0, 0, []), (28, .iconst 0, 29, 0, 0, 0, 0, []), (29, .istore_n 2, 30, 0, 0, 0, 0, []), (30, .aload_n 0, 31, 0, 0, 0, 0, []), (31, .dup, 32, 0, 0, 0, 0, []), (32, .getfield 134, 35, 7, 9, 0, 0, []), (35, .iload_n 2, 36, 0, 0, 0, 0, []), (36, .ifCond .eq 7, 39, 43, 0, 0, 0, []), (39, .iconst 1, 40, 0, 0, 0, 1, []), (40, .goto 4, 43, 44, 0, 0, 0, []), (43, .iconst 0, 44, 0, 0, 0, 0, []), (44, .iadd, 45, 0, 0, 0, 0, []), (45, .putfield 134, 48, 7, 9, 0, 0, []), (48, .iload_n 2, 49, 0, 0, 0, 0, []), (49, .ireturn, 50, 0, 0, 0, 0, [])]
def tbX7_sees : Nat → pm_E := pm_lk ltX7_sees
theorem okX7_sees : ∀ pc, (tbX7_sees pc).1 = .nop ∨ pm_ok mX7_sees pw_Ms pc (tbX7_sees pc) := pm_lk_ok (by decide +kernel)
theorem nr_X7_sees : mX7_sees.2.2.2 = (some .boolean) := rfl
theorem tX7_sees_0 : tbX7_sees 0 = (.aload_n 0, 1, 0, 0, 0, 0, []) := rfl
theorem tX7_sees_1 : tbX7_sees 1 = (.getfield 134, 4, 7, 9, 0, 0, []) := rfl
theorem tX7_sees_4 : tbX7_sees 4 = (.aload_n 0, 5, 0, 0, 0, 0, []) := rfl
theorem tX7_sees_5 : tbX7_sees 5 = (.getfield 131, 8, 7, 7, 0, 0, []) := rfl
theorem tX7_sees_8 : tbX7_sees 8 = (.if_icmp .ge 20, 11, 28, 0, 0, 0, []) := rfl
theorem tX7_sees_11 : tbX7_sees 11 = (.aload_n 0, 12, 0, 0, 0, 0, []) := rfl
theorem tX7_sees_12 : tbX7_sees 12 = (.getfield 28, 15, 7, 6, 0, 0, [(0, 0)]) := rfl
theorem tX7_sees_15 : tbX7_sees 15 = (.aload_n 0, 16, 0, 0, 0, 0, []) := rfl
theorem tX7_sees_16 : tbX7_sees 16 = (.getfield 134, 19, 7, 9, 0, 0, []) := rfl
theorem tX7_sees_19 : tbX7_sees 19 = (.iaload, 20, 0, 0, 0, 0, []) := rfl
theorem tX7_sees_20 : tbX7_sees 20 = (.iload_n 1, 21, 0, 0, 0, 0, []) := rfl
theorem tX7_sees_21 : tbX7_sees 21 = (.if_icmp .ne 7, 24, 28, 0, 0, 0, []) := rfl
theorem tX7_sees_24 : tbX7_sees 24 = (.iconst 1, 25, 0, 0, 0, 1, []) := rfl
theorem tX7_sees_25 : tbX7_sees 25 = (.goto 4, 28, 29, 0, 0, 0, []) := rfl
theorem tX7_sees_28 : tbX7_sees 28 = (.iconst 0, 29, 0, 0, 0, 0, []) := rfl
theorem tX7_sees_29 : tbX7_sees 29 = (.istore_n 2, 30, 0, 0, 0, 0, []) := rfl
theorem tX7_sees_30 : tbX7_sees 30 = (.aload_n 0, 31, 0, 0, 0, 0, []) := rfl
theorem tX7_sees_31 : tbX7_sees 31 = (.dup, 32, 0, 0, 0, 0, []) := rfl
theorem tX7_sees_32 : tbX7_sees 32 = (.getfield 134, 35, 7, 9, 0, 0, []) := rfl
theorem tX7_sees_35 : tbX7_sees 35 = (.iload_n 2, 36, 0, 0, 0, 0, []) := rfl
theorem tX7_sees_36 : tbX7_sees 36 = (.ifCond .eq 7, 39, 43, 0, 0, 0, []) := rfl
theorem tX7_sees_39 : tbX7_sees 39 = (.iconst 1, 40, 0, 0, 0, 1, []) := rfl
theorem tX7_sees_40 : tbX7_sees 40 = (.goto 4, 43, 44, 0, 0, 0, []) := rfl
theorem tX7_sees_43 : tbX7_sees 43 = (.iconst 0, 44, 0, 0, 0, 0, []) := rfl
theorem tX7_sees_44 : tbX7_sees 44 = (.iadd, 45, 0, 0, 0, 0, []) := rfl
theorem tX7_sees_45 : tbX7_sees 45 = (.putfield 134, 48, 7, 9, 0, 0, []) := rfl
theorem tX7_sees_48 : tbX7_sees 48 = (.iload_n 2, 49, 0, 0, 0, 0, []) := rfl
theorem tX7_sees_49 : tbX7_sees 49 = (.ireturn, 50, 0, 0, 0, 0, []) := rfl
def ltX7_number : List (Nat × pm_E) := [(0, .iconst (-1), 1, 0, 0, 0, -1, []), (1, .istore_n 1, 2, 0, 0, 0, 0, []), (2, .iconst 0, 3, 0, 0, 0, 0, []), (3, .istore_n 2, 4, 0, 0, 0, 0, []), (4, .iload_n 2, 5, 0, 0, 0, 0, []), (5, .iconst 2, 6, 0, 0, 0, 2, []), (6, .if_icmp .ge 75, 9, 81, 0, 0, 0, []), (9, .aload_n 0, 10, 0, 0, 0, 0, []), (10, .getfield 134, 13, 7, 9, 0, 0, []), (13, .aload_n 0, 14, 0, 0, 0, 0, []), (14, .getfield 131, 17, 7, 7, 0, 0, []), (17, .if_icmp .ge 64, 20, 81, 0, 0, 0, []), (20, .aload_n 0, 21, 0, 0, 0, 0, []), (21, .getfield 28, 24, 7, 6, 0, 0, [(0, 0)]), (24, .aload_n 0, 25, 0, 0, 0, 0, []), (25, .getfield 134, 28, 7, 9, 0, 0, []), (28, .iaload, 29, 0, 0, 0, 0, []), (29, .bipush 48, 31, 0, 0, 0, 48, []), (31, .bipush 57, 33, 0, 0, 0, 57, []), (33, .invokestatic 35, 36, 94, 3, 0, 0, []), (36, .ifCond .eq 45, 39, 81, 0, 0, 0, []), (39, .iload_n 1, 40, 0, 0, 0, 0, []), (40, .ifCond .ge 7, 43, 47, 0, 0, 0, []), (43, .iconst 0, 44, 0, 0, 0, 0, []), (44, .goto 7, 47, 51, 0, 0, 0, []), (47, .bipush 10, 49, 0, 0, 0, 10, []), (49, .iload_n 1, 50, 0, 0, 0, 0, []), (50, .imul, 51, 0, 0, 0, 0, []), (51, .aload_n 0, 52, 0, 0, 0, 0, []), (52, .getfield 28, 55, 7, 6, 0, 0, [(0, 0)]), (55, .aload_n 0, 56, 0, 0, 0, 0, []), (56, .getfield 134, 59, 7, 9, 0, 0, []), (59, .iaload, 60, 0, 0, 0, 0, []), (60, .iadd, 61, 0, 0, 0, 0, []), (61, .bipush 48, 63, 0, 0, 0, 48, []), (63, .isub, 64, 0, 0, 0, 0, []), (64, .istore_n 1, 65, 0, 0, 0, 0, []), (65, .aload_n 0, 66, 0, 0, 0, 0, []), (66, .dup, 67, 0, 0, 0, 0, []), (67, .getfield 134, 70, 7, 9, 0, 0, []), (70, .iconst 1, 71, 0, 0, 0, 1, []), (71, .iadd, 72, 0, 0, 0, 0, []), (72, .putfield 134, 75, 7, 9, 0, 0, []), (75, .iinc 2 1, 78, 0, 0, 0, 1, []), (78, .goto (-74), 81, 4, 0, 0, 0, []), (81, .iload_n 1, 82, 0, 0, 0, 0, []), (82, .ireturn, 83, 0, 0, 0, 0, [])]
def tbX7_number : Nat → pm_E := pm_lk ltX7_number
theorem okX7_number : ∀ pc, (tbX7_number pc).1 = .nop ∨ pm_ok mX7_number pw_Ms pc (tbX7_number pc) := pm_lk_ok (by decide +kernel)
theorem nr_X7_number : mX7_number.2.2.2 = (some .int) := rfl
theorem tX7_number_0 : tbX7_number 0 = (.iconst (-1), 1, 0, 0, 0, -1, []) := rfl
theorem tX7_number_1 : tbX7_number 1 = (.istore_n 1, 2, 0, 0, 0, 0, []) := rfl
theorem tX7_number_2 : tbX7_number 2 = (.iconst 0, 3, 0, 0, 0, 0, []) := rfl
theorem tX7_number_3 : tbX7_number 3 = (.istore_n 2, 4, 0, 0, 0, 0, []) := rfl
theorem tX7_number_4 : tbX7_number 4 = (.iload_n 2, 5, 0, 0, 0, 0, []) := rfl
theorem tX7_number_5 : tbX7_number 5 = (.iconst 2, 6, 0, 0, 0, 2, []) := rfl
theorem tX7_number_6 : tbX7_number 6 = (.if_icmp .ge 75, 9, 81, 0, 0, 0, []) := rfl
theorem tX7_number_9 : tbX7_number 9 = (.aload_n 0, 10, 0, 0, 0, 0, []) := rfl
theorem tX7_number_10 : tbX7_number 10 = (.getfield 134, 13, 7, 9, 0, 0, []) := rfl
theorem tX7_number_13 : tbX7_number 13 = (.aload_n 0, 14, 0, 0, 0, 0, []) := rfl
theorem tX7_number_14 : tbX7_number 14 = (.getfield 131, 17, 7, 7, 0, 0, []) := rfl
theorem tX7_number_17 : tbX7_number 17 = (.if_icmp .ge 64, 20, 81, 0, 0, 0, []) := rfl
theorem tX7_number_20 : tbX7_number 20 = (.aload_n 0, 21, 0, 0, 0, 0, []) := rfl
theorem tX7_number_21 : tbX7_number 21 = (.getfield 28, 24, 7, 6, 0, 0, [(0, 0)]) := rfl
theorem tX7_number_24 : tbX7_number 24 = (.aload_n 0, 25, 0, 0, 0, 0, []) := rfl
theorem tX7_number_25 : tbX7_number 25 = (.getfield 134, 28, 7, 9, 0, 0, []) := rfl
theorem tX7_number_28 : tbX7_number 28 = (.iaload, 29, 0, 0, 0, 0, []) := rfl
theorem tX7_number_29 : tbX7_number 29 = (.bipush 48, 31, 0, 0, 0, 48, []) := rfl
theorem tX7_number_31 : tbX7_number 31 = (.bipush 57, 33, 0, 0, 0, 57, []) := rfl
theorem tX7_number_33 : tbX7_number 33 = (.invokestatic 35, 36, 94, 3, 0, 0, []) := rfl
theorem tX7_number_36 : tbX7_number 36 = (.ifCond .eq 45, 39, 81, 0, 0, 0, []) := rfl
theorem tX7_number_39 : tbX7_number 39 = (.iload_n 1, 40, 0, 0, 0, 0, []) := rfl
theorem tX7_number_40 : tbX7_number 40 = (.ifCond .ge 7, 43, 47, 0, 0, 0, []) := rfl
theorem tX7_number_43 : tbX7_number 43 = (.iconst 0, 44, 0, 0, 0, 0, []) := rfl
theorem tX7_number_44 : tbX7_number 44 = (.goto 7, 47, 51, 0, 0, 0, []) := rfl
theorem tX7_number_47 : tbX7_number 47 = (.bipush 10, 49, 0, 0, 0, 10, []) := rfl
theorem tX7_number_49 : tbX7_number 49 = (.iload_n 1, 50, 0, 0, 0, 0, []) := rfl
theorem tX7_number_50 : tbX7_number 50 = (.imul, 51, 0, 0, 0, 0, []) := rfl
theorem tX7_number_51 : tbX7_number 51 = (.aload_n 0, 52, 0, 0, 0, 0, []) := rfl
theorem tX7_number_52 : tbX7_number 52 = (.getfield 28, 55, 7, 6, 0, 0, [(0, 0)]) := rfl
theorem tX7_number_55 : tbX7_number 55 = (.aload_n 0, 56, 0, 0, 0, 0, []) := rfl
theorem tX7_number_56 : tbX7_number 56 = (.getfield 134, 59, 7, 9, 0, 0, []) := rfl
theorem tX7_number_59 : tbX7_number 59 = (.iaload, 60, 0, 0, 0, 0, []) := rfl
theorem tX7_number_60 : tbX7_number 60 = (.iadd, 61, 0, 0, 0, 0, []) := rfl
theorem tX7_number_61 : tbX7_number 61 = (.bipush 48, 63, 0, 0, 0, 48, []) := rfl
theorem tX7_number_63 : tbX7_number 63 = (.isub, 64, 0, 0, 0, 0, []) := rfl
theorem tX7_number_64 : tbX7_number 64 = (.istore_n 1, 65, 0, 0, 0, 0, []) := rfl
theorem tX7_number_65 : tbX7_number 65 = (.aload_n 0, 66, 0, 0, 0, 0, []) := rfl
theorem tX7_number_66 : tbX7_number 66 = (.dup, 67, 0, 0, 0, 0, []) := rfl
theorem tX7_number_67 : tbX7_number 67 = (.getfield 134, 70, 7, 9, 0, 0, []) := rfl
theorem tX7_number_70 : tbX7_number 70 = (.iconst 1, 71, 0, 0, 0, 1, []) := rfl
theorem tX7_number_71 : tbX7_number 71 = (.iadd, 72, 0, 0, 0, 0, []) := rfl
theorem tX7_number_72 : tbX7_number 72 = (.putfield 134, 75, 7, 9, 0, 0, []) := rfl
theorem tX7_number_75 : tbX7_number 75 = (.iinc 2 1, 78, 0, 0, 0, 1, []) := rfl
theorem tX7_number_78 : tbX7_number 78 = (.goto (-74), 81, 4, 0, 0, 0, []) := rfl
theorem tX7_number_81 : tbX7_number 81 = (.iload_n 1, 82, 0, 0, 0, 0, []) := rfl
theorem tX7_number_82 : tbX7_number 82 = (.ireturn, 83, 0, 0, 0, 0, []) := rfl
def ltX7_isForm : List (Nat × pm_E) := [(0, .aload_n 0, 1, 0, 0, 0, 0, []), (1, .iconst 0, 2, 0, 0, 0, 0, []), (2, .putfield 137, 5, 7, 10, 0, 0, []), (5, .aload_n 0, 6, 0, 0, 0, 0, []), (6, .iconst 0, 7, 0, 0, 0, 0, []), (7, .putfield 140, 10, 7, 11, 0, 0, []), (10, .iconst 1, 11, 0, 0, 0, 1, []), (11, .istore_n 2, 12, 0, 0, 0, 0, []), (12, .iload_n 1, 13, 0, 0, 0, 0, []), (13, .bipush 101, 15, 0, 0, 0, 101, []), (15, .if_icmp .eq 21, 18, 36, 0, 0, 0, []), (18, .iload_n 1, 19, 0, 0, 0, 0, []), (19, .bipush 108, 21, 0, 0, 0, 108, []), (21, .if_icmp .eq 15, 24, 36, 0, 0, 0, []), (24, .iload_n 1, 25, 0, 0, 0, 0, []), (25, .bipush 109, 27, 0, 0, 0, 109, []), (27, .if_icmp .eq 9, 30, 36, 0, 0, 0, []), (30, .iload_n 1, 31, 0, 0, 0, 0, []), (31, .bipush 116, 33, 0, 0, 0, 116, []), (33, .if_icmp .ne 24, 36, 57, 0, 0, 0, []), (36, .aload_n 0, 37, 0, 0, 0, 0, []), (37, .aload_n 0, 38, 0, 0, 0, 0, []), (38, .invokevirtual 143, 41, 147, 0, 7, 0, []), (41, .putfield 137, 44, 7, 10, 0, 0, []), (44, .aload_n 0, 45, 0, 0, 0, 0, []), (45, .getfield 137, 48, 7, 10, 0, 0, []), (48, .ifCond .lt 7, 51, 55, 0, 0, 0, []), (51, .iconst 1, 52, 0, 0, 0, 1, []), (52, .goto 4, 55, 56, 0, 0, 0, []), (55, .iconst 0, 56, 0, 0, 0, 0, []), (56, .istore_n 2, 57, 0, 0, 0, 0, []), (57, .iload_n 2, 58, 0, 0, 0, 0, []), (58, .ifCond .eq 51, 61, 109, 0, 0, 0, []), (61, .iload_n 1, 62, 0, 0, 0, 0, []), (62, .bipush 108, 64, 0, 0, 0, 108, []), (64, .if_icmp .eq 9, 67, 73, 0, 0, 0, []), (67, .iload_n 1, 68, 0, 0, 0, 0, []), (68, .bipush 109, 70, 0, 0, 0, 109, []), (70, .if_icmp .ne 39, 73, 109, 0, 0, 0, []), (73, .aload_n 0, 74, 0, 0, 0, 0, []), (74, .bipush 44, 76, 0, 0, 0, 44, []), (76, .invokevirtual 146, 79, 146, 1, 7, 0, []), (79, .istore_n 2, 80, 0, 0, 0, 0, []), (80, .aload_n 0, 81, 0, 0, 0, 0, []), (81, .iload_n 2, 82, 0, 0, 0, 0, []), (82, .ifCond .eq 10, 85, 92, 0, 0, 0, []), (85, .aload_n 0, 86, 0, 0, 0, 0, []), (86, .invokevirtual 143, 89, 147, 0, 7, 0, []), (89, .goto 4, 92, 93, 0, 0, 0, []), (92, .iconst (-1), 93, 0, 0, 0, -1, []), (93, .putfield 140, 96, 7, 11, 0, 0, []), (96, .aload_n 0, 97, 0, 0, 0, 0, []), (97, .getfield 140, 100, 7, 11, 0, 0, []), (100, .ifCond .lt 7, 103, 107, 0, 0, 0, []), (103, .iconst 1, 104, 0, 0, 0, 1, []), (104, .goto 4, 107, 108, 0, 0, 0, []), (107, .iconst 0, 108, 0, 0, 0, 0, []), (108, .istore_n 2, 109, 0, 0, 0, 0, []), (109, .iload_n 2, 110, 0, 0, 0, 0, []), (110, .ifCond .eq 16, 113, 126, 0, 0, 0, []), (113, .aload_n 0, 114, 0, 0, 0, 0, []), (114, .bipush 59, 116, 0, 0, 0, 59, []), (116, .invokevirtual 146, 119, 146, 1, 7, 0, []), (119, .ifCond .eq 7, 122, 126, 0, 0, 0, []), (122, .iconst 1, 123, 0, 0, 0, 1, []), (123, .goto 4, 126, 127, 0, 0, 0, []), (126, .iconst 0, 127, 0, 0, 0, 0, []), (127, .ireturn, 128, 0, 0, 0, 0, [])]
def tbX7_isForm : Nat → pm_E := pm_lk ltX7_isForm
theorem okX7_isForm : ∀ pc, (tbX7_isForm pc).1 = .nop ∨ pm_ok mX7_isForm pw_Ms pc (tbX7_isForm pc) := pm_lk_ok (by decide +kernel)
theorem nr_X7_isForm : mX7_isForm.2.2.2 = (some .boolean) := rfl
theorem tX7_isForm_0 : tbX7_isForm 0 = (.aload_n 0, 1, 0, 0, 0, 0, []) := rfl
theorem tX7_isForm_1 : tbX7_isForm 1 = (.iconst 0, 2, 0, 0, 0, 0, []) := rfl
theorem tX7_isForm_2 : tbX7_isForm 2 = (.putfield 137, 5, 7, 10, 0, 0, []) := rfl
theorem tX7_isForm_5 : tbX7_isForm 5 = (.aload_n 0, 6, 0, 0, 0, 0, []) := rfl
theorem tX7_isForm_6 : tbX7_isForm 6 = (.iconst 0, 7, 0, 0, 0, 0, []) := rfl
theorem tX7_isForm_7 : tbX7_isForm 7 = (.putfield 140, 10, 7, 11, 0, 0, []) := rfl
theorem tX7_isForm_10 : tbX7_isForm 10 = (.iconst 1, 11, 0, 0, 0, 1, []) := rfl
theorem tX7_isForm_11 : tbX7_isForm 11 = (.istore_n 2, 12, 0, 0, 0, 0, []) := rfl
theorem tX7_isForm_12 : tbX7_isForm 12 = (.iload_n 1, 13, 0, 0, 0, 0, []) := rfl
theorem tX7_isForm_13 : tbX7_isForm 13 = (.bipush 101, 15, 0, 0, 0, 101, []) := rfl
theorem tX7_isForm_15 : tbX7_isForm 15 = (.if_icmp .eq 21, 18, 36, 0, 0, 0, []) := rfl
theorem tX7_isForm_18 : tbX7_isForm 18 = (.iload_n 1, 19, 0, 0, 0, 0, []) := rfl
theorem tX7_isForm_19 : tbX7_isForm 19 = (.bipush 108, 21, 0, 0, 0, 108, []) := rfl
theorem tX7_isForm_21 : tbX7_isForm 21 = (.if_icmp .eq 15, 24, 36, 0, 0, 0, []) := rfl
theorem tX7_isForm_24 : tbX7_isForm 24 = (.iload_n 1, 25, 0, 0, 0, 0, []) := rfl
theorem tX7_isForm_25 : tbX7_isForm 25 = (.bipush 109, 27, 0, 0, 0, 109, []) := rfl
theorem tX7_isForm_27 : tbX7_isForm 27 = (.if_icmp .eq 9, 30, 36, 0, 0, 0, []) := rfl
theorem tX7_isForm_30 : tbX7_isForm 30 = (.iload_n 1, 31, 0, 0, 0, 0, []) := rfl
theorem tX7_isForm_31 : tbX7_isForm 31 = (.bipush 116, 33, 0, 0, 0, 116, []) := rfl
theorem tX7_isForm_33 : tbX7_isForm 33 = (.if_icmp .ne 24, 36, 57, 0, 0, 0, []) := rfl
theorem tX7_isForm_36 : tbX7_isForm 36 = (.aload_n 0, 37, 0, 0, 0, 0, []) := rfl
theorem tX7_isForm_37 : tbX7_isForm 37 = (.aload_n 0, 38, 0, 0, 0, 0, []) := rfl
theorem tX7_isForm_38 : tbX7_isForm 38 = (.invokevirtual 143, 41, 147, 0, 7, 0, []) := rfl
theorem tX7_isForm_41 : tbX7_isForm 41 = (.putfield 137, 44, 7, 10, 0, 0, []) := rfl
theorem tX7_isForm_44 : tbX7_isForm 44 = (.aload_n 0, 45, 0, 0, 0, 0, []) := rfl
theorem tX7_isForm_45 : tbX7_isForm 45 = (.getfield 137, 48, 7, 10, 0, 0, []) := rfl
theorem tX7_isForm_48 : tbX7_isForm 48 = (.ifCond .lt 7, 51, 55, 0, 0, 0, []) := rfl
theorem tX7_isForm_51 : tbX7_isForm 51 = (.iconst 1, 52, 0, 0, 0, 1, []) := rfl
theorem tX7_isForm_52 : tbX7_isForm 52 = (.goto 4, 55, 56, 0, 0, 0, []) := rfl
theorem tX7_isForm_55 : tbX7_isForm 55 = (.iconst 0, 56, 0, 0, 0, 0, []) := rfl
theorem tX7_isForm_56 : tbX7_isForm 56 = (.istore_n 2, 57, 0, 0, 0, 0, []) := rfl
theorem tX7_isForm_57 : tbX7_isForm 57 = (.iload_n 2, 58, 0, 0, 0, 0, []) := rfl
theorem tX7_isForm_58 : tbX7_isForm 58 = (.ifCond .eq 51, 61, 109, 0, 0, 0, []) := rfl
theorem tX7_isForm_61 : tbX7_isForm 61 = (.iload_n 1, 62, 0, 0, 0, 0, []) := rfl
theorem tX7_isForm_62 : tbX7_isForm 62 = (.bipush 108, 64, 0, 0, 0, 108, []) := rfl
theorem tX7_isForm_64 : tbX7_isForm 64 = (.if_icmp .eq 9, 67, 73, 0, 0, 0, []) := rfl
theorem tX7_isForm_67 : tbX7_isForm 67 = (.iload_n 1, 68, 0, 0, 0, 0, []) := rfl
theorem tX7_isForm_68 : tbX7_isForm 68 = (.bipush 109, 70, 0, 0, 0, 109, []) := rfl
theorem tX7_isForm_70 : tbX7_isForm 70 = (.if_icmp .ne 39, 73, 109, 0, 0, 0, []) := rfl
theorem tX7_isForm_73 : tbX7_isForm 73 = (.aload_n 0, 74, 0, 0, 0, 0, []) := rfl
theorem tX7_isForm_74 : tbX7_isForm 74 = (.bipush 44, 76, 0, 0, 0, 44, []) := rfl
theorem tX7_isForm_76 : tbX7_isForm 76 = (.invokevirtual 146, 79, 146, 1, 7, 0, []) := rfl
theorem tX7_isForm_79 : tbX7_isForm 79 = (.istore_n 2, 80, 0, 0, 0, 0, []) := rfl
theorem tX7_isForm_80 : tbX7_isForm 80 = (.aload_n 0, 81, 0, 0, 0, 0, []) := rfl
theorem tX7_isForm_81 : tbX7_isForm 81 = (.iload_n 2, 82, 0, 0, 0, 0, []) := rfl
theorem tX7_isForm_82 : tbX7_isForm 82 = (.ifCond .eq 10, 85, 92, 0, 0, 0, []) := rfl
theorem tX7_isForm_85 : tbX7_isForm 85 = (.aload_n 0, 86, 0, 0, 0, 0, []) := rfl
theorem tX7_isForm_86 : tbX7_isForm 86 = (.invokevirtual 143, 89, 147, 0, 7, 0, []) := rfl
theorem tX7_isForm_89 : tbX7_isForm 89 = (.goto 4, 92, 93, 0, 0, 0, []) := rfl
theorem tX7_isForm_92 : tbX7_isForm 92 = (.iconst (-1), 93, 0, 0, 0, -1, []) := rfl
theorem tX7_isForm_93 : tbX7_isForm 93 = (.putfield 140, 96, 7, 11, 0, 0, []) := rfl
theorem tX7_isForm_96 : tbX7_isForm 96 = (.aload_n 0, 97, 0, 0, 0, 0, []) := rfl
theorem tX7_isForm_97 : tbX7_isForm 97 = (.getfield 140, 100, 7, 11, 0, 0, []) := rfl
theorem tX7_isForm_100 : tbX7_isForm 100 = (.ifCond .lt 7, 103, 107, 0, 0, 0, []) := rfl
theorem tX7_isForm_103 : tbX7_isForm 103 = (.iconst 1, 104, 0, 0, 0, 1, []) := rfl
theorem tX7_isForm_104 : tbX7_isForm 104 = (.goto 4, 107, 108, 0, 0, 0, []) := rfl
theorem tX7_isForm_107 : tbX7_isForm 107 = (.iconst 0, 108, 0, 0, 0, 0, []) := rfl
theorem tX7_isForm_108 : tbX7_isForm 108 = (.istore_n 2, 109, 0, 0, 0, 0, []) := rfl
theorem tX7_isForm_109 : tbX7_isForm 109 = (.iload_n 2, 110, 0, 0, 0, 0, []) := rfl
theorem tX7_isForm_110 : tbX7_isForm 110 = (.ifCond .eq 16, 113, 126, 0, 0, 0, []) := rfl
theorem tX7_isForm_113 : tbX7_isForm 113 = (.aload_n 0, 114, 0, 0, 0, 0, []) := rfl
theorem tX7_isForm_114 : tbX7_isForm 114 = (.bipush 59, 116, 0, 0, 0, 59, []) := rfl
theorem tX7_isForm_116 : tbX7_isForm 116 = (.invokevirtual 146, 119, 146, 1, 7, 0, []) := rfl
theorem tX7_isForm_119 : tbX7_isForm 119 = (.ifCond .eq 7, 122, 126, 0, 0, 0, []) := rfl
theorem tX7_isForm_122 : tbX7_isForm 122 = (.iconst 1, 123, 0, 0, 0, 1, []) := rfl
theorem tX7_isForm_123 : tbX7_isForm 123 = (.goto 4, 126, 127, 0, 0, 0, []) := rfl
theorem tX7_isForm_126 : tbX7_isForm 126 = (.iconst 0, 127, 0, 0, 0, 0, []) := rfl
theorem tX7_isForm_127 : tbX7_isForm 127 = (.ireturn, 128, 0, 0, 0, 0, []) := rfl
def ltX7_isRange : List (Nat × pm_E) := [(0, .iload_n 1, 1, 0, 0, 0, 0, []), (1, .lookupswitch 92 #[(101, 43), (108, 52), (109, 52), (116, 79)], 44, 93, 0, 0, 0, [(101, 44), (108, 53), (109, 53), (116, 80)]), (44, .aload_n 0, 45, 0, 0, 0, 0, []), (45, .aload_n 0, 46, 0, 0, 0, 0, []), (46, .getfield 137, 49, 7, 10, 0, 0, []), (49, .invokevirtual 64, 52, 101, 1, 7, 0, []), (52, .ireturn, 53, 0, 0, 0, 0, []), (53, .aload_n 0, 54, 0, 0, 0, 0, []), (54, .aload_n 0, 55, 0, 0, 0, 0, []), (55, .getfield 137, 58, 7, 10, 0, 0, []), (58, .invokevirtual 64, 61, 101, 1, 7, 0, []), (61, .ifCond .eq 17, 64, 78, 0, 0, 0, []), (64, .aload_n 0, 65, 0, 0, 0, 0, []), (65, .getfield 140, 68, 7, 11, 0, 0, []), (68, .invokestatic 47, 71, 102, 1, 0, 0, []), (71, .ifCond .eq 7, 74, 78, 0, 0, 0, []), (74, .iconst 1, 75, 0, 0, 0, 1, []), (75, .goto 4, 78, 79, 0, 0, 0, []), (78, .iconst 0, 79, 0, 0, 0, 0, []), (79, .ireturn, 80, 0, 0, 0, 0, []), (80, .aload_n 0, 81, 0, 0, 0, 0, []), (81, .getfield 137, 84, 7, 10, 0, 0, []), (84, .ifCond .le 7, 87, 91, 0, 0, 0, []), (87, .iconst 1, 88, 0, 0, 0, 1, []), (88, .goto 4, 91, 92, 0, 0, 0, []), (91, .iconst 0, 92, 0, 0, 0, 0, []), (92, .ireturn, 93, 0, 0, 0, 0, []), (93, .iconst 1, 94, 0, 0, 0, 1, []), (94, .ireturn, 95, 0, 0, 0, 0, [])]
def tbX7_isRange : Nat → pm_E := pm_lk ltX7_isRange
theorem okX7_isRange : ∀ pc, (tbX7_isRange pc).1 = .nop ∨ pm_ok mX7_isRange pw_Ms pc (tbX7_isRange pc) := pm_lk_ok (by decide +kernel)
theorem nr_X7_isRange : mX7_isRange.2.2.2 = (some .boolean) := rfl
theorem tX7_isRange_0 : tbX7_isRange 0 = (.iload_n 1, 1, 0, 0, 0, 0, []) := rfl
theorem tX7_isRange_1 : tbX7_isRange 1 = (.lookupswitch 92 #[(101, 43), (108, 52), (109, 52), (116, 79)], 44, 93, 0, 0, 0, [(101, 44), (108, 53), (109, 53), (116, 80)]) := rfl
theorem tX7_isRange_44 : tbX7_isRange 44 = (.aload_n 0, 45, 0, 0, 0, 0, []) := rfl
theorem tX7_isRange_45 : tbX7_isRange 45 = (.aload_n 0, 46, 0, 0, 0, 0, []) := rfl
theorem tX7_isRange_46 : tbX7_isRange 46 = (.getfield 137, 49, 7, 10, 0, 0, []) := rfl
theorem tX7_isRange_49 : tbX7_isRange 49 = (.invokevirtual 64, 52, 101, 1, 7, 0, []) := rfl
theorem tX7_isRange_52 : tbX7_isRange 52 = (.ireturn, 53, 0, 0, 0, 0, []) := rfl
theorem tX7_isRange_53 : tbX7_isRange 53 = (.aload_n 0, 54, 0, 0, 0, 0, []) := rfl
theorem tX7_isRange_54 : tbX7_isRange 54 = (.aload_n 0, 55, 0, 0, 0, 0, []) := rfl
theorem tX7_isRange_55 : tbX7_isRange 55 = (.getfield 137, 58, 7, 10, 0, 0, []) := rfl
theorem tX7_isRange_58 : tbX7_isRange 58 = (.invokevirtual 64, 61, 101, 1, 7, 0, []) := rfl
theorem tX7_isRange_61 : tbX7_isRange 61 = (.ifCond .eq 17, 64, 78, 0, 0, 0, []) := rfl
theorem tX7_isRange_64 : tbX7_isRange 64 = (.aload_n 0, 65, 0, 0, 0, 0, []) := rfl
theorem tX7_isRange_65 : tbX7_isRange 65 = (.getfield 140, 68, 7, 11, 0, 0, []) := rfl
theorem tX7_isRange_68 : tbX7_isRange 68 = (.invokestatic 47, 71, 102, 1, 0, 0, []) := rfl
theorem tX7_isRange_71 : tbX7_isRange 71 = (.ifCond .eq 7, 74, 78, 0, 0, 0, []) := rfl
theorem tX7_isRange_74 : tbX7_isRange 74 = (.iconst 1, 75, 0, 0, 0, 1, []) := rfl
theorem tX7_isRange_75 : tbX7_isRange 75 = (.goto 4, 78, 79, 0, 0, 0, []) := rfl
theorem tX7_isRange_78 : tbX7_isRange 78 = (.iconst 0, 79, 0, 0, 0, 0, []) := rfl
theorem tX7_isRange_79 : tbX7_isRange 79 = (.ireturn, 80, 0, 0, 0, 0, []) := rfl
theorem tX7_isRange_80 : tbX7_isRange 80 = (.aload_n 0, 81, 0, 0, 0, 0, []) := rfl
theorem tX7_isRange_81 : tbX7_isRange 81 = (.getfield 137, 84, 7, 10, 0, 0, []) := rfl
theorem tX7_isRange_84 : tbX7_isRange 84 = (.ifCond .le 7, 87, 91, 0, 0, 0, []) := rfl
theorem tX7_isRange_87 : tbX7_isRange 87 = (.iconst 1, 88, 0, 0, 0, 1, []) := rfl
theorem tX7_isRange_88 : tbX7_isRange 88 = (.goto 4, 91, 92, 0, 0, 0, []) := rfl
theorem tX7_isRange_91 : tbX7_isRange 91 = (.iconst 0, 92, 0, 0, 0, 0, []) := rfl
theorem tX7_isRange_92 : tbX7_isRange 92 = (.ireturn, 93, 0, 0, 0, 0, []) := rfl
theorem tX7_isRange_93 : tbX7_isRange 93 = (.iconst 1, 94, 0, 0, 0, 1, []) := rfl
theorem tX7_isRange_94 : tbX7_isRange 94 = (.ireturn, 95, 0, 0, 0, 0, []) := rfl
def ltX7_isPossible : List (Nat × pm_E) := [(0, .iload_n 1, 1, 0, 0, 0, 0, []), (1, .lookupswitch 154 #[(100, 138), (101, 51), (108, 74), (109, 87), (120, 114)], 52, 155, 0, 0, 0, [(100, 139), (101, 52), (108, 75), (109, 88), (120, 115)]), (52, .aload_n 0, 53, 0, 0, 0, 0, []), (53, .getfield 7, 56, 7, 0, 0, 0, [(0, 0)]), (56, .aload_n 0, 57, 0, 0, 0, 0, []), (57, .getfield 137, 60, 7, 10, 0, 0, []), (60, .invokestatic 57, 63, 99, 1, 0, 0, []), (63, .iconst 2, 64, 0, 0, 0, 2, []), (64, .iadd, 65, 0, 0, 0, 0, []), (65, .iaload, 66, 0, 0, 0, 0, []), (66, .ifCond .ne 7, 69, 73, 0, 0, 0, []), (69, .iconst 1, 70, 0, 0, 0, 1, []), (70, .goto 4, 73, 74, 0, 0, 0, []), (73, .iconst 0, 74, 0, 0, 0, 0, []), (74, .ireturn, 75, 0, 0, 0, 0, []), (75, .aload_n 0, 76, 0, 0, 0, 0, []), (76, .aload_n 0, 77, 0, 0, 0, 0, []), (77, .getfield 137, 80, 7, 10, 0, 0, []), (80, .aload_n 0, 81, 0, 0, 0, 0, []), (81, .getfield 140, 84, 7, 11, 0, 0, []), (84, .invokevirtual 99, 87, 127, 2, 7, 0, []), (87, .ireturn, 88, 0, 0, 0, 0, []), (88, .aload_n 0, 89, 0, 0, 0, 0, []), (89, .getfield 7, 92, 7, 0, 0, 0, [(0, 0)]), (92, .aload_n 0, 93, 0, 0, 0, 0, []), (93, .getfield 137, 96, 7, 10, 0, 0, []), (96, .invokestatic 57, 99, 99, 1, 0, 0, []), (99, .iconst 5, 100, 0, 0, 0, 5, []), (100, .iadd, 101, 0, 0, 0, 0, []), (101, .iaload, 102, 0, 0, 0, 0, []), (102, .aload_n 0, 103, 0, 0, 0, 0, []), (103, .getfield 140, 106, 7, 11, 0, 0, []), (106, .if_icmp .eq 7, 109, 113, 0, 0, 0, []), (109, .iconst 1, 110, 0, 0, 0, 1, []), (110, .goto 4, 113, 114, 0, 0, 0, []), (113, .iconst 0, 114, 0, 0, 0, 0, []), (114, .ireturn, 115, 0, 0, 0, 0, []), (115, .aload_n 0, 116, 0, 0, 0, 0, []), (116, .getfield 7, 119, 7, 0, 0, 0, [(0, 0)]), (119, .bipush 10, 121, 0, 0, 0, 10, []), (121, .iaload, 122, 0, 0, 0, 0, []), (122, .iconst 4, 123, 0, 0, 0, 4, []), (123, .if_icmp .ge 14, 126, 137, 0, 0, 0, []), (126, .aload_n 0, 127, 0, 0, 0, 0, []), (127, .invokevirtual 102, 130, 116, 0, 7, 0, []), (130, .ifCond .lt 7, 133, 137, 0, 0, 0, []), (133, .iconst 1, 134, 0, 0, 0, 1, []), (134, .goto 4, 137, 138, 0, 0, 0, []), (137, .iconst 0, 138, 0, 0, 0, 0, []), (138, .ireturn, 139, 0, 0, 0, 0, []), (139, .aload_n 0, 140, 0, 0, 0, 0, []), (140, .getfield 7, 143, 7, 0, 0, 0, [(0, 0)]), (143, .bipush 10, 145, 0, 0, 0, 10, []), (145, .iaload, 146, 0, 0, 0, 0, []), (146, .ifCond .le 7, 149, 153, 0, 0, 0, []), (149, .iconst 1, 150, 0, 0, 0, 1, []), (150, .goto 4, 153, 154, 0, 0, 0, []), (153, .iconst 0, 154, 0, 0, 0, 0, []), (154, .ireturn, 155, 0, 0, 0, 0, []), (155, .aload_n 0, 156, 0, 0, 0, 0, []), (156, .getfield 7, 159, 7, 0, 0, 0, [(0, 0)]), (159, .iconst 0, 160, 0, 0, 0, 0, []), (160, .iaload, 161, 0, 0, 0, 0, []), (161, .aload_n 0, 162, 0, 0, 0, 0, []), (162, .getfield 137, 165, 7, 10, 0, 0, []), (165, .iadd, 166, 0, 0, 0, 0, []), (166, .ldc 112, 168, 0, 0, 0, 50000, []), (168, .if_icmp .gt 7, 171, 175, 0, 0, 0, []), (171, .iconst 1, 172, 0, 0, 0, 1, []), (172, .goto 4, 175, 176, 0, 0, 0, []), (175, .iconst 0, 176, 0, 0, 0, 0, []), (176, .ireturn, 177, 0, 0, 0, 0, [])]
def tbX7_isPossible : Nat → pm_E := pm_lk ltX7_isPossible
theorem okX7_isPossible : ∀ pc, (tbX7_isPossible pc).1 = .nop ∨ pm_ok mX7_isPossible pw_Ms pc (tbX7_isPossible pc) := pm_lk_ok (by decide +kernel)
theorem nr_X7_isPossible : mX7_isPossible.2.2.2 = (some .boolean) := rfl
theorem tX7_isPossible_0 : tbX7_isPossible 0 = (.iload_n 1, 1, 0, 0, 0, 0, []) := rfl
theorem tX7_isPossible_1 : tbX7_isPossible 1 = (.lookupswitch 154 #[(100, 138), (101, 51), (108, 74), (109, 87), (120, 114)], 52, 155, 0, 0, 0, [(100, 139), (101, 52), (108, 75), (109, 88), (120, 115)]) := rfl
theorem tX7_isPossible_52 : tbX7_isPossible 52 = (.aload_n 0, 53, 0, 0, 0, 0, []) := rfl
theorem tX7_isPossible_53 : tbX7_isPossible 53 = (.getfield 7, 56, 7, 0, 0, 0, [(0, 0)]) := rfl
theorem tX7_isPossible_56 : tbX7_isPossible 56 = (.aload_n 0, 57, 0, 0, 0, 0, []) := rfl
theorem tX7_isPossible_57 : tbX7_isPossible 57 = (.getfield 137, 60, 7, 10, 0, 0, []) := rfl
theorem tX7_isPossible_60 : tbX7_isPossible 60 = (.invokestatic 57, 63, 99, 1, 0, 0, []) := rfl
theorem tX7_isPossible_63 : tbX7_isPossible 63 = (.iconst 2, 64, 0, 0, 0, 2, []) := rfl
theorem tX7_isPossible_64 : tbX7_isPossible 64 = (.iadd, 65, 0, 0, 0, 0, []) := rfl
theorem tX7_isPossible_65 : tbX7_isPossible 65 = (.iaload, 66, 0, 0, 0, 0, []) := rfl
theorem tX7_isPossible_66 : tbX7_isPossible 66 = (.ifCond .ne 7, 69, 73, 0, 0, 0, []) := rfl
theorem tX7_isPossible_69 : tbX7_isPossible 69 = (.iconst 1, 70, 0, 0, 0, 1, []) := rfl
theorem tX7_isPossible_70 : tbX7_isPossible 70 = (.goto 4, 73, 74, 0, 0, 0, []) := rfl
theorem tX7_isPossible_73 : tbX7_isPossible 73 = (.iconst 0, 74, 0, 0, 0, 0, []) := rfl
theorem tX7_isPossible_74 : tbX7_isPossible 74 = (.ireturn, 75, 0, 0, 0, 0, []) := rfl
theorem tX7_isPossible_75 : tbX7_isPossible 75 = (.aload_n 0, 76, 0, 0, 0, 0, []) := rfl
theorem tX7_isPossible_76 : tbX7_isPossible 76 = (.aload_n 0, 77, 0, 0, 0, 0, []) := rfl
theorem tX7_isPossible_77 : tbX7_isPossible 77 = (.getfield 137, 80, 7, 10, 0, 0, []) := rfl
theorem tX7_isPossible_80 : tbX7_isPossible 80 = (.aload_n 0, 81, 0, 0, 0, 0, []) := rfl
theorem tX7_isPossible_81 : tbX7_isPossible 81 = (.getfield 140, 84, 7, 11, 0, 0, []) := rfl
theorem tX7_isPossible_84 : tbX7_isPossible 84 = (.invokevirtual 99, 87, 127, 2, 7, 0, []) := rfl
theorem tX7_isPossible_87 : tbX7_isPossible 87 = (.ireturn, 88, 0, 0, 0, 0, []) := rfl
theorem tX7_isPossible_88 : tbX7_isPossible 88 = (.aload_n 0, 89, 0, 0, 0, 0, []) := rfl
theorem tX7_isPossible_89 : tbX7_isPossible 89 = (.getfield 7, 92, 7, 0, 0, 0, [(0, 0)]) := rfl
theorem tX7_isPossible_92 : tbX7_isPossible 92 = (.aload_n 0, 93, 0, 0, 0, 0, []) := rfl
theorem tX7_isPossible_93 : tbX7_isPossible 93 = (.getfield 137, 96, 7, 10, 0, 0, []) := rfl
theorem tX7_isPossible_96 : tbX7_isPossible 96 = (.invokestatic 57, 99, 99, 1, 0, 0, []) := rfl
theorem tX7_isPossible_99 : tbX7_isPossible 99 = (.iconst 5, 100, 0, 0, 0, 5, []) := rfl
theorem tX7_isPossible_100 : tbX7_isPossible 100 = (.iadd, 101, 0, 0, 0, 0, []) := rfl
theorem tX7_isPossible_101 : tbX7_isPossible 101 = (.iaload, 102, 0, 0, 0, 0, []) := rfl
theorem tX7_isPossible_102 : tbX7_isPossible 102 = (.aload_n 0, 103, 0, 0, 0, 0, []) := rfl
theorem tX7_isPossible_103 : tbX7_isPossible 103 = (.getfield 140, 106, 7, 11, 0, 0, []) := rfl
theorem tX7_isPossible_106 : tbX7_isPossible 106 = (.if_icmp .eq 7, 109, 113, 0, 0, 0, []) := rfl
theorem tX7_isPossible_109 : tbX7_isPossible 109 = (.iconst 1, 110, 0, 0, 0, 1, []) := rfl
theorem tX7_isPossible_110 : tbX7_isPossible 110 = (.goto 4, 113, 114, 0, 0, 0, []) := rfl
theorem tX7_isPossible_113 : tbX7_isPossible 113 = (.iconst 0, 114, 0, 0, 0, 0, []) := rfl
theorem tX7_isPossible_114 : tbX7_isPossible 114 = (.ireturn, 115, 0, 0, 0, 0, []) := rfl
theorem tX7_isPossible_115 : tbX7_isPossible 115 = (.aload_n 0, 116, 0, 0, 0, 0, []) := rfl
theorem tX7_isPossible_116 : tbX7_isPossible 116 = (.getfield 7, 119, 7, 0, 0, 0, [(0, 0)]) := rfl
theorem tX7_isPossible_119 : tbX7_isPossible 119 = (.bipush 10, 121, 0, 0, 0, 10, []) := rfl
theorem tX7_isPossible_121 : tbX7_isPossible 121 = (.iaload, 122, 0, 0, 0, 0, []) := rfl
theorem tX7_isPossible_122 : tbX7_isPossible 122 = (.iconst 4, 123, 0, 0, 0, 4, []) := rfl
theorem tX7_isPossible_123 : tbX7_isPossible 123 = (.if_icmp .ge 14, 126, 137, 0, 0, 0, []) := rfl
theorem tX7_isPossible_126 : tbX7_isPossible 126 = (.aload_n 0, 127, 0, 0, 0, 0, []) := rfl
theorem tX7_isPossible_127 : tbX7_isPossible 127 = (.invokevirtual 102, 130, 116, 0, 7, 0, []) := rfl
theorem tX7_isPossible_130 : tbX7_isPossible 130 = (.ifCond .lt 7, 133, 137, 0, 0, 0, []) := rfl
theorem tX7_isPossible_133 : tbX7_isPossible 133 = (.iconst 1, 134, 0, 0, 0, 1, []) := rfl
theorem tX7_isPossible_134 : tbX7_isPossible 134 = (.goto 4, 137, 138, 0, 0, 0, []) := rfl
theorem tX7_isPossible_137 : tbX7_isPossible 137 = (.iconst 0, 138, 0, 0, 0, 0, []) := rfl
theorem tX7_isPossible_138 : tbX7_isPossible 138 = (.ireturn, 139, 0, 0, 0, 0, []) := rfl
theorem tX7_isPossible_139 : tbX7_isPossible 139 = (.aload_n 0, 140, 0, 0, 0, 0, []) := rfl
theorem tX7_isPossible_140 : tbX7_isPossible 140 = (.getfield 7, 143, 7, 0, 0, 0, [(0, 0)]) := rfl
theorem tX7_isPossible_143 : tbX7_isPossible 143 = (.bipush 10, 145, 0, 0, 0, 10, []) := rfl
theorem tX7_isPossible_145 : tbX7_isPossible 145 = (.iaload, 146, 0, 0, 0, 0, []) := rfl
theorem tX7_isPossible_146 : tbX7_isPossible 146 = (.ifCond .le 7, 149, 153, 0, 0, 0, []) := rfl
theorem tX7_isPossible_149 : tbX7_isPossible 149 = (.iconst 1, 150, 0, 0, 0, 1, []) := rfl
theorem tX7_isPossible_150 : tbX7_isPossible 150 = (.goto 4, 153, 154, 0, 0, 0, []) := rfl
theorem tX7_isPossible_153 : tbX7_isPossible 153 = (.iconst 0, 154, 0, 0, 0, 0, []) := rfl
theorem tX7_isPossible_154 : tbX7_isPossible 154 = (.ireturn, 155, 0, 0, 0, 0, []) := rfl
theorem tX7_isPossible_155 : tbX7_isPossible 155 = (.aload_n 0, 156, 0, 0, 0, 0, []) := rfl
theorem tX7_isPossible_156 : tbX7_isPossible 156 = (.getfield 7, 159, 7, 0, 0, 0, [(0, 0)]) := rfl
theorem tX7_isPossible_159 : tbX7_isPossible 159 = (.iconst 0, 160, 0, 0, 0, 0, []) := rfl
theorem tX7_isPossible_160 : tbX7_isPossible 160 = (.iaload, 161, 0, 0, 0, 0, []) := rfl
theorem tX7_isPossible_161 : tbX7_isPossible 161 = (.aload_n 0, 162, 0, 0, 0, 0, []) := rfl
theorem tX7_isPossible_162 : tbX7_isPossible 162 = (.getfield 137, 165, 7, 10, 0, 0, []) := rfl
theorem tX7_isPossible_165 : tbX7_isPossible 165 = (.iadd, 166, 0, 0, 0, 0, []) := rfl
theorem tX7_isPossible_166 : tbX7_isPossible 166 = (.ldc 112, 168, 0, 0, 0, 50000, []) := rfl
theorem tX7_isPossible_168 : tbX7_isPossible 168 = (.if_icmp .gt 7, 171, 175, 0, 0, 0, []) := rfl
theorem tX7_isPossible_171 : tbX7_isPossible 171 = (.iconst 1, 172, 0, 0, 0, 1, []) := rfl
theorem tX7_isPossible_172 : tbX7_isPossible 172 = (.goto 4, 175, 176, 0, 0, 0, []) := rfl
theorem tX7_isPossible_175 : tbX7_isPossible 175 = (.iconst 0, 176, 0, 0, 0, 0, []) := rfl
theorem tX7_isPossible_176 : tbX7_isPossible 176 = (.ireturn, 177, 0, 0, 0, 0, []) := rfl
def ltX7_goEvent : List (Nat × pm_E) := [(0, .iload_n 1, 1, 0, 0, 0, 0, []), (1, .lookupswitch 124 #[(100, 116), (101, 51), (108, 63), (109, 84), (120, 105)], 52, 125, 0, 0, 0, [(100, 117), (101, 52), (108, 64), (109, 85), (120, 106)]), (52, .aload_n 0, 53, 0, 0, 0, 0, []), (53, .aload_n 0, 54, 0, 0, 0, 0, []), (54, .getfield 137, 57, 7, 10, 0, 0, []), (57, .invokevirtual 96, 60, 125, 1, 7, 0, []), (60, .pop, 61, 0, 0, 0, 0, []), (61, .goto 73, 64, 134, 0, 0, 0, []), (64, .aload_n 0, 65, 0, 0, 0, 0, []), (65, .getfield 7, 68, 7, 0, 0, 0, [(0, 0)]), (68, .aload_n 0, 69, 0, 0, 0, 0, []), (69, .getfield 137, 72, 7, 10, 0, 0, []), (72, .invokestatic 57, 75, 99, 1, 0, 0, []), (75, .iconst 3, 76, 0, 0, 0, 3, []), (76, .iadd, 77, 0, 0, 0, 0, []), (77, .aload_n 0, 78, 0, 0, 0, 0, []), (78, .getfield 140, 81, 7, 11, 0, 0, []), (81, .iastore, 82, 0, 0, 0, 0, []), (82, .goto 52, 85, 134, 0, 0, 0, []), (85, .aload_n 0, 86, 0, 0, 0, 0, []), (86, .getfield 7, 89, 7, 0, 0, 0, [(0, 0)]), (89, .aload_n 0, 90, 0, 0, 0, 0, []), (90, .getfield 137, 93, 7, 10, 0, 0, []), (93, .invokestatic 57, 96, 99, 1, 0, 0, []), (96, .iconst 5, 97, 0, 0, 0, 5, []), (97, .iadd, 98, 0, 0, 0, 0, []), (98, .aload_n 0, 99, 0, 0, 0, 0, []), (99, .getfield 140, 102, 7, 11, 0, 0, []), (102, .iastore, 103, 0, 0, 0, 0, []), (103, .goto 31, 106, 134, 0, 0, 0, []), (106, .aload_n 0, 107, 0, 0, 0, 0, []), (107, .aload_n 0, 108, 0, 0, 0, 0, []), (108, .invokevirtual 102, 111, 116, 0, 7, 0, []), (111, .invokevirtual 106, 114, 119, 1, 7, 0, []), (114, .goto 20, 117, 134, 0, 0, 0, []), (117, .aload_n 0, 118, 0, 0, 0, 0, []), (118, .invokevirtual 109, 121, 120, 0, 7, 0, []), (121, .pop, 122, 0, 0, 0, 0, []), (122, .goto 12, 125, 134, 0, 0, 0, []), (125, .aload_n 0, 126, 0, 0, 0, 0, []), (126, .aload_n 0, 127, 0, 0, 0, 0, []), (127, .getfield 137, 130, 7, 10, 0, 0, []), (130, .invokevirtual 113, 133, 131, 1, 7, 0, []), (133, .pop, 134, 0, 0, 0, 0, []), (134, .return_, 135, 0, 0, 0, 0, [])]
def tbX7_goEvent : Nat → pm_E := pm_lk ltX7_goEvent
theorem okX7_goEvent : ∀ pc, (tbX7_goEvent pc).1 = .nop ∨ pm_ok mX7_goEvent pw_Ms pc (tbX7_goEvent pc) := pm_lk_ok (by decide +kernel)
theorem nr_X7_goEvent : mX7_goEvent.2.2.2 = none := rfl
theorem tX7_goEvent_0 : tbX7_goEvent 0 = (.iload_n 1, 1, 0, 0, 0, 0, []) := rfl
theorem tX7_goEvent_1 : tbX7_goEvent 1 = (.lookupswitch 124 #[(100, 116), (101, 51), (108, 63), (109, 84), (120, 105)], 52, 125, 0, 0, 0, [(100, 117), (101, 52), (108, 64), (109, 85), (120, 106)]) := rfl
theorem tX7_goEvent_52 : tbX7_goEvent 52 = (.aload_n 0, 53, 0, 0, 0, 0, []) := rfl
theorem tX7_goEvent_53 : tbX7_goEvent 53 = (.aload_n 0, 54, 0, 0, 0, 0, []) := rfl
theorem tX7_goEvent_54 : tbX7_goEvent 54 = (.getfield 137, 57, 7, 10, 0, 0, []) := rfl
theorem tX7_goEvent_57 : tbX7_goEvent 57 = (.invokevirtual 96, 60, 125, 1, 7, 0, []) := rfl
theorem tX7_goEvent_60 : tbX7_goEvent 60 = (.pop, 61, 0, 0, 0, 0, []) := rfl
theorem tX7_goEvent_61 : tbX7_goEvent 61 = (.goto 73, 64, 134, 0, 0, 0, []) := rfl
theorem tX7_goEvent_64 : tbX7_goEvent 64 = (.aload_n 0, 65, 0, 0, 0, 0, []) := rfl
theorem tX7_goEvent_65 : tbX7_goEvent 65 = (.getfield 7, 68, 7, 0, 0, 0, [(0, 0)]) := rfl
theorem tX7_goEvent_68 : tbX7_goEvent 68 = (.aload_n 0, 69, 0, 0, 0, 0, []) := rfl
theorem tX7_goEvent_69 : tbX7_goEvent 69 = (.getfield 137, 72, 7, 10, 0, 0, []) := rfl
theorem tX7_goEvent_72 : tbX7_goEvent 72 = (.invokestatic 57, 75, 99, 1, 0, 0, []) := rfl
theorem tX7_goEvent_75 : tbX7_goEvent 75 = (.iconst 3, 76, 0, 0, 0, 3, []) := rfl
theorem tX7_goEvent_76 : tbX7_goEvent 76 = (.iadd, 77, 0, 0, 0, 0, []) := rfl
theorem tX7_goEvent_77 : tbX7_goEvent 77 = (.aload_n 0, 78, 0, 0, 0, 0, []) := rfl
theorem tX7_goEvent_78 : tbX7_goEvent 78 = (.getfield 140, 81, 7, 11, 0, 0, []) := rfl
theorem tX7_goEvent_81 : tbX7_goEvent 81 = (.iastore, 82, 0, 0, 0, 0, []) := rfl
theorem tX7_goEvent_82 : tbX7_goEvent 82 = (.goto 52, 85, 134, 0, 0, 0, []) := rfl
theorem tX7_goEvent_85 : tbX7_goEvent 85 = (.aload_n 0, 86, 0, 0, 0, 0, []) := rfl
theorem tX7_goEvent_86 : tbX7_goEvent 86 = (.getfield 7, 89, 7, 0, 0, 0, [(0, 0)]) := rfl
theorem tX7_goEvent_89 : tbX7_goEvent 89 = (.aload_n 0, 90, 0, 0, 0, 0, []) := rfl
theorem tX7_goEvent_90 : tbX7_goEvent 90 = (.getfield 137, 93, 7, 10, 0, 0, []) := rfl
theorem tX7_goEvent_93 : tbX7_goEvent 93 = (.invokestatic 57, 96, 99, 1, 0, 0, []) := rfl
theorem tX7_goEvent_96 : tbX7_goEvent 96 = (.iconst 5, 97, 0, 0, 0, 5, []) := rfl
theorem tX7_goEvent_97 : tbX7_goEvent 97 = (.iadd, 98, 0, 0, 0, 0, []) := rfl
theorem tX7_goEvent_98 : tbX7_goEvent 98 = (.aload_n 0, 99, 0, 0, 0, 0, []) := rfl
theorem tX7_goEvent_99 : tbX7_goEvent 99 = (.getfield 140, 102, 7, 11, 0, 0, []) := rfl
theorem tX7_goEvent_102 : tbX7_goEvent 102 = (.iastore, 103, 0, 0, 0, 0, []) := rfl
theorem tX7_goEvent_103 : tbX7_goEvent 103 = (.goto 31, 106, 134, 0, 0, 0, []) := rfl
theorem tX7_goEvent_106 : tbX7_goEvent 106 = (.aload_n 0, 107, 0, 0, 0, 0, []) := rfl
theorem tX7_goEvent_107 : tbX7_goEvent 107 = (.aload_n 0, 108, 0, 0, 0, 0, []) := rfl
theorem tX7_goEvent_108 : tbX7_goEvent 108 = (.invokevirtual 102, 111, 116, 0, 7, 0, []) := rfl
theorem tX7_goEvent_111 : tbX7_goEvent 111 = (.invokevirtual 106, 114, 119, 1, 7, 0, []) := rfl
theorem tX7_goEvent_114 : tbX7_goEvent 114 = (.goto 20, 117, 134, 0, 0, 0, []) := rfl
theorem tX7_goEvent_117 : tbX7_goEvent 117 = (.aload_n 0, 118, 0, 0, 0, 0, []) := rfl
theorem tX7_goEvent_118 : tbX7_goEvent 118 = (.invokevirtual 109, 121, 120, 0, 7, 0, []) := rfl
theorem tX7_goEvent_121 : tbX7_goEvent 121 = (.pop, 122, 0, 0, 0, 0, []) := rfl
theorem tX7_goEvent_122 : tbX7_goEvent 122 = (.goto 12, 125, 134, 0, 0, 0, []) := rfl
theorem tX7_goEvent_125 : tbX7_goEvent 125 = (.aload_n 0, 126, 0, 0, 0, 0, []) := rfl
theorem tX7_goEvent_126 : tbX7_goEvent 126 = (.aload_n 0, 127, 0, 0, 0, 0, []) := rfl
theorem tX7_goEvent_127 : tbX7_goEvent 127 = (.getfield 137, 130, 7, 10, 0, 0, []) := rfl
theorem tX7_goEvent_130 : tbX7_goEvent 130 = (.invokevirtual 113, 133, 131, 1, 7, 0, []) := rfl
theorem tX7_goEvent_133 : tbX7_goEvent 133 = (.pop, 134, 0, 0, 0, 0, []) := rfl
theorem tX7_goEvent_134 : tbX7_goEvent 134 = (.return_, 135, 0, 0, 0, 0, []) := rfl
def ltX7_isSign : List (Nat × pm_E) := [(0, .iload_n 0, 1, 0, 0, 0, 0, []), (1, .bipush 101, 3, 0, 0, 0, 101, []), (3, .if_icmp .eq 33, 6, 36, 0, 0, 0, []), (6, .iload_n 0, 7, 0, 0, 0, 0, []), (7, .bipush 108, 9, 0, 0, 0, 108, []), (9, .if_icmp .eq 27, 12, 36, 0, 0, 0, []), (12, .iload_n 0, 13, 0, 0, 0, 0, []), (13, .bipush 109, 15, 0, 0, 0, 109, []), (15, .if_icmp .eq 21, 18, 36, 0, 0, 0, []), (18, .iload_n 0, 19, 0, 0, 0, 0, []), (19, .bipush 120, 21, 0, 0, 0, 120, []), (21, .if_icmp .eq 15, 24, 36, 0, 0, 0, []), (24, .iload_n 0, 25, 0, 0, 0, 0, []), (25, .bipush 100, 27, 0, 0, 0, 100, []), (27, .if_icmp .eq 9, 30, 36, 0, 0, 0, []), (30, .iload_n 0, 31, 0, 0, 0, 0, []), (31, .bipush 116, 33, 0, 0, 0, 116, []), (33, .if_icmp .ne 7, 36, 40, 0, 0, 0, []), (36, .iconst 1, 37, 0, 0, 0, 1, []), (37, .goto 4, 40, 41, 0, 0, 0, []), (40, .iconst 0, 41, 0, 0, 0, 0, []), (41, .ireturn, 42, 0, 0, 0, 0, [])]
def tbX7_isSign : Nat → pm_E := pm_lk ltX7_isSign
theorem okX7_isSign : ∀ pc, (tbX7_isSign pc).1 = .nop ∨ pm_ok mX7_isSign pw_Ms pc (tbX7_isSign pc) := pm_lk_ok (by decide +kernel)
theorem nr_X7_isSign : mX7_isSign.2.2.2 = (some .boolean) := rfl
theorem tX7_isSign_0 : tbX7_isSign 0 = (.iload_n 0, 1, 0, 0, 0, 0, []) := rfl
theorem tX7_isSign_1 : tbX7_isSign 1 = (.bipush 101, 3, 0, 0, 0, 101, []) := rfl
theorem tX7_isSign_3 : tbX7_isSign 3 = (.if_icmp .eq 33, 6, 36, 0, 0, 0, []) := rfl
theorem tX7_isSign_6 : tbX7_isSign 6 = (.iload_n 0, 7, 0, 0, 0, 0, []) := rfl
theorem tX7_isSign_7 : tbX7_isSign 7 = (.bipush 108, 9, 0, 0, 0, 108, []) := rfl
theorem tX7_isSign_9 : tbX7_isSign 9 = (.if_icmp .eq 27, 12, 36, 0, 0, 0, []) := rfl
theorem tX7_isSign_12 : tbX7_isSign 12 = (.iload_n 0, 13, 0, 0, 0, 0, []) := rfl
theorem tX7_isSign_13 : tbX7_isSign 13 = (.bipush 109, 15, 0, 0, 0, 109, []) := rfl
theorem tX7_isSign_15 : tbX7_isSign 15 = (.if_icmp .eq 21, 18, 36, 0, 0, 0, []) := rfl
theorem tX7_isSign_18 : tbX7_isSign 18 = (.iload_n 0, 19, 0, 0, 0, 0, []) := rfl
theorem tX7_isSign_19 : tbX7_isSign 19 = (.bipush 120, 21, 0, 0, 0, 120, []) := rfl
theorem tX7_isSign_21 : tbX7_isSign 21 = (.if_icmp .eq 15, 24, 36, 0, 0, 0, []) := rfl
theorem tX7_isSign_24 : tbX7_isSign 24 = (.iload_n 0, 25, 0, 0, 0, 0, []) := rfl
theorem tX7_isSign_25 : tbX7_isSign 25 = (.bipush 100, 27, 0, 0, 0, 100, []) := rfl
theorem tX7_isSign_27 : tbX7_isSign 27 = (.if_icmp .eq 9, 30, 36, 0, 0, 0, []) := rfl
theorem tX7_isSign_30 : tbX7_isSign 30 = (.iload_n 0, 31, 0, 0, 0, 0, []) := rfl
theorem tX7_isSign_31 : tbX7_isSign 31 = (.bipush 116, 33, 0, 0, 0, 116, []) := rfl
theorem tX7_isSign_33 : tbX7_isSign 33 = (.if_icmp .ne 7, 36, 40, 0, 0, 0, []) := rfl
theorem tX7_isSign_36 : tbX7_isSign 36 = (.iconst 1, 37, 0, 0, 0, 1, []) := rfl
theorem tX7_isSign_37 : tbX7_isSign 37 = (.goto 4, 40, 41, 0, 0, 0, []) := rfl
theorem tX7_isSign_40 : tbX7_isSign 40 = (.iconst 0, 41, 0, 0, 0, 0, []) := rfl
theorem tX7_isSign_41 : tbX7_isSign 41 = (.ireturn, 42, 0, 0, 0, 0, []) := rfl
def ltX7_run : List (Nat × pm_E) := [(0, .aload_n 0, 1, 0, 0, 0, 0, []), (1, .iconst 0, 2, 0, 0, 0, 0, []), (2, .putfield 134, 5, 7, 9, 0, 0, []), (5, .aload_n 0, 6, 0, 0, 0, 0, []), (6, .iconst 0, 7, 0, 0, 0, 0, []), (7, .putfield 149, 10, 7, 12, 0, 0, []), (10, .aload_n 0, 11, 0, 0, 0, 0, []), (11, .getfield 134, 14, 7, 9, 0, 0, []), (14, .aload_n 0, 15, 0, 0, 0, 0, []), (15, .getfield 131, 18, 7, 7, 0, 0, []), (18, .if_icmp .ge 95, 21, 113, 0, 0, 0, []), (21, .aload_n 0, 22, 0, 0, 0, 0, []), (22, .getfield 134, 25, 7, 9, 0, 0, []), (25, .istore_n 1, 26, 0, 0, 0, 0, []), (26, .aload_n 0, 27, 0, 0, 0, 0, []), (27, .getfield 28, 30, 7, 6, 0, 0, [(0, 0)]), (30, .aload_n 0, 31, 0, 0, 0, 0, []), (31, .getfield 134, 34, 7, 9, 0, 0, []), (34, .iaload, 35, 0, 0, 0, 0, []), (35, .istore_n 2, 36, 0, 0, 0, 0, []), (36, .aload_n 0, 37, 0, 0, 0, 0, []), (37, .dup, 38, 0, 0, 0, 0, []), (38, .getfield 134, 41, 7, 9, 0, 0, []), (41, .iconst 1, 42, 0, 0, 0, 1, []), (42, .iadd, 43, 0, 0, 0, 0, []), (43, .putfield 134, 46, 7, 9, 0, 0, []), (46, .iload_n 2, 47, 0, 0, 0, 0, []), (47, .invokestatic 152, 50, 152, 1, 0, 0, []), (50, .ifCond .eq 11, 53, 61, 0, 0, 0, []), (53, .aload_n 0, 54, 0, 0, 0, 0, []), (54, .iload_n 2, 55, 0, 0, 0, 0, []), (55, .invokevirtual 155, 58, 148, 1, 7, 0, []), (58, .ifCond .ne 9, 61, 67, 0, 0, 0, []), (61, .iconst 4, 62, 0, 0, 0, 4, []), (62, .iload_n 1, 63, 0, 0, 0, 0, []), (63, .imul, 64, 0, 0, 0, 0, []), (64, .iconst 1, 65, 0, 0, 0, 1, []), (65, .iadd, 66, 0, 0, 0, 0, []), (66, .ireturn, 67, 0, 0, 0, 0, []), (67, .aload_n 0, 68, 0, 0, 0, 0, []), (68, .iload_n 2, 69, 0, 0, 0, 0, []), (69, .invokevirtual 158, 72, 149, 1, 7, 0, []), (72, .ifCond .ne 9, 75, 81, 0, 0, 0, []), (75, .iconst 4, 76, 0, 0, 0, 4, []), (76, .iload_n 1, 77, 0, 0, 0, 0, []), (77, .imul, 78, 0, 0, 0, 0, []), (78, .iconst 2, 79, 0, 0, 0, 2, []), (79, .iadd, 80, 0, 0, 0, 0, []), (80, .ireturn, 81, 0, 0, 0, 0, []), (81, .aload_n 0, 82, 0, 0, 0, 0, []), (82, .iload_n 2, 83, 0, 0, 0, 0, []), (83, .invokevirtual 161, 86, 150, 1, 7, 0, []), (86, .ifCond .ne 9, 89, 95, 0, 0, 0, []), (89, .iconst 4, 90, 0, 0, 0, 4, []), (90, .iload_n 1, 91, 0, 0, 0, 0, []), (91, .imul, 92, 0, 0, 0, 0, []), (92, .iconst 3, 93, 0, 0, 0, 3, []), (93, .iadd, 94, 0, 0, 0, 0, []), (94, .ireturn, 95, 0, 0, 0, 0, []), (95, .aload_n 0, 96, 0, 0, 0, 0, []), (96, .iload_n 2, 97, 0, 0, 0, 0, []), (97, .invokevirtual 164, 100, 151, 1, 7, 0, []), (100, .aload_n 0, 101, 0, 0, 0, 0, []), (101, .dup, 102, 0, 0, 0, 0, []), (102, .getfield 149, 105, 7, 12, 0, 0, []), (105, .iconst 1, 106, 0, 0, 0, 1, []), (106, .iadd, 107, 0, 0, 0, 0, []), (107, .putfield 149, 110, 7, 12, 0, 0, []), (110, .goto (-100), 113, 10, 0, 0, 0, []), (113, .iconst (-1), 114, 0, 0, 0, -1, []), (114, .ireturn, 115, 0, 0, 0, 0, [])]
def tbX7_run : Nat → pm_E := pm_lk ltX7_run
theorem okX7_run : ∀ pc, (tbX7_run pc).1 = .nop ∨ pm_ok mX7_run pw_Ms pc (tbX7_run pc) := pm_lk_ok (by decide +kernel)
theorem nr_X7_run : mX7_run.2.2.2 = (some .int) := rfl
theorem tX7_run_0 : tbX7_run 0 = (.aload_n 0, 1, 0, 0, 0, 0, []) := rfl
theorem tX7_run_1 : tbX7_run 1 = (.iconst 0, 2, 0, 0, 0, 0, []) := rfl
theorem tX7_run_2 : tbX7_run 2 = (.putfield 134, 5, 7, 9, 0, 0, []) := rfl
theorem tX7_run_5 : tbX7_run 5 = (.aload_n 0, 6, 0, 0, 0, 0, []) := rfl
theorem tX7_run_6 : tbX7_run 6 = (.iconst 0, 7, 0, 0, 0, 0, []) := rfl
theorem tX7_run_7 : tbX7_run 7 = (.putfield 149, 10, 7, 12, 0, 0, []) := rfl
theorem tX7_run_10 : tbX7_run 10 = (.aload_n 0, 11, 0, 0, 0, 0, []) := rfl
theorem tX7_run_11 : tbX7_run 11 = (.getfield 134, 14, 7, 9, 0, 0, []) := rfl
theorem tX7_run_14 : tbX7_run 14 = (.aload_n 0, 15, 0, 0, 0, 0, []) := rfl
theorem tX7_run_15 : tbX7_run 15 = (.getfield 131, 18, 7, 7, 0, 0, []) := rfl
theorem tX7_run_18 : tbX7_run 18 = (.if_icmp .ge 95, 21, 113, 0, 0, 0, []) := rfl
theorem tX7_run_21 : tbX7_run 21 = (.aload_n 0, 22, 0, 0, 0, 0, []) := rfl
theorem tX7_run_22 : tbX7_run 22 = (.getfield 134, 25, 7, 9, 0, 0, []) := rfl
theorem tX7_run_25 : tbX7_run 25 = (.istore_n 1, 26, 0, 0, 0, 0, []) := rfl
theorem tX7_run_26 : tbX7_run 26 = (.aload_n 0, 27, 0, 0, 0, 0, []) := rfl
theorem tX7_run_27 : tbX7_run 27 = (.getfield 28, 30, 7, 6, 0, 0, [(0, 0)]) := rfl
theorem tX7_run_30 : tbX7_run 30 = (.aload_n 0, 31, 0, 0, 0, 0, []) := rfl
theorem tX7_run_31 : tbX7_run 31 = (.getfield 134, 34, 7, 9, 0, 0, []) := rfl
theorem tX7_run_34 : tbX7_run 34 = (.iaload, 35, 0, 0, 0, 0, []) := rfl
theorem tX7_run_35 : tbX7_run 35 = (.istore_n 2, 36, 0, 0, 0, 0, []) := rfl
theorem tX7_run_36 : tbX7_run 36 = (.aload_n 0, 37, 0, 0, 0, 0, []) := rfl
theorem tX7_run_37 : tbX7_run 37 = (.dup, 38, 0, 0, 0, 0, []) := rfl
theorem tX7_run_38 : tbX7_run 38 = (.getfield 134, 41, 7, 9, 0, 0, []) := rfl
theorem tX7_run_41 : tbX7_run 41 = (.iconst 1, 42, 0, 0, 0, 1, []) := rfl
theorem tX7_run_42 : tbX7_run 42 = (.iadd, 43, 0, 0, 0, 0, []) := rfl
theorem tX7_run_43 : tbX7_run 43 = (.putfield 134, 46, 7, 9, 0, 0, []) := rfl
theorem tX7_run_46 : tbX7_run 46 = (.iload_n 2, 47, 0, 0, 0, 0, []) := rfl
theorem tX7_run_47 : tbX7_run 47 = (.invokestatic 152, 50, 152, 1, 0, 0, []) := rfl
theorem tX7_run_50 : tbX7_run 50 = (.ifCond .eq 11, 53, 61, 0, 0, 0, []) := rfl
theorem tX7_run_53 : tbX7_run 53 = (.aload_n 0, 54, 0, 0, 0, 0, []) := rfl
theorem tX7_run_54 : tbX7_run 54 = (.iload_n 2, 55, 0, 0, 0, 0, []) := rfl
theorem tX7_run_55 : tbX7_run 55 = (.invokevirtual 155, 58, 148, 1, 7, 0, []) := rfl
theorem tX7_run_58 : tbX7_run 58 = (.ifCond .ne 9, 61, 67, 0, 0, 0, []) := rfl
theorem tX7_run_61 : tbX7_run 61 = (.iconst 4, 62, 0, 0, 0, 4, []) := rfl
theorem tX7_run_62 : tbX7_run 62 = (.iload_n 1, 63, 0, 0, 0, 0, []) := rfl
theorem tX7_run_63 : tbX7_run 63 = (.imul, 64, 0, 0, 0, 0, []) := rfl
theorem tX7_run_64 : tbX7_run 64 = (.iconst 1, 65, 0, 0, 0, 1, []) := rfl
theorem tX7_run_65 : tbX7_run 65 = (.iadd, 66, 0, 0, 0, 0, []) := rfl
theorem tX7_run_66 : tbX7_run 66 = (.ireturn, 67, 0, 0, 0, 0, []) := rfl
theorem tX7_run_67 : tbX7_run 67 = (.aload_n 0, 68, 0, 0, 0, 0, []) := rfl
theorem tX7_run_68 : tbX7_run 68 = (.iload_n 2, 69, 0, 0, 0, 0, []) := rfl
theorem tX7_run_69 : tbX7_run 69 = (.invokevirtual 158, 72, 149, 1, 7, 0, []) := rfl
theorem tX7_run_72 : tbX7_run 72 = (.ifCond .ne 9, 75, 81, 0, 0, 0, []) := rfl
theorem tX7_run_75 : tbX7_run 75 = (.iconst 4, 76, 0, 0, 0, 4, []) := rfl
theorem tX7_run_76 : tbX7_run 76 = (.iload_n 1, 77, 0, 0, 0, 0, []) := rfl
theorem tX7_run_77 : tbX7_run 77 = (.imul, 78, 0, 0, 0, 0, []) := rfl
theorem tX7_run_78 : tbX7_run 78 = (.iconst 2, 79, 0, 0, 0, 2, []) := rfl
theorem tX7_run_79 : tbX7_run 79 = (.iadd, 80, 0, 0, 0, 0, []) := rfl
theorem tX7_run_80 : tbX7_run 80 = (.ireturn, 81, 0, 0, 0, 0, []) := rfl
theorem tX7_run_81 : tbX7_run 81 = (.aload_n 0, 82, 0, 0, 0, 0, []) := rfl
theorem tX7_run_82 : tbX7_run 82 = (.iload_n 2, 83, 0, 0, 0, 0, []) := rfl
theorem tX7_run_83 : tbX7_run 83 = (.invokevirtual 161, 86, 150, 1, 7, 0, []) := rfl
theorem tX7_run_86 : tbX7_run 86 = (.ifCond .ne 9, 89, 95, 0, 0, 0, []) := rfl
theorem tX7_run_89 : tbX7_run 89 = (.iconst 4, 90, 0, 0, 0, 4, []) := rfl
theorem tX7_run_90 : tbX7_run 90 = (.iload_n 1, 91, 0, 0, 0, 0, []) := rfl
theorem tX7_run_91 : tbX7_run 91 = (.imul, 92, 0, 0, 0, 0, []) := rfl
theorem tX7_run_92 : tbX7_run 92 = (.iconst 3, 93, 0, 0, 0, 3, []) := rfl
theorem tX7_run_93 : tbX7_run 93 = (.iadd, 94, 0, 0, 0, 0, []) := rfl
theorem tX7_run_94 : tbX7_run 94 = (.ireturn, 95, 0, 0, 0, 0, []) := rfl
theorem tX7_run_95 : tbX7_run 95 = (.aload_n 0, 96, 0, 0, 0, 0, []) := rfl
theorem tX7_run_96 : tbX7_run 96 = (.iload_n 2, 97, 0, 0, 0, 0, []) := rfl
theorem tX7_run_97 : tbX7_run 97 = (.invokevirtual 164, 100, 151, 1, 7, 0, []) := rfl
theorem tX7_run_100 : tbX7_run 100 = (.aload_n 0, 101, 0, 0, 0, 0, []) := rfl
theorem tX7_run_101 : tbX7_run 101 = (.dup, 102, 0, 0, 0, 0, []) := rfl
theorem tX7_run_102 : tbX7_run 102 = (.getfield 149, 105, 7, 12, 0, 0, []) := rfl
theorem tX7_run_105 : tbX7_run 105 = (.iconst 1, 106, 0, 0, 0, 1, []) := rfl
theorem tX7_run_106 : tbX7_run 106 = (.iadd, 107, 0, 0, 0, 0, []) := rfl
theorem tX7_run_107 : tbX7_run 107 = (.putfield 149, 110, 7, 12, 0, 0, []) := rfl
theorem tX7_run_110 : tbX7_run 110 = (.goto (-100), 113, 10, 0, 0, 0, []) := rfl
theorem tX7_run_113 : tbX7_run 113 = (.iconst (-1), 114, 0, 0, 0, -1, []) := rfl
theorem tX7_run_114 : tbX7_run 114 = (.ireturn, 115, 0, 0, 0, 0, []) := rfl
def ltX7_fault : List (Nat × pm_E) := [(0, .iload_n 1, 1, 0, 0, 0, 0, []), (1, .iconst 0, 2, 0, 0, 0, 0, []), (2, .iconst 1, 3, 0, 0, 0, 1, []), (3, .invokestatic 35, 6, 94, 3, 0, 0, []), (6, .ifCond .ne 5, 9, 11, 0, 0, 0, []), (9, .iconst (-1), 10, 0, 0, 0, -1, []), (10, .ireturn, 11, 0, 0, 0, 0, []), (11, .aload_n 0, 12, 0, 0, 0, 0, []), (12, .invokevirtual 116, 15, 96, 0, 7, 0, []), (15, .aload_n 0, 16, 0, 0, 0, 0, []), (16, .invokevirtual 167, 19, 153, 0, 7, 0, []), (19, .istore_n 2, 20, 0, 0, 0, 0, []), (20, .aload_n 0, 21, 0, 0, 0, 0, []), (21, .invokevirtual 119, 24, 97, 0, 7, 0, []), (24, .iload_n 2, 25, 0, 0, 0, 0, []), (25, .ifCond .ge 8, 28, 33, 0, 0, 0, []), (28, .bipush (-4), 30, 0, 0, 0, -4, []), (30, .goto 16, 33, 46, 0, 0, 0, []), (33, .iload_n 1, 34, 0, 0, 0, 0, []), (34, .ifCond .ne 9, 37, 43, 0, 0, 0, []), (37, .iload_n 2, 38, 0, 0, 0, 0, []), (38, .iconst 4, 39, 0, 0, 0, 4, []), (39, .idiv, 40, 0, 0, 0, 0, []), (40, .goto 6, 43, 46, 0, 0, 0, []), (43, .iload_n 2, 44, 0, 0, 0, 0, []), (44, .iconst 4, 45, 0, 0, 0, 4, []), (45, .irem, 46, 0, 0, 0, 0, []), (46, .ireturn, 47, 0, 0, 0, 0, [])]
def tbX7_fault : Nat → pm_E := pm_lk ltX7_fault
theorem okX7_fault : ∀ pc, (tbX7_fault pc).1 = .nop ∨ pm_ok mX7_fault pw_Ms pc (tbX7_fault pc) := pm_lk_ok (by decide +kernel)
theorem nr_X7_fault : mX7_fault.2.2.2 = (some .int) := rfl
theorem tX7_fault_0 : tbX7_fault 0 = (.iload_n 1, 1, 0, 0, 0, 0, []) := rfl
theorem tX7_fault_1 : tbX7_fault 1 = (.iconst 0, 2, 0, 0, 0, 0, []) := rfl
theorem tX7_fault_2 : tbX7_fault 2 = (.iconst 1, 3, 0, 0, 0, 1, []) := rfl
theorem tX7_fault_3 : tbX7_fault 3 = (.invokestatic 35, 6, 94, 3, 0, 0, []) := rfl
theorem tX7_fault_6 : tbX7_fault 6 = (.ifCond .ne 5, 9, 11, 0, 0, 0, []) := rfl
theorem tX7_fault_9 : tbX7_fault 9 = (.iconst (-1), 10, 0, 0, 0, -1, []) := rfl
theorem tX7_fault_10 : tbX7_fault 10 = (.ireturn, 11, 0, 0, 0, 0, []) := rfl
theorem tX7_fault_11 : tbX7_fault 11 = (.aload_n 0, 12, 0, 0, 0, 0, []) := rfl
theorem tX7_fault_12 : tbX7_fault 12 = (.invokevirtual 116, 15, 96, 0, 7, 0, []) := rfl
theorem tX7_fault_15 : tbX7_fault 15 = (.aload_n 0, 16, 0, 0, 0, 0, []) := rfl
theorem tX7_fault_16 : tbX7_fault 16 = (.invokevirtual 167, 19, 153, 0, 7, 0, []) := rfl
theorem tX7_fault_19 : tbX7_fault 19 = (.istore_n 2, 20, 0, 0, 0, 0, []) := rfl
theorem tX7_fault_20 : tbX7_fault 20 = (.aload_n 0, 21, 0, 0, 0, 0, []) := rfl
theorem tX7_fault_21 : tbX7_fault 21 = (.invokevirtual 119, 24, 97, 0, 7, 0, []) := rfl
theorem tX7_fault_24 : tbX7_fault 24 = (.iload_n 2, 25, 0, 0, 0, 0, []) := rfl
theorem tX7_fault_25 : tbX7_fault 25 = (.ifCond .ge 8, 28, 33, 0, 0, 0, []) := rfl
theorem tX7_fault_28 : tbX7_fault 28 = (.bipush (-4), 30, 0, 0, 0, -4, []) := rfl
theorem tX7_fault_30 : tbX7_fault 30 = (.goto 16, 33, 46, 0, 0, 0, []) := rfl
theorem tX7_fault_33 : tbX7_fault 33 = (.iload_n 1, 34, 0, 0, 0, 0, []) := rfl
theorem tX7_fault_34 : tbX7_fault 34 = (.ifCond .ne 9, 37, 43, 0, 0, 0, []) := rfl
theorem tX7_fault_37 : tbX7_fault 37 = (.iload_n 2, 38, 0, 0, 0, 0, []) := rfl
theorem tX7_fault_38 : tbX7_fault 38 = (.iconst 4, 39, 0, 0, 0, 4, []) := rfl
theorem tX7_fault_39 : tbX7_fault 39 = (.idiv, 40, 0, 0, 0, 0, []) := rfl
theorem tX7_fault_40 : tbX7_fault 40 = (.goto 6, 43, 46, 0, 0, 0, []) := rfl
theorem tX7_fault_43 : tbX7_fault 43 = (.iload_n 2, 44, 0, 0, 0, 0, []) := rfl
theorem tX7_fault_44 : tbX7_fault 44 = (.iconst 4, 45, 0, 0, 0, 4, []) := rfl
theorem tX7_fault_45 : tbX7_fault 45 = (.irem, 46, 0, 0, 0, 0, []) := rfl
theorem tX7_fault_46 : tbX7_fault 46 = (.ireturn, 47, 0, 0, 0, 0, []) := rfl
def ltX7_play : List (Nat × pm_E) := [(0, .aload_n 0, 1, 0, 0, 0, 0, []), (1, .invokevirtual 116, 4, 96, 0, 7, 0, []), (4, .aload_n 0, 5, 0, 0, 0, 0, []), (5, .invokevirtual 167, 8, 153, 0, 7, 0, []), (8, .istore_n 1, 9, 0, 0, 0, 0, []), (9, .aload_n 0, 10, 0, 0, 0, 0, []), (10, .invokevirtual 119, 13, 97, 0, 7, 0, []), (13, .iload_n 1, 14, 0, 0, 0, 0, []), (14, .ifCond .lt 6, 17, 20, 0, 0, 0, []), (17, .bipush (-2), 19, 0, 0, 0, -2, []), (19, .ireturn, 20, 0, 0, 0, 0, []), (20, .aload_n 0, 21, 0, 0, 0, 0, []), (21, .invokevirtual 50, 24, 95, 0, 7, 0, []), (24, .aload_n 0, 25, 0, 0, 0, 0, []), (25, .invokevirtual 167, 28, 153, 0, 7, 0, []), (28, .pop, 29, 0, 0, 0, 0, []), (29, .aload_n 0, 30, 0, 0, 0, 0, []), (30, .getfield 149, 33, 7, 12, 0, 0, []), (33, .ireturn, 34, 0, 0, 0, 0, [])]
def tbX7_play : Nat → pm_E := pm_lk ltX7_play
theorem okX7_play : ∀ pc, (tbX7_play pc).1 = .nop ∨ pm_ok mX7_play pw_Ms pc (tbX7_play pc) := pm_lk_ok (by decide +kernel)
theorem nr_X7_play : mX7_play.2.2.2 = (some .int) := rfl
theorem tX7_play_0 : tbX7_play 0 = (.aload_n 0, 1, 0, 0, 0, 0, []) := rfl
theorem tX7_play_1 : tbX7_play 1 = (.invokevirtual 116, 4, 96, 0, 7, 0, []) := rfl
theorem tX7_play_4 : tbX7_play 4 = (.aload_n 0, 5, 0, 0, 0, 0, []) := rfl
theorem tX7_play_5 : tbX7_play 5 = (.invokevirtual 167, 8, 153, 0, 7, 0, []) := rfl
theorem tX7_play_8 : tbX7_play 8 = (.istore_n 1, 9, 0, 0, 0, 0, []) := rfl
theorem tX7_play_9 : tbX7_play 9 = (.aload_n 0, 10, 0, 0, 0, 0, []) := rfl
theorem tX7_play_10 : tbX7_play 10 = (.invokevirtual 119, 13, 97, 0, 7, 0, []) := rfl
theorem tX7_play_13 : tbX7_play 13 = (.iload_n 1, 14, 0, 0, 0, 0, []) := rfl
theorem tX7_play_14 : tbX7_play 14 = (.ifCond .lt 6, 17, 20, 0, 0, 0, []) := rfl
theorem tX7_play_17 : tbX7_play 17 = (.bipush (-2), 19, 0, 0, 0, -2, []) := rfl
theorem tX7_play_19 : tbX7_play 19 = (.ireturn, 20, 0, 0, 0, 0, []) := rfl
theorem tX7_play_20 : tbX7_play 20 = (.aload_n 0, 21, 0, 0, 0, 0, []) := rfl
theorem tX7_play_21 : tbX7_play 21 = (.invokevirtual 50, 24, 95, 0, 7, 0, []) := rfl
theorem tX7_play_24 : tbX7_play 24 = (.aload_n 0, 25, 0, 0, 0, 0, []) := rfl
theorem tX7_play_25 : tbX7_play 25 = (.invokevirtual 167, 28, 153, 0, 7, 0, []) := rfl
theorem tX7_play_28 : tbX7_play 28 = (.pop, 29, 0, 0, 0, 0, []) := rfl
theorem tX7_play_29 : tbX7_play 29 = (.aload_n 0, 30, 0, 0, 0, 0, []) := rfl
theorem tX7_play_30 : tbX7_play 30 = (.getfield 149, 33, 7, 12, 0, 0, []) := rfl
theorem tX7_play_33 : tbX7_play 33 = (.ireturn, 34, 0, 0, 0, 0, []) := rfl
