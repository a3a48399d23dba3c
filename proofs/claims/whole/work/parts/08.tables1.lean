/-! code tables 1, by program -/
def ltX1_init : List (Nat × pm_E) := [(0, .aload_n 0, 1, 0, 0, 0, 0, []), (4, .aload_n 0, 5, 0, 0, 0, 0, []), (5, .bipush 60, 7, 0, 0, 0, 60, []), (12, .return_, 13, 0, 0, 0, 0, [])]
def tbX1_init : Nat → pm_E := pm_lk ltX1_init
theorem okX1_init : ∀ pc, (tbX1_init pc).1 = .nop ∨ pm_ok mX1_init pw_Ms pc (tbX1_init pc) := pm_lk_ok (by decide +kernel)
theorem nr_X1_init : mX1_init.2.2.2 = none := rfl
theorem tX1_init_0 : tbX1_init 0 = (.aload_n 0, 1, 0, 0, 0, 0, []) := rfl
theorem tX1_init_4 : tbX1_init 4 = (.aload_n 0, 5, 0, 0, 0, 0, []) := rfl
theorem tX1_init_5 : tbX1_init 5 = (.bipush 60, 7, 0, 0, 0, 60, []) := rfl
theorem tX1_init_12 : tbX1_init 12 = (.return_, 13, 0, 0, 0, 0, []) := rfl
def ltX1_append : List (Nat × pm_E) := [(0, .iload_n 1, 1, 0, 0, 0, 0, []), (1, .bipush 32, 3, 0, 0, 0, 32, []), (3, .if_icmp .lt 9, 6, 12, 0, 0, 0, []), (6, .iload_n 1, 7, 0, 0, 0, 0, []), (7, .bipush 126, 9, 0, 0, 0, 126, []), (9, .if_icmp .le 5, 12, 14, 0, 0, 0, []), (12, .iconst (-1), 13, 0, 0, 0, -1, []), (13, .ireturn, 14, 0, 0, 0, 0, []), (14, .aload_n 0, 15, 0, 0, 0, 0, []), (15, .getfield 15, 18, 1, 1, 0, 0, []), (18, .bipush 60, 20, 0, 0, 0, 60, []), (20, .if_icmp .lt 6, 23, 26, 0, 0, 0, []), (23, .bipush (-3), 25, 0, 0, 0, -3, []), (25, .ireturn, 26, 0, 0, 0, 0, []), (26, .aload_n 0, 27, 0, 0, 0, 0, []), (27, .getfield 9, 30, 1, 0, 0, 0, [(0, 0)]), (30, .aload_n 0, 31, 0, 0, 0, 0, []), (31, .getfield 15, 34, 1, 1, 0, 0, []), (34, .iload_n 1, 35, 0, 0, 0, 0, []), (35, .i2c, 36, 0, 0, 0, 0, []), (36, .castore, 37, 0, 0, 0, 0, []), (37, .aload_n 0, 38, 0, 0, 0, 0, []), (38, .dup, 39, 0, 0, 0, 0, []), (39, .getfield 15, 42, 1, 1, 0, 0, []), (42, .iconst 1, 43, 0, 0, 0, 1, []), (43, .iadd, 44, 0, 0, 0, 0, []), (44, .putfield 15, 47, 1, 1, 0, 0, []), (47, .aload_n 0, 48, 0, 0, 0, 0, []), (48, .getfield 15, 51, 1, 1, 0, 0, []), (51, .ireturn, 52, 0, 0, 0, 0, [])]
def tbX1_append : Nat → pm_E := pm_lk ltX1_append
theorem okX1_append : ∀ pc, (tbX1_append pc).1 = .nop ∨ pm_ok mX1_append pw_Ms pc (tbX1_append pc) := pm_lk_ok (by decide +kernel)
theorem nr_X1_append : mX1_append.2.2.2 = (some .int) := rfl
theorem tX1_append_0 : tbX1_append 0 = (.iload_n 1, 1, 0, 0, 0, 0, []) := rfl
theorem tX1_append_1 : tbX1_append 1 = (.bipush 32, 3, 0, 0, 0, 32, []) := rfl
theorem tX1_append_3 : tbX1_append 3 = (.if_icmp .lt 9, 6, 12, 0, 0, 0, []) := rfl
theorem tX1_append_6 : tbX1_append 6 = (.iload_n 1, 7, 0, 0, 0, 0, []) := rfl
theorem tX1_append_7 : tbX1_append 7 = (.bipush 126, 9, 0, 0, 0, 126, []) := rfl
theorem tX1_append_9 : tbX1_append 9 = (.if_icmp .le 5, 12, 14, 0, 0, 0, []) := rfl
theorem tX1_append_12 : tbX1_append 12 = (.iconst (-1), 13, 0, 0, 0, -1, []) := rfl
theorem tX1_append_13 : tbX1_append 13 = (.ireturn, 14, 0, 0, 0, 0, []) := rfl
theorem tX1_append_14 : tbX1_append 14 = (.aload_n 0, 15, 0, 0, 0, 0, []) := rfl
theorem tX1_append_15 : tbX1_append 15 = (.getfield 15, 18, 1, 1, 0, 0, []) := rfl
theorem tX1_append_18 : tbX1_append 18 = (.bipush 60, 20, 0, 0, 0, 60, []) := rfl
theorem tX1_append_20 : tbX1_append 20 = (.if_icmp .lt 6, 23, 26, 0, 0, 0, []) := rfl
theorem tX1_append_23 : tbX1_append 23 = (.bipush (-3), 25, 0, 0, 0, -3, []) := rfl
theorem tX1_append_25 : tbX1_append 25 = (.ireturn, 26, 0, 0, 0, 0, []) := rfl
theorem tX1_append_26 : tbX1_append 26 = (.aload_n 0, 27, 0, 0, 0, 0, []) := rfl
theorem tX1_append_27 : tbX1_append 27 = (.getfield 9, 30, 1, 0, 0, 0, [(0, 0)]) := rfl
theorem tX1_append_30 : tbX1_append 30 = (.aload_n 0, 31, 0, 0, 0, 0, []) := rfl
theorem tX1_append_31 : tbX1_append 31 = (.getfield 15, 34, 1, 1, 0, 0, []) := rfl
theorem tX1_append_34 : tbX1_append 34 = (.iload_n 1, 35, 0, 0, 0, 0, []) := rfl
theorem tX1_append_35 : tbX1_append 35 = (.i2c, 36, 0, 0, 0, 0, []) := rfl
theorem tX1_append_36 : tbX1_append 36 = (.castore, 37, 0, 0, 0, 0, []) := rfl
theorem tX1_append_37 : tbX1_append 37 = (.aload_n 0, 38, 0, 0, 0, 0, []) := rfl
theorem tX1_append_38 : tbX1_append 38 = (.dup, 39, 0, 0, 0, 0, []) := rfl
theorem tX1_append_39 : tbX1_append 39 = (.getfield 15, 42, 1, 1, 0, 0, []) := rfl
theorem tX1_append_42 : tbX1_append 42 = (.iconst 1, 43, 0, 0, 0, 1, []) := rfl
theorem tX1_append_43 : tbX1_append 43 = (.iadd, 44, 0, 0, 0, 0, []) := rfl
theorem tX1_append_44 : tbX1_append 44 = (.putfield 15, 47, 1, 1, 0, 0, []) := rfl
theorem tX1_append_47 : tbX1_append 47 = (.aload_n 0, 48, 0, 0, 0, 0, []) := rfl
theorem tX1_append_48 : tbX1_append 48 = (.getfield 15, 51, 1, 1, 0, 0, []) := rfl
theorem tX1_append_51 : tbX1_append 51 = (.ireturn, 52, 0, 0, 0, 0, []) := rfl
def ltX1_makeEmpty : List (Nat × pm_E) := [(0, .aload_n 0, 1, 0, 0, 0, 0, []), (1, .getfield 15, 4, 1, 1, 0, 0, []), (4, .istore_n 1, 5, 0, 0, 0, 0, []), (5, .aload_n 0, 6, 0, 0, 0, 0, []), (6, .iconst 0, 7, 0, 0, 0, 0, []), (7, .putfield 15, 10, 1, 1, 0, 0, []), (10, .iload_n 1, 11, 0, 0, 0, 0, []), (11, .ireturn, 12, 0, 0, 0, 0, [])]
def tbX1_makeEmpty : Nat → pm_E := pm_lk ltX1_makeEmpty
theorem okX1_makeEmpty : ∀ pc, (tbX1_makeEmpty pc).1 = .nop ∨ pm_ok mX1_makeEmpty pw_Ms pc (tbX1_makeEmpty pc) := pm_lk_ok (by decide +kernel)
theorem nr_X1_makeEmpty : mX1_makeEmpty.2.2.2 = (some .int) := rfl
theorem tX1_makeEmpty_0 : tbX1_makeEmpty 0 = (.aload_n 0, 1, 0, 0, 0, 0, []) := rfl
theorem tX1_makeEmpty_1 : tbX1_makeEmpty 1 = (.getfield 15, 4, 1, 1, 0, 0, []) := rfl
theorem tX1_makeEmpty_4 : tbX1_makeEmpty 4 = (.istore_n 1, 5, 0, 0, 0, 0, []) := rfl
theorem tX1_makeEmpty_5 : tbX1_makeEmpty 5 = (.aload_n 0, 6, 0, 0, 0, 0, []) := rfl
theorem tX1_makeEmpty_6 : tbX1_makeEmpty 6 = (.iconst 0, 7, 0, 0, 0, 0, []) := rfl
theorem tX1_makeEmpty_7 : tbX1_makeEmpty 7 = (.putfield 15, 10, 1, 1, 0, 0, []) := rfl
theorem tX1_makeEmpty_10 : tbX1_makeEmpty 10 = (.iload_n 1, 11, 0, 0, 0, 0, []) := rfl
theorem tX1_makeEmpty_11 : tbX1_makeEmpty 11 = (.ireturn, 12, 0, 0, 0, 0, []) := rfl
def ltX1_runOn : List (Nat × pm_E) := [(0, .aload_n 0, 1, 0, 0, 0, 0, []), (1, .iconst 0, 2, 0, 0, 0, 0, []), (2, .putfield 19, 5, 1, 6, 0, 0, []), (5, .aload_n 0, 6, 0, 0, 0, 0, []), (6, .iconst 0, 7, 0, 0, 0, 0, []), (7, .putfield 22, 10, 1, 3, 0, 0, []), (10, .iconst 0, 11, 0, 0, 0, 0, []), (11, .istore_n 2, 12, 0, 0, 0, 0, []), (12, .iconst 0, 13, 0, 0, 0, 0, []), (13, .istore_n 3, 14, 0, 0, 0, 0, []), (14, .iload_n 3, 15, 0, 0, 0, 0, []), (15, .bipush 60, 17, 0, 0, 0, 60, []), (17, .if_icmp .ge 64, 20, 81, 0, 0, 0, []), (20, .aload_n 0, 21, 0, 0, 0, 0, []), (21, .getfield 22, 24, 1, 3, 0, 0, []), (24, .aload_n 0, 25, 0, 0, 0, 0, []), (25, .getfield 15, 28, 1, 1, 0, 0, []), (28, .if_icmp .ge 53, 31, 81, 0, 0, 0, []), (31, .aload_n 0, 32, 0, 0, 0, 0, []), (32, .aload_n 0, 33, 0, 0, 0, 0, []), (33, .getfield 22, 36, 1, 3, 0, 0, []), (36, .putfield 25, 39, 1, 2, 0, 0, []), (39, .aload_n 0, 40, 0, 0, 0, 0, []), (40, .aload_n 0, 41, 0, 0, 0, 0, []), (41, .invokevirtual 28, 44, 45, 0, 1, 0, []), (44, .ifCond .eq 14, 47, 58, 0, 0, 0, []), (47, .aload_n 0, 48, 0, 0, 0, 0, []), (48, .aload_n 1, 49, 0, 0, 0, 0, []), (49, .invokevirtual 32, 52, 43, 1, 1, 0, []), (52, .invokestatic 36, 55, 44, 1, 0, 0, []), (55, .goto 4, 58, 59, 0, 0, 0, []), (58, .iconst 1, 59, 0, 0, 0, 1, []), (59, .putfield 19, 62, 1, 6, 0, 0, []), (62, .aload_n 0, 63, 0, 0, 0, 0, []), (63, .getfield 19, 66, 1, 6, 0, 0, []), (66, .ifCond .eq 6, 69, 72, 0, 0, 0, []), (69, .goto 12, 72, 81, 0, 0, 0, []), (72, .iinc 2 1, 75, 0, 0, 0, 1, []), (75, .iinc 3 1, 78, 0, 0, 0, 1, []), (78, .goto (-64), 81, 14, 0, 0, 0, []), (81, .iload_n 2, 82, 0, 0, 0, 0, []), (82, .ireturn, 83, 0, 0, 0, 0, [])]
def tbX1_runOn : Nat → pm_E := pm_lk ltX1_runOn
theorem okX1_runOn : ∀ pc, (tbX1_runOn pc).1 = .nop ∨ pm_ok mX1_runOn pw_Ms pc (tbX1_runOn pc) := pm_lk_ok (by decide +kernel)
theorem nr_X1_runOn : mX1_runOn.2.2.2 = (some .int) := rfl
theorem tX1_runOn_0 : tbX1_runOn 0 = (.aload_n 0, 1, 0, 0, 0, 0, []) := rfl
theorem tX1_runOn_1 : tbX1_runOn 1 = (.iconst 0, 2, 0, 0, 0, 0, []) := rfl
theorem tX1_runOn_2 : tbX1_runOn 2 = (.putfield 19, 5, 1, 6, 0, 0, []) := rfl
theorem tX1_runOn_5 : tbX1_runOn 5 = (.aload_n 0, 6, 0, 0, 0, 0, []) := rfl
theorem tX1_runOn_6 : tbX1_runOn 6 = (.iconst 0, 7, 0, 0, 0, 0, []) := rfl
theorem tX1_runOn_7 : tbX1_runOn 7 = (.putfield 22, 10, 1, 3, 0, 0, []) := rfl
theorem tX1_runOn_10 : tbX1_runOn 10 = (.iconst 0, 11, 0, 0, 0, 0, []) := rfl
theorem tX1_runOn_11 : tbX1_runOn 11 = (.istore_n 2, 12, 0, 0, 0, 0, []) := rfl
theorem tX1_runOn_12 : tbX1_runOn 12 = (.iconst 0, 13, 0, 0, 0, 0, []) := rfl
theorem tX1_runOn_13 : tbX1_runOn 13 = (.istore_n 3, 14, 0, 0, 0, 0, []) := rfl
theorem tX1_runOn_14 : tbX1_runOn 14 = (.iload_n 3, 15, 0, 0, 0, 0, []) := rfl
theorem tX1_runOn_15 : tbX1_runOn 15 = (.bipush 60, 17, 0, 0, 0, 60, []) := rfl
theorem tX1_runOn_17 : tbX1_runOn 17 = (.if_icmp .ge 64, 20, 81, 0, 0, 0, []) := rfl
theorem tX1_runOn_20 : tbX1_runOn 20 = (.aload_n 0, 21, 0, 0, 0, 0, []) := rfl
theorem tX1_runOn_21 : tbX1_runOn 21 = (.getfield 22, 24, 1, 3, 0, 0, []) := rfl
theorem tX1_runOn_24 : tbX1_runOn 24 = (.aload_n 0, 25, 0, 0, 0, 0, []) := rfl
theorem tX1_runOn_25 : tbX1_runOn 25 = (.getfield 15, 28, 1, 1, 0, 0, []) := rfl
theorem tX1_runOn_28 : tbX1_runOn 28 = (.if_icmp .ge 53, 31, 81, 0, 0, 0, []) := rfl
theorem tX1_runOn_31 : tbX1_runOn 31 = (.aload_n 0, 32, 0, 0, 0, 0, []) := rfl
theorem tX1_runOn_32 : tbX1_runOn 32 = (.aload_n 0, 33, 0, 0, 0, 0, []) := rfl
theorem tX1_runOn_33 : tbX1_runOn 33 = (.getfield 22, 36, 1, 3, 0, 0, []) := rfl
theorem tX1_runOn_36 : tbX1_runOn 36 = (.putfield 25, 39, 1, 2, 0, 0, []) := rfl
theorem tX1_runOn_39 : tbX1_runOn 39 = (.aload_n 0, 40, 0, 0, 0, 0, []) := rfl
theorem tX1_runOn_40 : tbX1_runOn 40 = (.aload_n 0, 41, 0, 0, 0, 0, []) := rfl
theorem tX1_runOn_41 : tbX1_runOn 41 = (.invokevirtual 28, 44, 45, 0, 1, 0, []) := rfl
theorem tX1_runOn_44 : tbX1_runOn 44 = (.ifCond .eq 14, 47, 58, 0, 0, 0, []) := rfl
theorem tX1_runOn_47 : tbX1_runOn 47 = (.aload_n 0, 48, 0, 0, 0, 0, []) := rfl
theorem tX1_runOn_48 : tbX1_runOn 48 = (.aload_n 1, 49, 0, 0, 0, 0, []) := rfl
theorem tX1_runOn_49 : tbX1_runOn 49 = (.invokevirtual 32, 52, 43, 1, 1, 0, []) := rfl
theorem tX1_runOn_52 : tbX1_runOn 52 = (.invokestatic 36, 55, 44, 1, 0, 0, []) := rfl
theorem tX1_runOn_55 : tbX1_runOn 55 = (.goto 4, 58, 59, 0, 0, 0, []) := rfl
theorem tX1_runOn_58 : tbX1_runOn 58 = (.iconst 1, 59, 0, 0, 0, 1, []) := rfl
theorem tX1_runOn_59 : tbX1_runOn 59 = (.putfield 19, 62, 1, 6, 0, 0, []) := rfl
theorem tX1_runOn_62 : tbX1_runOn 62 = (.aload_n 0, 63, 0, 0, 0, 0, []) := rfl
theorem tX1_runOn_63 : tbX1_runOn 63 = (.getfield 19, 66, 1, 6, 0, 0, []) := rfl
theorem tX1_runOn_66 : tbX1_runOn 66 = (.ifCond .eq 6, 69, 72, 0, 0, 0, []) := rfl
theorem tX1_runOn_69 : tbX1_runOn 69 = (.goto 12, 72, 81, 0, 0, 0, []) := rfl
theorem tX1_runOn_72 : tbX1_runOn 72 = (.iinc 2 1, 75, 0, 0, 0, 1, []) := rfl
theorem tX1_runOn_75 : tbX1_runOn 75 = (.iinc 3 1, 78, 0, 0, 0, 1, []) := rfl
theorem tX1_runOn_78 : tbX1_runOn 78 = (.goto (-64), 81, 14, 0, 0, 0, []) := rfl
theorem tX1_runOn_81 : tbX1_runOn 81 = (.iload_n 2, 82, 0, 0, 0, 0, []) := rfl
theorem tX1_runOn_82 : tbX1_runOn 82 = (.ireturn, 83, 0, 0, 0, 0, []) := rfl
def ltX1_answerOf : List (Nat × pm_E) := [(0, .aload_n 0, 1, 0, 0, 0, 0, []), (1, .aload_n 0, 2, 0, 0, 0, 0, []), (2, .getfield 25, 5, 1, 2, 0, 0, []), (5, .invokevirtual 40, 8, 49, 1, 1, 0, []), (8, .lookupswitch 97 #[(100, 92), (101, 52), (108, 61), (109, 74), (120, 87)], 60, 105, 0, 0, 0, [(100, 100), (101, 60), (108, 69), (109, 82), (120, 95)]), (60, .aload_n 1, 61, 0, 0, 0, 0, []), (61, .aload_n 0, 62, 0, 0, 0, 0, []), (62, .getfield 44, 65, 1, 4, 0, 0, []), (65, .invokevirtual 47, 68, 10, 1, 0, 0, []), (68, .ireturn, 69, 0, 0, 0, 0, []), (69, .aload_n 1, 70, 0, 0, 0, 0, []), (70, .aload_n 0, 71, 0, 0, 0, 0, []), (71, .getfield 44, 74, 1, 4, 0, 0, []), (74, .aload_n 0, 75, 0, 0, 0, 0, []), (75, .getfield 52, 78, 1, 5, 0, 0, []), (78, .invokevirtual 55, 81, 11, 2, 0, 0, []), (81, .ireturn, 82, 0, 0, 0, 0, []), (82, .aload_n 1, 83, 0, 0, 0, 0, []), (83, .aload_n 0, 84, 0, 0, 0, 0, []), (84, .getfield 44, 87, 1, 4, 0, 0, []), (87, .aload_n 0, 88, 0, 0, 0, 0, []), (88, .getfield 52, 91, 1, 5, 0, 0, []), (91, .invokevirtual 59, 94, 6, 2, 0, 0, []), (94, .ireturn, 95, 0, 0, 0, 0, []), (95, .aload_n 1, 96, 0, 0, 0, 0, []), (96, .invokevirtual 62, 99, 12, 0, 0, 0, []), (99, .ireturn, 100, 0, 0, 0, 0, []), (100, .aload_n 1, 101, 0, 0, 0, 0, []), (101, .invokevirtual 66, 104, 13, 0, 0, 0, []), (104, .ireturn, 105, 0, 0, 0, 0, []), (105, .aload_n 1, 106, 0, 0, 0, 0, []), (106, .aload_n 0, 107, 0, 0, 0, 0, []), (107, .getfield 44, 110, 1, 4, 0, 0, []), (110, .invokevirtual 69, 113, 14, 1, 0, 0, []), (113, .ireturn, 114, 0, 0, 0, 0, [])]
def tbX1_answerOf : Nat → pm_E := pm_lk ltX1_answerOf
theorem okX1_answerOf : ∀ pc, (tbX1_answerOf pc).1 = .nop ∨ pm_ok mX1_answerOf pw_Ms pc (tbX1_answerOf pc) := pm_lk_ok (by decide +kernel)
theorem nr_X1_answerOf : mX1_answerOf.2.2.2 = (some .int) := rfl
theorem tX1_answerOf_0 : tbX1_answerOf 0 = (.aload_n 0, 1, 0, 0, 0, 0, []) := rfl
theorem tX1_answerOf_1 : tbX1_answerOf 1 = (.aload_n 0, 2, 0, 0, 0, 0, []) := rfl
theorem tX1_answerOf_2 : tbX1_answerOf 2 = (.getfield 25, 5, 1, 2, 0, 0, []) := rfl
theorem tX1_answerOf_5 : tbX1_answerOf 5 = (.invokevirtual 40, 8, 49, 1, 1, 0, []) := rfl
theorem tX1_answerOf_8 : tbX1_answerOf 8 = (.lookupswitch 97 #[(100, 92), (101, 52), (108, 61), (109, 74), (120, 87)], 60, 105, 0, 0, 0, [(100, 100), (101, 60), (108, 69), (109, 82), (120, 95)]) := rfl
theorem tX1_answerOf_60 : tbX1_answerOf 60 = (.aload_n 1, 61, 0, 0, 0, 0, []) := rfl
theorem tX1_answerOf_61 : tbX1_answerOf 61 = (.aload_n 0, 62, 0, 0, 0, 0, []) := rfl
theorem tX1_answerOf_62 : tbX1_answerOf 62 = (.getfield 44, 65, 1, 4, 0, 0, []) := rfl
theorem tX1_answerOf_65 : tbX1_answerOf 65 = (.invokevirtual 47, 68, 10, 1, 0, 0, []) := rfl
theorem tX1_answerOf_68 : tbX1_answerOf 68 = (.ireturn, 69, 0, 0, 0, 0, []) := rfl
theorem tX1_answerOf_69 : tbX1_answerOf 69 = (.aload_n 1, 70, 0, 0, 0, 0, []) := rfl
theorem tX1_answerOf_70 : tbX1_answerOf 70 = (.aload_n 0, 71, 0, 0, 0, 0, []) := rfl
theorem tX1_answerOf_71 : tbX1_answerOf 71 = (.getfield 44, 74, 1, 4, 0, 0, []) := rfl
theorem tX1_answerOf_74 : tbX1_answerOf 74 = (.aload_n 0, 75, 0, 0, 0, 0, []) := rfl
theorem tX1_answerOf_75 : tbX1_answerOf 75 = (.getfield 52, 78, 1, 5, 0, 0, []) := rfl
theorem tX1_answerOf_78 : tbX1_answerOf 78 = (.invokevirtual 55, 81, 11, 2, 0, 0, []) := rfl
theorem tX1_answerOf_81 : tbX1_answerOf 81 = (.ireturn, 82, 0, 0, 0, 0, []) := rfl
theorem tX1_answerOf_82 : tbX1_answerOf 82 = (.aload_n 1, 83, 0, 0, 0, 0, []) := rfl
theorem tX1_answerOf_83 : tbX1_answerOf 83 = (.aload_n 0, 84, 0, 0, 0, 0, []) := rfl
theorem tX1_answerOf_84 : tbX1_answerOf 84 = (.getfield 44, 87, 1, 4, 0, 0, []) := rfl
theorem tX1_answerOf_87 : tbX1_answerOf 87 = (.aload_n 0, 88, 0, 0, 0, 0, []) := rfl
theorem tX1_answerOf_88 : tbX1_answerOf 88 = (.getfield 52, 91, 1, 5, 0, 0, []) := rfl
theorem tX1_answerOf_91 : tbX1_answerOf 91 = (.invokevirtual 59, 94, 6, 2, 0, 0, []) := rfl
theorem tX1_answerOf_94 : tbX1_answerOf 94 = (.ireturn, 95, 0, 0, 0, 0, []) := rfl
theorem tX1_answerOf_95 : tbX1_answerOf 95 = (.aload_n 1, 96, 0, 0, 0, 0, []) := rfl
theorem tX1_answerOf_96 : tbX1_answerOf 96 = (.invokevirtual 62, 99, 12, 0, 0, 0, []) := rfl
theorem tX1_answerOf_99 : tbX1_answerOf 99 = (.ireturn, 100, 0, 0, 0, 0, []) := rfl
theorem tX1_answerOf_100 : tbX1_answerOf 100 = (.aload_n 1, 101, 0, 0, 0, 0, []) := rfl
theorem tX1_answerOf_101 : tbX1_answerOf 101 = (.invokevirtual 66, 104, 13, 0, 0, 0, []) := rfl
theorem tX1_answerOf_104 : tbX1_answerOf 104 = (.ireturn, 105, 0, 0, 0, 0, []) := rfl
theorem tX1_answerOf_105 : tbX1_answerOf 105 = (.aload_n 1, 106, 0, 0, 0, 0, []) := rfl
theorem tX1_answerOf_106 : tbX1_answerOf 106 = (.aload_n 0, 107, 0, 0, 0, 0, []) := rfl
theorem tX1_answerOf_107 : tbX1_answerOf 107 = (.getfield 44, 110, 1, 4, 0, 0, []) := rfl
theorem tX1_answerOf_110 : tbX1_answerOf 110 = (.invokevirtual 69, 113, 14, 1, 0, 0, []) := rfl
theorem tX1_answerOf_113 : tbX1_answerOf 113 = (.ireturn, 114, 0, 0, 0, 0, []) := rfl
def ltX1_reasonOf : List (Nat × pm_E) := [(0, .iload_n 0, 1, 0, 0, 0, 0, []), (1, .ifCond .lt 5, 4, 6, 0, 0, 0, []), (4, .iconst 0, 5, 0, 0, 0, 0, []), (5, .ireturn, 6, 0, 0, 0, 0, []), (6, .iload_n 0, 7, 0, 0, 0, 0, []), (7, .iconst (-1), 8, 0, 0, 0, -1, []), (8, .if_icmp .ne 7, 11, 15, 0, 0, 0, []), (11, .iconst 2, 12, 0, 0, 0, 2, []), (12, .goto 4, 15, 16, 0, 0, 0, []), (15, .iconst 3, 16, 0, 0, 0, 3, []), (16, .ireturn, 17, 0, 0, 0, 0, [])]
def tbX1_reasonOf : Nat → pm_E := pm_lk ltX1_reasonOf
theorem okX1_reasonOf : ∀ pc, (tbX1_reasonOf pc).1 = .nop ∨ pm_ok mX1_reasonOf pw_Ms pc (tbX1_reasonOf pc) := pm_lk_ok (by decide +kernel)
theorem nr_X1_reasonOf : mX1_reasonOf.2.2.2 = (some .int) := rfl
theorem tX1_reasonOf_0 : tbX1_reasonOf 0 = (.iload_n 0, 1, 0, 0, 0, 0, []) := rfl
theorem tX1_reasonOf_1 : tbX1_reasonOf 1 = (.ifCond .lt 5, 4, 6, 0, 0, 0, []) := rfl
theorem tX1_reasonOf_4 : tbX1_reasonOf 4 = (.iconst 0, 5, 0, 0, 0, 0, []) := rfl
theorem tX1_reasonOf_5 : tbX1_reasonOf 5 = (.ireturn, 6, 0, 0, 0, 0, []) := rfl
theorem tX1_reasonOf_6 : tbX1_reasonOf 6 = (.iload_n 0, 7, 0, 0, 0, 0, []) := rfl
theorem tX1_reasonOf_7 : tbX1_reasonOf 7 = (.iconst (-1), 8, 0, 0, 0, -1, []) := rfl
theorem tX1_reasonOf_8 : tbX1_reasonOf 8 = (.if_icmp .ne 7, 11, 15, 0, 0, 0, []) := rfl
theorem tX1_reasonOf_11 : tbX1_reasonOf 11 = (.iconst 2, 12, 0, 0, 0, 2, []) := rfl
theorem tX1_reasonOf_12 : tbX1_reasonOf 12 = (.goto 4, 15, 16, 0, 0, 0, []) := rfl
theorem tX1_reasonOf_15 : tbX1_reasonOf 15 = (.iconst 3, 16, 0, 0, 0, 3, []) := rfl
theorem tX1_reasonOf_16 : tbX1_reasonOf 16 = (.ireturn, 17, 0, 0, 0, 0, []) := rfl
def ltX1_readEvent : List (Nat × pm_E) := [(0, .aload_n 0, 1, 0, 0, 0, 0, []), (1, .aload_n 0, 2, 0, 0, 0, 0, []), (2, .getfield 25, 5, 1, 2, 0, 0, []), (5, .iconst 1, 6, 0, 0, 0, 1, []), (6, .iadd, 7, 0, 0, 0, 0, []), (7, .putfield 22, 10, 1, 3, 0, 0, []), (10, .aload_n 0, 11, 0, 0, 0, 0, []), (11, .aload_n 0, 12, 0, 0, 0, 0, []), (12, .getfield 25, 15, 1, 2, 0, 0, []), (15, .invokevirtual 40, 18, 49, 1, 1, 0, []), (18, .lookupswitch 154 #[(100, 147), (101, 58), (108, 89), (109, 89), (116, 58), (120, 147)], 76, 172, 0, 0, 0, [(100, 165), (101, 76), (108, 107), (109, 107), (116, 76), (120, 165)]), (76, .aload_n 0, 77, 0, 0, 0, 0, []), (77, .aload_n 0, 78, 0, 0, 0, 0, []), (78, .invokevirtual 72, 81, 46, 0, 1, 0, []), (81, .putfield 44, 84, 1, 4, 0, 0, []), (84, .aload_n 0, 85, 0, 0, 0, 0, []), (85, .getfield 44, 88, 1, 4, 0, 0, []), (88, .iconst (-1), 89, 0, 0, 0, -1, []), (89, .if_icmp .eq 16, 92, 105, 0, 0, 0, []), (92, .aload_n 0, 93, 0, 0, 0, 0, []), (93, .bipush 59, 95, 0, 0, 0, 59, []), (95, .invokevirtual 75, 98, 47, 1, 1, 0, []), (98, .ifCond .eq 7, 101, 105, 0, 0, 0, []), (101, .iconst 1, 102, 0, 0, 0, 1, []), (102, .goto 4, 105, 106, 0, 0, 0, []), (105, .iconst 0, 106, 0, 0, 0, 0, []), (106, .ireturn, 107, 0, 0, 0, 0, []), (107, .aload_n 0, 108, 0, 0, 0, 0, []), (108, .aload_n 0, 109, 0, 0, 0, 0, []), (109, .invokevirtual 72, 112, 46, 0, 1, 0, []), (112, .putfield 44, 115, 1, 4, 0, 0, []), (115, .aload_n 0, 116, 0, 0, 0, 0, []), (116, .getfield 44, 119, 1, 4, 0, 0, []), (119, .iconst (-1), 120, 0, 0, 0, -1, []), (120, .if_icmp .eq 12, 123, 132, 0, 0, 0, []), (123, .aload_n 0, 124, 0, 0, 0, 0, []), (124, .bipush 44, 126, 0, 0, 0, 44, []), (126, .invokevirtual 75, 129, 47, 1, 1, 0, []), (129, .ifCond .ne 5, 132, 134, 0, 0, 0, []), (132, .iconst 0, 133, 0, 0, 0, 0, []), (133, .ireturn, 134, 0, 0, 0, 0, []), (134, .aload_n 0, 135, 0, 0, 0, 0, []), (135, .aload_n 0, 136, 0, 0, 0, 0, []), (136, .invokevirtual 72, 139, 46, 0, 1, 0, []), (139, .putfield 52, 142, 1, 5, 0, 0, []), (142, .aload_n 0, 143, 0, 0, 0, 0, []), (143, .getfield 52, 146, 1, 5, 0, 0, []), (146, .iconst (-1), 147, 0, 0, 0, -1, []), (147, .if_icmp .eq 16, 150, 163, 0, 0, 0, []), (150, .aload_n 0, 151, 0, 0, 0, 0, []), (151, .bipush 59, 153, 0, 0, 0, 59, []), (153, .invokevirtual 75, 156, 47, 1, 1, 0, []), (156, .ifCond .eq 7, 159, 163, 0, 0, 0, []), (159, .iconst 1, 160, 0, 0, 0, 1, []), (160, .goto 4, 163, 164, 0, 0, 0, []), (163, .iconst 0, 164, 0, 0, 0, 0, []), (164, .ireturn, 165, 0, 0, 0, 0, []), (165, .aload_n 0, 166, 0, 0, 0, 0, []), (166, .bipush 59, 168, 0, 0, 0, 59, []), (168, .invokevirtual 75, 171, 47, 1, 1, 0, []), (171, .ireturn, 172, 0, 0, 0, 0, []), (172, .iconst 0, 173, 0, 0, 0, 0, []), (173, .ireturn, 174, 0, 0, 0, 0, [])]
def tbX1_readEvent : Nat → pm_E := pm_lk ltX1_readEvent
theorem okX1_readEvent : ∀ pc, (tbX1_readEvent pc).1 = .nop ∨ pm_ok mX1_readEvent pw_Ms pc (tbX1_readEvent pc) := pm_lk_ok (by decide +kernel)
theorem nr_X1_readEvent : mX1_readEvent.2.2.2 = (some .boolean) := rfl
theorem tX1_readEvent_0 : tbX1_readEvent 0 = (.aload_n 0, 1, 0, 0, 0, 0, []) := rfl
theorem tX1_readEvent_1 : tbX1_readEvent 1 = (.aload_n 0, 2, 0, 0, 0, 0, []) := rfl
theorem tX1_readEvent_2 : tbX1_readEvent 2 = (.getfield 25, 5, 1, 2, 0, 0, []) := rfl
theorem tX1_readEvent_5 : tbX1_readEvent 5 = (.iconst 1, 6, 0, 0, 0, 1, []) := rfl
theorem tX1_readEvent_6 : tbX1_readEvent 6 = (.iadd, 7, 0, 0, 0, 0, []) := rfl
theorem tX1_readEvent_7 : tbX1_readEvent 7 = (.putfield 22, 10, 1, 3, 0, 0, []) := rfl
theorem tX1_readEvent_10 : tbX1_readEvent 10 = (.aload_n 0, 11, 0, 0, 0, 0, []) := rfl
theorem tX1_readEvent_11 : tbX1_readEvent 11 = (.aload_n 0, 12, 0, 0, 0, 0, []) := rfl
theorem tX1_readEvent_12 : tbX1_readEvent 12 = (.getfield 25, 15, 1, 2, 0, 0, []) := rfl
theorem tX1_readEvent_15 : tbX1_readEvent 15 = (.invokevirtual 40, 18, 49, 1, 1, 0, []) := rfl
theorem tX1_readEvent_18 : tbX1_readEvent 18 = (.lookupswitch 154 #[(100, 147), (101, 58), (108, 89), (109, 89), (116, 58), (120, 147)], 76, 172, 0, 0, 0, [(100, 165), (101, 76), (108, 107), (109, 107), (116, 76), (120, 165)]) := rfl
theorem tX1_readEvent_76 : tbX1_readEvent 76 = (.aload_n 0, 77, 0, 0, 0, 0, []) := rfl
theorem tX1_readEvent_77 : tbX1_readEvent 77 = (.aload_n 0, 78, 0, 0, 0, 0, []) := rfl
theorem tX1_readEvent_78 : tbX1_readEvent 78 = (.invokevirtual 72, 81, 46, 0, 1, 0, []) := rfl
theorem tX1_readEvent_81 : tbX1_readEvent 81 = (.putfield 44, 84, 1, 4, 0, 0, []) := rfl
theorem tX1_readEvent_84 : tbX1_readEvent 84 = (.aload_n 0, 85, 0, 0, 0, 0, []) := rfl
theorem tX1_readEvent_85 : tbX1_readEvent 85 = (.getfield 44, 88, 1, 4, 0, 0, []) := rfl
theorem tX1_readEvent_88 : tbX1_readEvent 88 = (.iconst (-1), 89, 0, 0, 0, -1, []) := rfl
theorem tX1_readEvent_89 : tbX1_readEvent 89 = (.if_icmp .eq 16, 92, 105, 0, 0, 0, []) := rfl
theorem tX1_readEvent_92 : tbX1_readEvent 92 = (.aload_n 0, 93, 0, 0, 0, 0, []) := rfl
theorem tX1_readEvent_93 : tbX1_readEvent 93 = (.bipush 59, 95, 0, 0, 0, 59, []) := rfl
theorem tX1_readEvent_95 : tbX1_readEvent 95 = (.invokevirtual 75, 98, 47, 1, 1, 0, []) := rfl
theorem tX1_readEvent_98 : tbX1_readEvent 98 = (.ifCond .eq 7, 101, 105, 0, 0, 0, []) := rfl
theorem tX1_readEvent_101 : tbX1_readEvent 101 = (.iconst 1, 102, 0, 0, 0, 1, []) := rfl
theorem tX1_readEvent_102 : tbX1_readEvent 102 = (.goto 4, 105, 106, 0, 0, 0, []) := rfl
theorem tX1_readEvent_105 : tbX1_readEvent 105 = (.iconst 0, 106, 0, 0, 0, 0, []) := rfl
theorem tX1_readEvent_106 : tbX1_readEvent 106 = (.ireturn, 107, 0, 0, 0, 0, []) := rfl
theorem tX1_readEvent_107 : tbX1_readEvent 107 = (.aload_n 0, 108, 0, 0, 0, 0, []) := rfl
theorem tX1_readEvent_108 : tbX1_readEvent 108 = (.aload_n 0, 109, 0, 0, 0, 0, []) := rfl
theorem tX1_readEvent_109 : tbX1_readEvent 109 = (.invokevirtual 72, 112, 46, 0, 1, 0, []) := rfl
theorem tX1_readEvent_112 : tbX1_readEvent 112 = (.putfield 44, 115, 1, 4, 0, 0, []) := rfl
theorem tX1_readEvent_115 : tbX1_readEvent 115 = (.aload_n 0, 116, 0, 0, 0, 0, []) := rfl
theorem tX1_readEvent_116 : tbX1_readEvent 116 = (.getfield 44, 119, 1, 4, 0, 0, []) := rfl
theorem tX1_readEvent_119 : tbX1_readEvent 119 = (.iconst (-1), 120, 0, 0, 0, -1, []) := rfl
theorem tX1_readEvent_120 : tbX1_readEvent 120 = (.if_icmp .eq 12, 123, 132, 0, 0, 0, []) := rfl
theorem tX1_readEvent_123 : tbX1_readEvent 123 = (.aload_n 0, 124, 0, 0, 0, 0, []) := rfl
theorem tX1_readEvent_124 : tbX1_readEvent 124 = (.bipush 44, 126, 0, 0, 0, 44, []) := rfl
theorem tX1_readEvent_126 : tbX1_readEvent 126 = (.invokevirtual 75, 129, 47, 1, 1, 0, []) := rfl
theorem tX1_readEvent_129 : tbX1_readEvent 129 = (.ifCond .ne 5, 132, 134, 0, 0, 0, []) := rfl
theorem tX1_readEvent_132 : tbX1_readEvent 132 = (.iconst 0, 133, 0, 0, 0, 0, []) := rfl
theorem tX1_readEvent_133 : tbX1_readEvent 133 = (.ireturn, 134, 0, 0, 0, 0, []) := rfl
theorem tX1_readEvent_134 : tbX1_readEvent 134 = (.aload_n 0, 135, 0, 0, 0, 0, []) := rfl
theorem tX1_readEvent_135 : tbX1_readEvent 135 = (.aload_n 0, 136, 0, 0, 0, 0, []) := rfl
theorem tX1_readEvent_136 : tbX1_readEvent 136 = (.invokevirtual 72, 139, 46, 0, 1, 0, []) := rfl
theorem tX1_readEvent_139 : tbX1_readEvent 139 = (.putfield 52, 142, 1, 5, 0, 0, []) := rfl
theorem tX1_readEvent_142 : tbX1_readEvent 142 = (.aload_n 0, 143, 0, 0, 0, 0, []) := rfl
theorem tX1_readEvent_143 : tbX1_readEvent 143 = (.getfield 52, 146, 1, 5, 0, 0, []) := rfl
theorem tX1_readEvent_146 : tbX1_readEvent 146 = (.iconst (-1), 147, 0, 0, 0, -1, []) := rfl
theorem tX1_readEvent_147 : tbX1_readEvent 147 = (.if_icmp .eq 16, 150, 163, 0, 0, 0, []) := rfl
theorem tX1_readEvent_150 : tbX1_readEvent 150 = (.aload_n 0, 151, 0, 0, 0, 0, []) := rfl
theorem tX1_readEvent_151 : tbX1_readEvent 151 = (.bipush 59, 153, 0, 0, 0, 59, []) := rfl
theorem tX1_readEvent_153 : tbX1_readEvent 153 = (.invokevirtual 75, 156, 47, 1, 1, 0, []) := rfl
theorem tX1_readEvent_156 : tbX1_readEvent 156 = (.ifCond .eq 7, 159, 163, 0, 0, 0, []) := rfl
theorem tX1_readEvent_159 : tbX1_readEvent 159 = (.iconst 1, 160, 0, 0, 0, 1, []) := rfl
theorem tX1_readEvent_160 : tbX1_readEvent 160 = (.goto 4, 163, 164, 0, 0, 0, []) := rfl
theorem tX1_readEvent_163 : tbX1_readEvent 163 = (.iconst 0, 164, 0, 0, 0, 0, []) := rfl
theorem tX1_readEvent_164 : tbX1_readEvent 164 = (.ireturn, 165, 0, 0, 0, 0, []) := rfl
theorem tX1_readEvent_165 : tbX1_readEvent 165 = (.aload_n 0, 166, 0, 0, 0, 0, []) := rfl
theorem tX1_readEvent_166 : tbX1_readEvent 166 = (.bipush 59, 168, 0, 0, 0, 59, []) := rfl
theorem tX1_readEvent_168 : tbX1_readEvent 168 = (.invokevirtual 75, 171, 47, 1, 1, 0, []) := rfl
theorem tX1_readEvent_171 : tbX1_readEvent 171 = (.ireturn, 172, 0, 0, 0, 0, []) := rfl
theorem tX1_readEvent_172 : tbX1_readEvent 172 = (.iconst 0, 173, 0, 0, 0, 0, []) := rfl
theorem tX1_readEvent_173 : tbX1_readEvent 173 = (.ireturn, 174, 0, 0, 0, 0, []) := rfl
def ltX1_readNumber : List (Nat × pm_E) := [(0, .aload_n 0, 1, 0, 0, 0, 0, []), (1, .aload_n 0, 2, 0, 0, 0, 0, []), (2, .getfield 22, 5, 1, 3, 0, 0, []), (5, .invokevirtual 79, 8, 48, 1, 1, 0, []), (8, .istore_n 1, 9, 0, 0, 0, 0, []), (9, .iload_n 1, 10, 0, 0, 0, 0, []), (10, .iconst (-1), 11, 0, 0, 0, -1, []), (11, .if_icmp .ne 5, 14, 16, 0, 0, 0, []), (14, .iconst (-1), 15, 0, 0, 0, -1, []), (15, .ireturn, 16, 0, 0, 0, 0, []), (16, .aload_n 0, 17, 0, 0, 0, 0, []), (17, .dup, 18, 0, 0, 0, 0, []), (18, .getfield 22, 21, 1, 3, 0, 0, []), (21, .iconst 1, 22, 0, 0, 0, 1, []), (22, .iadd, 23, 0, 0, 0, 0, []), (23, .putfield 22, 26, 1, 3, 0, 0, []), (26, .aload_n 0, 27, 0, 0, 0, 0, []), (27, .aload_n 0, 28, 0, 0, 0, 0, []), (28, .getfield 22, 31, 1, 3, 0, 0, []), (31, .invokevirtual 79, 34, 48, 1, 1, 0, []), (34, .istore_n 2, 35, 0, 0, 0, 0, []), (35, .iload_n 2, 36, 0, 0, 0, 0, []), (36, .iconst (-1), 37, 0, 0, 0, -1, []), (37, .if_icmp .ne 5, 40, 42, 0, 0, 0, []), (40, .iload_n 1, 41, 0, 0, 0, 0, []), (41, .ireturn, 42, 0, 0, 0, 0, []), (42, .aload_n 0, 43, 0, 0, 0, 0, []), (43, .dup, 44, 0, 0, 0, 0, []), (44, .getfield 22, 47, 1, 3, 0, 0, []), (47, .iconst 1, 48, 0, 0, 0, 1, []), (48, .iadd, 49, 0, 0, 0, 0, []), (49, .putfield 22, 52, 1, 3, 0, 0, []), (52, .bipush 10, 54, 0, 0, 0, 10, []), (54, .iload_n 1, 55, 0, 0, 0, 0, []), (55, .imul, 56, 0, 0, 0, 0, []), (56, .iload_n 2, 57, 0, 0, 0, 0, []), (57, .iadd, 58, 0, 0, 0, 0, []), (58, .ireturn, 59, 0, 0, 0, 0, [])]
def tbX1_readNumber : Nat → pm_E := pm_lk ltX1_readNumber
theorem okX1_readNumber : ∀ pc, (tbX1_readNumber pc).1 = .nop ∨ pm_ok mX1_readNumber pw_Ms pc (tbX1_readNumber pc) := pm_lk_ok (by decide +kernel)
theorem nr_X1_readNumber : mX1_readNumber.2.2.2 = (some .int) := rfl
theorem tX1_readNumber_0 : tbX1_readNumber 0 = (.aload_n 0, 1, 0, 0, 0, 0, []) := rfl
theorem tX1_readNumber_1 : tbX1_readNumber 1 = (.aload_n 0, 2, 0, 0, 0, 0, []) := rfl
theorem tX1_readNumber_2 : tbX1_readNumber 2 = (.getfield 22, 5, 1, 3, 0, 0, []) := rfl
theorem tX1_readNumber_5 : tbX1_readNumber 5 = (.invokevirtual 79, 8, 48, 1, 1, 0, []) := rfl
theorem tX1_readNumber_8 : tbX1_readNumber 8 = (.istore_n 1, 9, 0, 0, 0, 0, []) := rfl
theorem tX1_readNumber_9 : tbX1_readNumber 9 = (.iload_n 1, 10, 0, 0, 0, 0, []) := rfl
theorem tX1_readNumber_10 : tbX1_readNumber 10 = (.iconst (-1), 11, 0, 0, 0, -1, []) := rfl
theorem tX1_readNumber_11 : tbX1_readNumber 11 = (.if_icmp .ne 5, 14, 16, 0, 0, 0, []) := rfl
theorem tX1_readNumber_14 : tbX1_readNumber 14 = (.iconst (-1), 15, 0, 0, 0, -1, []) := rfl
theorem tX1_readNumber_15 : tbX1_readNumber 15 = (.ireturn, 16, 0, 0, 0, 0, []) := rfl
theorem tX1_readNumber_16 : tbX1_readNumber 16 = (.aload_n 0, 17, 0, 0, 0, 0, []) := rfl
theorem tX1_readNumber_17 : tbX1_readNumber 17 = (.dup, 18, 0, 0, 0, 0, []) := rfl
theorem tX1_readNumber_18 : tbX1_readNumber 18 = (.getfield 22, 21, 1, 3, 0, 0, []) := rfl
theorem tX1_readNumber_21 : tbX1_readNumber 21 = (.iconst 1, 22, 0, 0, 0, 1, []) := rfl
theorem tX1_readNumber_22 : tbX1_readNumber 22 = (.iadd, 23, 0, 0, 0, 0, []) := rfl
theorem tX1_readNumber_23 : tbX1_readNumber 23 = (.putfield 22, 26, 1, 3, 0, 0, []) := rfl
theorem tX1_readNumber_26 : tbX1_readNumber 26 = (.aload_n 0, 27, 0, 0, 0, 0, []) := rfl
theorem tX1_readNumber_27 : tbX1_readNumber 27 = (.aload_n 0, 28, 0, 0, 0, 0, []) := rfl
theorem tX1_readNumber_28 : tbX1_readNumber 28 = (.getfield 22, 31, 1, 3, 0, 0, []) := rfl
theorem tX1_readNumber_31 : tbX1_readNumber 31 = (.invokevirtual 79, 34, 48, 1, 1, 0, []) := rfl
theorem tX1_readNumber_34 : tbX1_readNumber 34 = (.istore_n 2, 35, 0, 0, 0, 0, []) := rfl
theorem tX1_readNumber_35 : tbX1_readNumber 35 = (.iload_n 2, 36, 0, 0, 0, 0, []) := rfl
theorem tX1_readNumber_36 : tbX1_readNumber 36 = (.iconst (-1), 37, 0, 0, 0, -1, []) := rfl
theorem tX1_readNumber_37 : tbX1_readNumber 37 = (.if_icmp .ne 5, 40, 42, 0, 0, 0, []) := rfl
theorem tX1_readNumber_40 : tbX1_readNumber 40 = (.iload_n 1, 41, 0, 0, 0, 0, []) := rfl
theorem tX1_readNumber_41 : tbX1_readNumber 41 = (.ireturn, 42, 0, 0, 0, 0, []) := rfl
theorem tX1_readNumber_42 : tbX1_readNumber 42 = (.aload_n 0, 43, 0, 0, 0, 0, []) := rfl
theorem tX1_readNumber_43 : tbX1_readNumber 43 = (.dup, 44, 0, 0, 0, 0, []) := rfl
theorem tX1_readNumber_44 : tbX1_readNumber 44 = (.getfield 22, 47, 1, 3, 0, 0, []) := rfl
theorem tX1_readNumber_47 : tbX1_readNumber 47 = (.iconst 1, 48, 0, 0, 0, 1, []) := rfl
theorem tX1_readNumber_48 : tbX1_readNumber 48 = (.iadd, 49, 0, 0, 0, 0, []) := rfl
theorem tX1_readNumber_49 : tbX1_readNumber 49 = (.putfield 22, 52, 1, 3, 0, 0, []) := rfl
theorem tX1_readNumber_52 : tbX1_readNumber 52 = (.bipush 10, 54, 0, 0, 0, 10, []) := rfl
theorem tX1_readNumber_54 : tbX1_readNumber 54 = (.iload_n 1, 55, 0, 0, 0, 0, []) := rfl
theorem tX1_readNumber_55 : tbX1_readNumber 55 = (.imul, 56, 0, 0, 0, 0, []) := rfl
theorem tX1_readNumber_56 : tbX1_readNumber 56 = (.iload_n 2, 57, 0, 0, 0, 0, []) := rfl
theorem tX1_readNumber_57 : tbX1_readNumber 57 = (.iadd, 58, 0, 0, 0, 0, []) := rfl
theorem tX1_readNumber_58 : tbX1_readNumber 58 = (.ireturn, 59, 0, 0, 0, 0, []) := rfl
def ltX1_readSign : List (Nat × pm_E) := [(0, .aload_n 0, 1, 0, 0, 0, 0, []), (1, .aload_n 0, 2, 0, 0, 0, 0, []), (2, .getfield 22, 5, 1, 3, 0, 0, []), (5, .invokevirtual 40, 8, 49, 1, 1, 0, []), (8, .iload_n 1, 9, 0, 0, 0, 0, []), (9, .if_icmp .ne 7, 12, 16, 0, 0, 0, []), (12, .iconst 1, 13, 0, 0, 0, 1, []), (13, .goto 4, 16, 17, 0, 0, 0, []), (16, .iconst 0, 17, 0, 0, 0, 0, []), (17, .istore_n 2, 18, 0, 0, 0, 0, []), (18, .aload_n 0, 19, 0, 0, 0, 0, []), (19, .dup, 20, 0, 0, 0, 0, []), (20, .getfield 22, 23, 1, 3, 0, 0, []), (23, .iconst 1, 24, 0, 0, 0, 1, []), (24, .iadd, 25, 0, 0, 0, 0, []), (25, .putfield 22, 28, 1, 3, 0, 0, []), (28, .iload_n 2, 29, 0, 0, 0, 0, []), (29, .ireturn, 30, 0, 0, 0, 0, [])]
def tbX1_readSign : Nat → pm_E := pm_lk ltX1_readSign
theorem okX1_readSign : ∀ pc, (tbX1_readSign pc).1 = .nop ∨ pm_ok mX1_readSign pw_Ms pc (tbX1_readSign pc) := pm_lk_ok (by decide +kernel)
theorem nr_X1_readSign : mX1_readSign.2.2.2 = (some .boolean) := rfl
theorem tX1_readSign_0 : tbX1_readSign 0 = (.aload_n 0, 1, 0, 0, 0, 0, []) := rfl
theorem tX1_readSign_1 : tbX1_readSign 1 = (.aload_n 0, 2, 0, 0, 0, 0, []) := rfl
theorem tX1_readSign_2 : tbX1_readSign 2 = (.getfield 22, 5, 1, 3, 0, 0, []) := rfl
theorem tX1_readSign_5 : tbX1_readSign 5 = (.invokevirtual 40, 8, 49, 1, 1, 0, []) := rfl
theorem tX1_readSign_8 : tbX1_readSign 8 = (.iload_n 1, 9, 0, 0, 0, 0, []) := rfl
theorem tX1_readSign_9 : tbX1_readSign 9 = (.if_icmp .ne 7, 12, 16, 0, 0, 0, []) := rfl
theorem tX1_readSign_12 : tbX1_readSign 12 = (.iconst 1, 13, 0, 0, 0, 1, []) := rfl
theorem tX1_readSign_13 : tbX1_readSign 13 = (.goto 4, 16, 17, 0, 0, 0, []) := rfl
theorem tX1_readSign_16 : tbX1_readSign 16 = (.iconst 0, 17, 0, 0, 0, 0, []) := rfl
theorem tX1_readSign_17 : tbX1_readSign 17 = (.istore_n 2, 18, 0, 0, 0, 0, []) := rfl
theorem tX1_readSign_18 : tbX1_readSign 18 = (.aload_n 0, 19, 0, 0, 0, 0, []) := rfl
theorem tX1_readSign_19 : tbX1_readSign 19 = (.dup, 20, 0, 0, 0, 0, []) := rfl
theorem tX1_readSign_20 : tbX1_readSign 20 = (.getfield 22, 23, 1, 3, 0, 0, []) := rfl
theorem tX1_readSign_23 : tbX1_readSign 23 = (.iconst 1, 24, 0, 0, 0, 1, []) := rfl
theorem tX1_readSign_24 : tbX1_readSign 24 = (.iadd, 25, 0, 0, 0, 0, []) := rfl
theorem tX1_readSign_25 : tbX1_readSign 25 = (.putfield 22, 28, 1, 3, 0, 0, []) := rfl
theorem tX1_readSign_28 : tbX1_readSign 28 = (.iload_n 2, 29, 0, 0, 0, 0, []) := rfl
theorem tX1_readSign_29 : tbX1_readSign 29 = (.ireturn, 30, 0, 0, 0, 0, []) := rfl
def ltX1_digitAt : List (Nat × pm_E) := [(0, .aload_n 0, 1, 0, 0, 0, 0, []), (1, .iload_n 1, 2, 0, 0, 0, 0, []), (2, .invokevirtual 40, 5, 49, 1, 1, 0, []), (5, .istore_n 2, 6, 0, 0, 0, 0, []), (6, .iload_n 2, 7, 0, 0, 0, 0, []), (7, .bipush 48, 9, 0, 0, 0, 48, []), (9, .if_icmp .lt 16, 12, 25, 0, 0, 0, []), (12, .iload_n 2, 13, 0, 0, 0, 0, []), (13, .bipush 57, 15, 0, 0, 0, 57, []), (15, .if_icmp .gt 10, 18, 25, 0, 0, 0, []), (18, .iload_n 2, 19, 0, 0, 0, 0, []), (19, .bipush 48, 21, 0, 0, 0, 48, []), (21, .isub, 22, 0, 0, 0, 0, []), (22, .goto 4, 25, 26, 0, 0, 0, []), (25, .iconst (-1), 26, 0, 0, 0, -1, []), (26, .ireturn, 27, 0, 0, 0, 0, [])]
def tbX1_digitAt : Nat → pm_E := pm_lk ltX1_digitAt
theorem okX1_digitAt : ∀ pc, (tbX1_digitAt pc).1 = .nop ∨ pm_ok mX1_digitAt pw_Ms pc (tbX1_digitAt pc) := pm_lk_ok (by decide +kernel)
theorem nr_X1_digitAt : mX1_digitAt.2.2.2 = (some .int) := rfl
theorem tX1_digitAt_0 : tbX1_digitAt 0 = (.aload_n 0, 1, 0, 0, 0, 0, []) := rfl
theorem tX1_digitAt_1 : tbX1_digitAt 1 = (.iload_n 1, 2, 0, 0, 0, 0, []) := rfl
theorem tX1_digitAt_2 : tbX1_digitAt 2 = (.invokevirtual 40, 5, 49, 1, 1, 0, []) := rfl
theorem tX1_digitAt_5 : tbX1_digitAt 5 = (.istore_n 2, 6, 0, 0, 0, 0, []) := rfl
theorem tX1_digitAt_6 : tbX1_digitAt 6 = (.iload_n 2, 7, 0, 0, 0, 0, []) := rfl
theorem tX1_digitAt_7 : tbX1_digitAt 7 = (.bipush 48, 9, 0, 0, 0, 48, []) := rfl
theorem tX1_digitAt_9 : tbX1_digitAt 9 = (.if_icmp .lt 16, 12, 25, 0, 0, 0, []) := rfl
theorem tX1_digitAt_12 : tbX1_digitAt 12 = (.iload_n 2, 13, 0, 0, 0, 0, []) := rfl
theorem tX1_digitAt_13 : tbX1_digitAt 13 = (.bipush 57, 15, 0, 0, 0, 57, []) := rfl
theorem tX1_digitAt_15 : tbX1_digitAt 15 = (.if_icmp .gt 10, 18, 25, 0, 0, 0, []) := rfl
theorem tX1_digitAt_18 : tbX1_digitAt 18 = (.iload_n 2, 19, 0, 0, 0, 0, []) := rfl
theorem tX1_digitAt_19 : tbX1_digitAt 19 = (.bipush 48, 21, 0, 0, 0, 48, []) := rfl
theorem tX1_digitAt_21 : tbX1_digitAt 21 = (.isub, 22, 0, 0, 0, 0, []) := rfl
theorem tX1_digitAt_22 : tbX1_digitAt 22 = (.goto 4, 25, 26, 0, 0, 0, []) := rfl
theorem tX1_digitAt_25 : tbX1_digitAt 25 = (.iconst (-1), 26, 0, 0, 0, -1, []) := rfl
theorem tX1_digitAt_26 : tbX1_digitAt 26 = (.ireturn, 27, 0, 0, 0, 0, []) := rfl
def ltX1_signAt : List (Nat × pm_E) := [(0, .iload_n 1, 1, 0, 0, 0, 0, []), (1, .ifCond .lt 20, 4, 21, 0, 0, 0, []), (4, .iload_n 1, 5, 0, 0, 0, 0, []), (5, .aload_n 0, 6, 0, 0, 0, 0, []), (6, .getfield 15, 9, 1, 1, 0, 0, []), (9, .if_icmp .ge 12, 12, 21, 0, 0, 0, []), (12, .aload_n 0, 13, 0, 0, 0, 0, []), (13, .getfield 9, 16, 1, 0, 0, 0, [(0, 0)]), (16, .iload_n 1, 17, 0, 0, 0, 0, []), (17, .caload, 18, 0, 0, 0, 0, []), (18, .goto 4, 21, 22, 0, 0, 0, []), (21, .iconst 0, 22, 0, 0, 0, 0, []), (22, .ireturn, 23, 0, 0, 0, 0, [])]
def tbX1_signAt : Nat → pm_E := pm_lk ltX1_signAt
theorem okX1_signAt : ∀ pc, (tbX1_signAt pc).1 = .nop ∨ pm_ok mX1_signAt pw_Ms pc (tbX1_signAt pc) := pm_lk_ok (by decide +kernel)
theorem nr_X1_signAt : mX1_signAt.2.2.2 = (some .char) := rfl
theorem tX1_signAt_0 : tbX1_signAt 0 = (.iload_n 1, 1, 0, 0, 0, 0, []) := rfl
theorem tX1_signAt_1 : tbX1_signAt 1 = (.ifCond .lt 20, 4, 21, 0, 0, 0, []) := rfl
theorem tX1_signAt_4 : tbX1_signAt 4 = (.iload_n 1, 5, 0, 0, 0, 0, []) := rfl
theorem tX1_signAt_5 : tbX1_signAt 5 = (.aload_n 0, 6, 0, 0, 0, 0, []) := rfl
theorem tX1_signAt_6 : tbX1_signAt 6 = (.getfield 15, 9, 1, 1, 0, 0, []) := rfl
theorem tX1_signAt_9 : tbX1_signAt 9 = (.if_icmp .ge 12, 12, 21, 0, 0, 0, []) := rfl
theorem tX1_signAt_12 : tbX1_signAt 12 = (.aload_n 0, 13, 0, 0, 0, 0, []) := rfl
theorem tX1_signAt_13 : tbX1_signAt 13 = (.getfield 9, 16, 1, 0, 0, 0, [(0, 0)]) := rfl
theorem tX1_signAt_16 : tbX1_signAt 16 = (.iload_n 1, 17, 0, 0, 0, 0, []) := rfl
theorem tX1_signAt_17 : tbX1_signAt 17 = (.caload, 18, 0, 0, 0, 0, []) := rfl
theorem tX1_signAt_18 : tbX1_signAt 18 = (.goto 4, 21, 22, 0, 0, 0, []) := rfl
theorem tX1_signAt_21 : tbX1_signAt 21 = (.iconst 0, 22, 0, 0, 0, 0, []) := rfl
theorem tX1_signAt_22 : tbX1_signAt 22 = (.ireturn, 23, 0, 0, 0, 0, []) := rfl
def ltX2_init : List (Nat × pm_E) := [(0, .aload_n 0, 1, 0, 0, 0, 0, []), (4, .aload_n 0, 5, 0, 0, 0, 0, []), (5, .iconst 5, 6, 0, 0, 0, 5, []), (12, .iconst 0, 13, 0, 0, 0, 0, []), (13, .istore_n 1, 14, 0, 0, 0, 0, []), (14, .iload_n 1, 15, 0, 0, 0, 0, []), (15, .iconst 4, 16, 0, 0, 0, 4, []), (16, .if_icmp .gt 22, 19, 38, 0, 0, 0, []), (19, .aload_n 0, 20, 0, 0, 0, 0, []), (20, .getfield 11, 23, 2, 0, 0, 0, [(0, 0)]), (23, .iload_n 1, 24, 0, 0, 0, 0, []), (27, .dup, 28, 0, 0, 0, 0, []), (32, .iinc 1 1, 35, 0, 0, 0, 1, []), (35, .goto (-21), 38, 14, 0, 0, 0, []), (38, .return_, 39, 0, 0, 0, 0, [])]
def tbX2_init : Nat → pm_E := pm_lk ltX2_init
theorem okX2_init : ∀ pc, (tbX2_init pc).1 = .nop ∨ pm_ok mX2_init pw_Ms pc (tbX2_init pc) := pm_lk_ok (by decide +kernel)
theorem nr_X2_init : mX2_init.2.2.2 = none := rfl
theorem tX2_init_0 : tbX2_init 0 = (.aload_n 0, 1, 0, 0, 0, 0, []) := rfl
theorem tX2_init_4 : tbX2_init 4 = (.aload_n 0, 5, 0, 0, 0, 0, []) := rfl
theorem tX2_init_5 : tbX2_init 5 = (.iconst 5, 6, 0, 0, 0, 5, []) := rfl
theorem tX2_init_12 : tbX2_init 12 = (.iconst 0, 13, 0, 0, 0, 0, []) := rfl
theorem tX2_init_13 : tbX2_init 13 = (.istore_n 1, 14, 0, 0, 0, 0, []) := rfl
theorem tX2_init_14 : tbX2_init 14 = (.iload_n 1, 15, 0, 0, 0, 0, []) := rfl
theorem tX2_init_15 : tbX2_init 15 = (.iconst 4, 16, 0, 0, 0, 4, []) := rfl
theorem tX2_init_16 : tbX2_init 16 = (.if_icmp .gt 22, 19, 38, 0, 0, 0, []) := rfl
theorem tX2_init_19 : tbX2_init 19 = (.aload_n 0, 20, 0, 0, 0, 0, []) := rfl
theorem tX2_init_20 : tbX2_init 20 = (.getfield 11, 23, 2, 0, 0, 0, [(0, 0)]) := rfl
theorem tX2_init_23 : tbX2_init 23 = (.iload_n 1, 24, 0, 0, 0, 0, []) := rfl
theorem tX2_init_27 : tbX2_init 27 = (.dup, 28, 0, 0, 0, 0, []) := rfl
theorem tX2_init_32 : tbX2_init 32 = (.iinc 1 1, 35, 0, 0, 0, 1, []) := rfl
theorem tX2_init_35 : tbX2_init 35 = (.goto (-21), 38, 14, 0, 0, 0, []) := rfl
theorem tX2_init_38 : tbX2_init 38 = (.return_, 39, 0, 0, 0, 0, []) := rfl
def ltX2_prepare : List (Nat × pm_E) := [(0, .aload_n 0, 1, 0, 0, 0, 0, []), (1, .getfield 18, 4, 2, 1, 0, 0, []), (4, .ifCond .lt 28, 7, 32, 0, 0, 0, []), (7, .aload_n 0, 8, 0, 0, 0, 0, []), (8, .getfield 18, 11, 2, 1, 0, 0, []), (11, .aload_n 0, 12, 0, 0, 0, 0, []), (12, .getfield 11, 15, 2, 0, 0, 0, [(0, 0)]), (15, .arraylength, 16, 0, 0, 0, 0, []), (16, .if_icmp .ge 16, 19, 32, 0, 0, 0, []), (19, .aload_n 0, 20, 0, 0, 0, 0, []), (20, .getfield 11, 23, 2, 0, 0, 0, [(0, 0)]), (23, .aload_n 0, 24, 0, 0, 0, 0, []), (24, .getfield 18, 27, 2, 1, 0, 0, []), (27, .aaload, 28, 0, 0, 0, 0, []), (28, .aload_n 1, 29, 0, 0, 0, 0, []), (29, .invokevirtual 22, 32, 1, 1, 0, 0, []), (32, .return_, 33, 0, 0, 0, 0, [])]
def tbX2_prepare : Nat → pm_E := pm_lk ltX2_prepare
theorem okX2_prepare : ∀ pc, (tbX2_prepare pc).1 = .nop ∨ pm_ok mX2_prepare pw_Ms pc (tbX2_prepare pc) := pm_lk_ok (by decide +kernel)
theorem nr_X2_prepare : mX2_prepare.2.2.2 = none := rfl
theorem tX2_prepare_0 : tbX2_prepare 0 = (.aload_n 0, 1, 0, 0, 0, 0, []) := rfl
theorem tX2_prepare_1 : tbX2_prepare 1 = (.getfield 18, 4, 2, 1, 0, 0, []) := rfl
theorem tX2_prepare_4 : tbX2_prepare 4 = (.ifCond .lt 28, 7, 32, 0, 0, 0, []) := rfl
theorem tX2_prepare_7 : tbX2_prepare 7 = (.aload_n 0, 8, 0, 0, 0, 0, []) := rfl
theorem tX2_prepare_8 : tbX2_prepare 8 = (.getfield 18, 11, 2, 1, 0, 0, []) := rfl
theorem tX2_prepare_11 : tbX2_prepare 11 = (.aload_n 0, 12, 0, 0, 0, 0, []) := rfl
theorem tX2_prepare_12 : tbX2_prepare 12 = (.getfield 11, 15, 2, 0, 0, 0, [(0, 0)]) := rfl
theorem tX2_prepare_15 : tbX2_prepare 15 = (.arraylength, 16, 0, 0, 0, 0, []) := rfl
theorem tX2_prepare_16 : tbX2_prepare 16 = (.if_icmp .ge 16, 19, 32, 0, 0, 0, []) := rfl
theorem tX2_prepare_19 : tbX2_prepare 19 = (.aload_n 0, 20, 0, 0, 0, 0, []) := rfl
theorem tX2_prepare_20 : tbX2_prepare 20 = (.getfield 11, 23, 2, 0, 0, 0, [(0, 0)]) := rfl
theorem tX2_prepare_23 : tbX2_prepare 23 = (.aload_n 0, 24, 0, 0, 0, 0, []) := rfl
theorem tX2_prepare_24 : tbX2_prepare 24 = (.getfield 18, 27, 2, 1, 0, 0, []) := rfl
theorem tX2_prepare_27 : tbX2_prepare 27 = (.aaload, 28, 0, 0, 0, 0, []) := rfl
theorem tX2_prepare_28 : tbX2_prepare 28 = (.aload_n 1, 29, 0, 0, 0, 0, []) := rfl
theorem tX2_prepare_29 : tbX2_prepare 29 = (.invokevirtual 22, 32, 1, 1, 0, 0, []) := rfl
theorem tX2_prepare_32 : tbX2_prepare 32 = (.return_, 33, 0, 0, 0, 0, []) := rfl
def ltX2_close : List (Nat × pm_E) := [(0, .iload_n 1, 1, 0, 0, 0, 0, []), (1, .ifCond .lt 25, 4, 26, 0, 0, 0, []), (4, .aload_n 0, 5, 0, 0, 0, 0, []), (5, .dup, 6, 0, 0, 0, 0, []), (6, .getfield 18, 9, 2, 1, 0, 0, []), (9, .iconst 1, 10, 0, 0, 0, 1, []), (10, .iadd, 11, 0, 0, 0, 0, []), (11, .putfield 18, 14, 2, 1, 0, 0, []), (14, .aload_n 0, 15, 0, 0, 0, 0, []), (15, .getfield 18, 18, 2, 1, 0, 0, []), (18, .iconst 4, 19, 0, 0, 0, 4, []), (19, .if_icmp .le 7, 22, 26, 0, 0, 0, []), (22, .aload_n 0, 23, 0, 0, 0, 0, []), (23, .invokevirtual 26, 26, 54, 0, 2, 0, []), (26, .iload_n 1, 27, 0, 0, 0, 0, []), (27, .ireturn, 28, 0, 0, 0, 0, [])]
def tbX2_close : Nat → pm_E := pm_lk ltX2_close
theorem okX2_close : ∀ pc, (tbX2_close pc).1 = .nop ∨ pm_ok mX2_close pw_Ms pc (tbX2_close pc) := pm_lk_ok (by decide +kernel)
theorem nr_X2_close : mX2_close.2.2.2 = (some .int) := rfl
theorem tX2_close_0 : tbX2_close 0 = (.iload_n 1, 1, 0, 0, 0, 0, []) := rfl
theorem tX2_close_1 : tbX2_close 1 = (.ifCond .lt 25, 4, 26, 0, 0, 0, []) := rfl
theorem tX2_close_4 : tbX2_close 4 = (.aload_n 0, 5, 0, 0, 0, 0, []) := rfl
theorem tX2_close_5 : tbX2_close 5 = (.dup, 6, 0, 0, 0, 0, []) := rfl
theorem tX2_close_6 : tbX2_close 6 = (.getfield 18, 9, 2, 1, 0, 0, []) := rfl
theorem tX2_close_9 : tbX2_close 9 = (.iconst 1, 10, 0, 0, 0, 1, []) := rfl
theorem tX2_close_10 : tbX2_close 10 = (.iadd, 11, 0, 0, 0, 0, []) := rfl
theorem tX2_close_11 : tbX2_close 11 = (.putfield 18, 14, 2, 1, 0, 0, []) := rfl
theorem tX2_close_14 : tbX2_close 14 = (.aload_n 0, 15, 0, 0, 0, 0, []) := rfl
theorem tX2_close_15 : tbX2_close 15 = (.getfield 18, 18, 2, 1, 0, 0, []) := rfl
theorem tX2_close_18 : tbX2_close 18 = (.iconst 4, 19, 0, 0, 0, 4, []) := rfl
theorem tX2_close_19 : tbX2_close 19 = (.if_icmp .le 7, 22, 26, 0, 0, 0, []) := rfl
theorem tX2_close_22 : tbX2_close 22 = (.aload_n 0, 23, 0, 0, 0, 0, []) := rfl
theorem tX2_close_23 : tbX2_close 23 = (.invokevirtual 26, 26, 54, 0, 2, 0, []) := rfl
theorem tX2_close_26 : tbX2_close 26 = (.iload_n 1, 27, 0, 0, 0, 0, []) := rfl
theorem tX2_close_27 : tbX2_close 27 = (.ireturn, 28, 0, 0, 0, 0, []) := rfl
def ltX2_restore : List (Nat × pm_E) := [(0, .aload_n 0, 1, 0, 0, 0, 0, []), (1, .getfield 18, 4, 2, 1, 0, 0, []), (4, .iconst 1, 5, 0, 0, 0, 1, []), (5, .if_icmp .lt 15, 8, 20, 0, 0, 0, []), (8, .aload_n 0, 9, 0, 0, 0, 0, []), (9, .getfield 18, 12, 2, 1, 0, 0, []), (12, .aload_n 0, 13, 0, 0, 0, 0, []), (13, .getfield 11, 16, 2, 0, 0, 0, [(0, 0)]), (16, .arraylength, 17, 0, 0, 0, 0, []), (17, .if_icmp .le 6, 20, 23, 0, 0, 0, []), (20, .bipush (-2), 22, 0, 0, 0, -2, []), (22, .ireturn, 23, 0, 0, 0, 0, []), (23, .aload_n 0, 24, 0, 0, 0, 0, []), (24, .dup, 25, 0, 0, 0, 0, []), (25, .getfield 18, 28, 2, 1, 0, 0, []), (28, .iconst 1, 29, 0, 0, 0, 1, []), (29, .isub, 30, 0, 0, 0, 0, []), (30, .putfield 18, 33, 2, 1, 0, 0, []), (33, .aload_n 1, 34, 0, 0, 0, 0, []), (34, .aload_n 0, 35, 0, 0, 0, 0, []), (35, .getfield 11, 38, 2, 0, 0, 0, [(0, 0)]), (38, .aload_n 0, 39, 0, 0, 0, 0, []), (39, .getfield 18, 42, 2, 1, 0, 0, []), (42, .aaload, 43, 0, 0, 0, 0, []), (43, .invokevirtual 22, 46, 1, 1, 0, 0, []), (46, .aload_n 0, 47, 0, 0, 0, 0, []), (47, .getfield 18, 50, 2, 1, 0, 0, []), (50, .ireturn, 51, 0, 0, 0, 0, [])]
def tbX2_restore : Nat → pm_E := pm_lk ltX2_restore
theorem okX2_restore : ∀ pc, (tbX2_restore pc).1 = .nop ∨ pm_ok mX2_restore pw_Ms pc (tbX2_restore pc) := pm_lk_ok (by decide +kernel)
theorem nr_X2_restore : mX2_restore.2.2.2 = (some .int) := rfl
theorem tX2_restore_0 : tbX2_restore 0 = (.aload_n 0, 1, 0, 0, 0, 0, []) := rfl
theorem tX2_restore_1 : tbX2_restore 1 = (.getfield 18, 4, 2, 1, 0, 0, []) := rfl
theorem tX2_restore_4 : tbX2_restore 4 = (.iconst 1, 5, 0, 0, 0, 1, []) := rfl
theorem tX2_restore_5 : tbX2_restore 5 = (.if_icmp .lt 15, 8, 20, 0, 0, 0, []) := rfl
theorem tX2_restore_8 : tbX2_restore 8 = (.aload_n 0, 9, 0, 0, 0, 0, []) := rfl
theorem tX2_restore_9 : tbX2_restore 9 = (.getfield 18, 12, 2, 1, 0, 0, []) := rfl
theorem tX2_restore_12 : tbX2_restore 12 = (.aload_n 0, 13, 0, 0, 0, 0, []) := rfl
theorem tX2_restore_13 : tbX2_restore 13 = (.getfield 11, 16, 2, 0, 0, 0, [(0, 0)]) := rfl
theorem tX2_restore_16 : tbX2_restore 16 = (.arraylength, 17, 0, 0, 0, 0, []) := rfl
theorem tX2_restore_17 : tbX2_restore 17 = (.if_icmp .le 6, 20, 23, 0, 0, 0, []) := rfl
theorem tX2_restore_20 : tbX2_restore 20 = (.bipush (-2), 22, 0, 0, 0, -2, []) := rfl
theorem tX2_restore_22 : tbX2_restore 22 = (.ireturn, 23, 0, 0, 0, 0, []) := rfl
theorem tX2_restore_23 : tbX2_restore 23 = (.aload_n 0, 24, 0, 0, 0, 0, []) := rfl
theorem tX2_restore_24 : tbX2_restore 24 = (.dup, 25, 0, 0, 0, 0, []) := rfl
theorem tX2_restore_25 : tbX2_restore 25 = (.getfield 18, 28, 2, 1, 0, 0, []) := rfl
theorem tX2_restore_28 : tbX2_restore 28 = (.iconst 1, 29, 0, 0, 0, 1, []) := rfl
theorem tX2_restore_29 : tbX2_restore 29 = (.isub, 30, 0, 0, 0, 0, []) := rfl
theorem tX2_restore_30 : tbX2_restore 30 = (.putfield 18, 33, 2, 1, 0, 0, []) := rfl
theorem tX2_restore_33 : tbX2_restore 33 = (.aload_n 1, 34, 0, 0, 0, 0, []) := rfl
theorem tX2_restore_34 : tbX2_restore 34 = (.aload_n 0, 35, 0, 0, 0, 0, []) := rfl
theorem tX2_restore_35 : tbX2_restore 35 = (.getfield 11, 38, 2, 0, 0, 0, [(0, 0)]) := rfl
theorem tX2_restore_38 : tbX2_restore 38 = (.aload_n 0, 39, 0, 0, 0, 0, []) := rfl
theorem tX2_restore_39 : tbX2_restore 39 = (.getfield 18, 42, 2, 1, 0, 0, []) := rfl
theorem tX2_restore_42 : tbX2_restore 42 = (.aaload, 43, 0, 0, 0, 0, []) := rfl
theorem tX2_restore_43 : tbX2_restore 43 = (.invokevirtual 22, 46, 1, 1, 0, 0, []) := rfl
theorem tX2_restore_46 : tbX2_restore 46 = (.aload_n 0, 47, 0, 0, 0, 0, []) := rfl
theorem tX2_restore_47 : tbX2_restore 47 = (.getfield 18, 50, 2, 1, 0, 0, []) := rfl
theorem tX2_restore_50 : tbX2_restore 50 = (.ireturn, 51, 0, 0, 0, 0, []) := rfl
def ltX2_dropOldest : List (Nat × pm_E) := [(0, .aload_n 0, 1, 0, 0, 0, 0, []), (1, .getfield 11, 4, 2, 0, 0, 0, [(0, 0)]), (4, .iconst 0, 5, 0, 0, 0, 0, []), (5, .aaload, 6, 0, 0, 0, 0, []), (6, .astore_n 1, 7, 0, 0, 0, 0, []), (7, .iconst 0, 8, 0, 0, 0, 0, []), (8, .istore_n 2, 9, 0, 0, 0, 0, []), (9, .iload_n 2, 10, 0, 0, 0, 0, []), (10, .iconst 4, 11, 0, 0, 0, 4, []), (11, .if_icmp .ge 23, 14, 34, 0, 0, 0, []), (14, .aload_n 0, 15, 0, 0, 0, 0, []), (15, .getfield 11, 18, 2, 0, 0, 0, [(0, 0)]), (18, .iload_n 2, 19, 0, 0, 0, 0, []), (19, .aload_n 0, 20, 0, 0, 0, 0, []), (20, .getfield 11, 23, 2, 0, 0, 0, [(0, 0)]), (23, .iload_n 2, 24, 0, 0, 0, 0, []), (24, .iconst 1, 25, 0, 0, 0, 1, []), (25, .iadd, 26, 0, 0, 0, 0, []), (26, .aaload, 27, 0, 0, 0, 0, []), (28, .iinc 2 1, 31, 0, 0, 0, 1, []), (31, .goto (-22), 34, 9, 0, 0, 0, []), (34, .aload_n 0, 35, 0, 0, 0, 0, []), (35, .getfield 11, 38, 2, 0, 0, 0, [(0, 0)]), (38, .iconst 4, 39, 0, 0, 0, 4, []), (39, .aload_n 1, 40, 0, 0, 0, 0, []), (41, .aload_n 0, 42, 0, 0, 0, 0, []), (42, .dup, 43, 0, 0, 0, 0, []), (43, .getfield 18, 46, 2, 1, 0, 0, []), (46, .iconst 1, 47, 0, 0, 0, 1, []), (47, .isub, 48, 0, 0, 0, 0, []), (48, .putfield 18, 51, 2, 1, 0, 0, []), (51, .return_, 52, 0, 0, 0, 0, [])]
def tbX2_dropOldest : Nat → pm_E := pm_lk ltX2_dropOldest
theorem okX2_dropOldest : ∀ pc, (tbX2_dropOldest pc).1 = .nop ∨ pm_ok mX2_dropOldest pw_Ms pc (tbX2_dropOldest pc) := pm_lk_ok (by decide +kernel)
theorem nr_X2_dropOldest : mX2_dropOldest.2.2.2 = none := rfl
theorem tX2_dropOldest_0 : tbX2_dropOldest 0 = (.aload_n 0, 1, 0, 0, 0, 0, []) := rfl
theorem tX2_dropOldest_1 : tbX2_dropOldest 1 = (.getfield 11, 4, 2, 0, 0, 0, [(0, 0)]) := rfl
theorem tX2_dropOldest_4 : tbX2_dropOldest 4 = (.iconst 0, 5, 0, 0, 0, 0, []) := rfl
theorem tX2_dropOldest_5 : tbX2_dropOldest 5 = (.aaload, 6, 0, 0, 0, 0, []) := rfl
theorem tX2_dropOldest_6 : tbX2_dropOldest 6 = (.astore_n 1, 7, 0, 0, 0, 0, []) := rfl
theorem tX2_dropOldest_7 : tbX2_dropOldest 7 = (.iconst 0, 8, 0, 0, 0, 0, []) := rfl
theorem tX2_dropOldest_8 : tbX2_dropOldest 8 = (.istore_n 2, 9, 0, 0, 0, 0, []) := rfl
theorem tX2_dropOldest_9 : tbX2_dropOldest 9 = (.iload_n 2, 10, 0, 0, 0, 0, []) := rfl
theorem tX2_dropOldest_10 : tbX2_dropOldest 10 = (.iconst 4, 11, 0, 0, 0, 4, []) := rfl
theorem tX2_dropOldest_11 : tbX2_dropOldest 11 = (.if_icmp .ge 23, 14, 34, 0, 0, 0, []) := rfl
theorem tX2_dropOldest_14 : tbX2_dropOldest 14 = (.aload_n 0, 15, 0, 0, 0, 0, []) := rfl
theorem tX2_dropOldest_15 : tbX2_dropOldest 15 = (.getfield 11, 18, 2, 0, 0, 0, [(0, 0)]) := rfl
theorem tX2_dropOldest_18 : tbX2_dropOldest 18 = (.iload_n 2, 19, 0, 0, 0, 0, []) := rfl
theorem tX2_dropOldest_19 : tbX2_dropOldest 19 = (.aload_n 0, 20, 0, 0, 0, 0, []) := rfl
theorem tX2_dropOldest_20 : tbX2_dropOldest 20 = (.getfield 11, 23, 2, 0, 0, 0, [(0, 0)]) := rfl
theorem tX2_dropOldest_23 : tbX2_dropOldest 23 = (.iload_n 2, 24, 0, 0, 0, 0, []) := rfl
theorem tX2_dropOldest_24 : tbX2_dropOldest 24 = (.iconst 1, 25, 0, 0, 0, 1, []) := rfl
theorem tX2_dropOldest_25 : tbX2_dropOldest 25 = (.iadd, 26, 0, 0, 0, 0, []) := rfl
theorem tX2_dropOldest_26 : tbX2_dropOldest 26 = (.aaload, 27, 0, 0, 0, 0, []) := rfl
theorem tX2_dropOldest_28 : tbX2_dropOldest 28 = (.iinc 2 1, 31, 0, 0, 0, 1, []) := rfl
theorem tX2_dropOldest_31 : tbX2_dropOldest 31 = (.goto (-22), 34, 9, 0, 0, 0, []) := rfl
theorem tX2_dropOldest_34 : tbX2_dropOldest 34 = (.aload_n 0, 35, 0, 0, 0, 0, []) := rfl
theorem tX2_dropOldest_35 : tbX2_dropOldest 35 = (.getfield 11, 38, 2, 0, 0, 0, [(0, 0)]) := rfl
theorem tX2_dropOldest_38 : tbX2_dropOldest 38 = (.iconst 4, 39, 0, 0, 0, 4, []) := rfl
theorem tX2_dropOldest_39 : tbX2_dropOldest 39 = (.aload_n 1, 40, 0, 0, 0, 0, []) := rfl
theorem tX2_dropOldest_41 : tbX2_dropOldest 41 = (.aload_n 0, 42, 0, 0, 0, 0, []) := rfl
theorem tX2_dropOldest_42 : tbX2_dropOldest 42 = (.dup, 43, 0, 0, 0, 0, []) := rfl
theorem tX2_dropOldest_43 : tbX2_dropOldest 43 = (.getfield 18, 46, 2, 1, 0, 0, []) := rfl
theorem tX2_dropOldest_46 : tbX2_dropOldest 46 = (.iconst 1, 47, 0, 0, 0, 1, []) := rfl
theorem tX2_dropOldest_47 : tbX2_dropOldest 47 = (.isub, 48, 0, 0, 0, 0, []) := rfl
theorem tX2_dropOldest_48 : tbX2_dropOldest 48 = (.putfield 18, 51, 2, 1, 0, 0, []) := rfl
theorem tX2_dropOldest_51 : tbX2_dropOldest 51 = (.return_, 52, 0, 0, 0, 0, []) := rfl
def ltX3_init : List (Nat × pm_E) := [(0, .aload_n 0, 1, 0, 0, 0, 0, []), (4, .return_, 5, 0, 0, 0, 0, [])]
def tbX3_init : Nat → pm_E := pm_lk ltX3_init
theorem okX3_init : ∀ pc, (tbX3_init pc).1 = .nop ∨ pm_ok mX3_init pw_Ms pc (tbX3_init pc) := pm_lk_ok (by decide +kernel)
theorem nr_X3_init : mX3_init.2.2.2 = none := rfl
theorem tX3_init_0 : tbX3_init 0 = (.aload_n 0, 1, 0, 0, 0, 0, []) := rfl
theorem tX3_init_4 : tbX3_init 4 = (.return_, 5, 0, 0, 0, 0, []) := rfl
def ltX3_copyFrom : List (Nat × pm_E) := [(0, .aload_n 0, 1, 0, 0, 0, 0, []), (1, .aload_n 1, 2, 0, 0, 0, 0, []), (2, .getfield 7, 5, 3, 0, 0, 0, []), (5, .putfield 7, 8, 3, 0, 0, 0, []), (8, .aload_n 0, 9, 0, 0, 0, 0, []), (9, .aload_n 1, 10, 0, 0, 0, 0, []), (10, .getfield 13, 13, 3, 12, 0, 0, []), (13, .putfield 13, 16, 3, 12, 0, 0, []), (16, .aload_n 0, 17, 0, 0, 0, 0, []), (17, .aload_n 1, 18, 0, 0, 0, 0, []), (18, .getfield 16, 21, 3, 1, 0, 0, []), (21, .putfield 16, 24, 3, 1, 0, 0, []), (24, .aload_n 0, 25, 0, 0, 0, 0, []), (25, .aload_n 1, 26, 0, 0, 0, 0, []), (26, .getfield 19, 29, 3, 2, 0, 0, []), (29, .putfield 19, 32, 3, 2, 0, 0, [(0, 0)]), (32, .aload_n 0, 33, 0, 0, 0, 0, []), (33, .aload_n 1, 34, 0, 0, 0, 0, []), (34, .getfield 23, 37, 3, 3, 0, 0, []), (37, .putfield 23, 40, 3, 3, 0, 0, [(0, 0)]), (40, .aload_n 0, 41, 0, 0, 0, 0, []), (41, .aload_n 1, 42, 0, 0, 0, 0, []), (42, .getfield 26, 45, 3, 4, 0, 0, []), (45, .putfield 26, 48, 3, 4, 0, 0, [(0, 0)]), (48, .aload_n 0, 49, 0, 0, 0, 0, []), (49, .aload_n 1, 50, 0, 0, 0, 0, []), (50, .getfield 29, 53, 3, 5, 0, 0, []), (53, .putfield 29, 56, 3, 5, 0, 0, []), (56, .aload_n 0, 57, 0, 0, 0, 0, []), (57, .aload_n 1, 58, 0, 0, 0, 0, []), (58, .getfield 32, 61, 3, 6, 0, 0, []), (61, .putfield 32, 64, 3, 6, 0, 0, []), (64, .aload_n 0, 65, 0, 0, 0, 0, []), (65, .aload_n 1, 66, 0, 0, 0, 0, []), (66, .getfield 35, 69, 3, 7, 0, 0, []), (69, .putfield 35, 72, 3, 7, 0, 0, []), (72, .aload_n 0, 73, 0, 0, 0, 0, []), (73, .aload_n 1, 74, 0, 0, 0, 0, []), (74, .getfield 38, 77, 3, 8, 0, 0, []), (77, .putfield 38, 80, 3, 8, 0, 0, []), (80, .aload_n 0, 81, 0, 0, 0, 0, []), (81, .aload_n 1, 82, 0, 0, 0, 0, []), (82, .getfield 41, 85, 3, 9, 0, 0, []), (85, .putfield 41, 88, 3, 9, 0, 0, []), (88, .aload_n 0, 89, 0, 0, 0, 0, []), (89, .aload_n 1, 90, 0, 0, 0, 0, []), (90, .getfield 44, 93, 3, 10, 0, 0, []), (93, .putfield 44, 96, 3, 10, 0, 0, []), (96, .aload_n 0, 97, 0, 0, 0, 0, []), (97, .aload_n 1, 98, 0, 0, 0, 0, []), (98, .getfield 47, 101, 3, 11, 0, 0, []), (101, .putfield 47, 104, 3, 11, 0, 0, []), (104, .return_, 105, 0, 0, 0, 0, [])]
def tbX3_copyFrom : Nat → pm_E := pm_lk ltX3_copyFrom
theorem okX3_copyFrom : ∀ pc, (tbX3_copyFrom pc).1 = .nop ∨ pm_ok mX3_copyFrom pw_Ms pc (tbX3_copyFrom pc) := pm_lk_ok (by decide +kernel)
theorem nr_X3_copyFrom : mX3_copyFrom.2.2.2 = none := rfl
theorem tX3_copyFrom_0 : tbX3_copyFrom 0 = (.aload_n 0, 1, 0, 0, 0, 0, []) := rfl
theorem tX3_copyFrom_1 : tbX3_copyFrom 1 = (.aload_n 1, 2, 0, 0, 0, 0, []) := rfl
theorem tX3_copyFrom_2 : tbX3_copyFrom 2 = (.getfield 7, 5, 3, 0, 0, 0, []) := rfl
theorem tX3_copyFrom_5 : tbX3_copyFrom 5 = (.putfield 7, 8, 3, 0, 0, 0, []) := rfl
theorem tX3_copyFrom_8 : tbX3_copyFrom 8 = (.aload_n 0, 9, 0, 0, 0, 0, []) := rfl
theorem tX3_copyFrom_9 : tbX3_copyFrom 9 = (.aload_n 1, 10, 0, 0, 0, 0, []) := rfl
theorem tX3_copyFrom_10 : tbX3_copyFrom 10 = (.getfield 13, 13, 3, 12, 0, 0, []) := rfl
theorem tX3_copyFrom_13 : tbX3_copyFrom 13 = (.putfield 13, 16, 3, 12, 0, 0, []) := rfl
theorem tX3_copyFrom_16 : tbX3_copyFrom 16 = (.aload_n 0, 17, 0, 0, 0, 0, []) := rfl
theorem tX3_copyFrom_17 : tbX3_copyFrom 17 = (.aload_n 1, 18, 0, 0, 0, 0, []) := rfl
theorem tX3_copyFrom_18 : tbX3_copyFrom 18 = (.getfield 16, 21, 3, 1, 0, 0, []) := rfl
theorem tX3_copyFrom_21 : tbX3_copyFrom 21 = (.putfield 16, 24, 3, 1, 0, 0, []) := rfl
theorem tX3_copyFrom_24 : tbX3_copyFrom 24 = (.aload_n 0, 25, 0, 0, 0, 0, []) := rfl
theorem tX3_copyFrom_25 : tbX3_copyFrom 25 = (.aload_n 1, 26, 0, 0, 0, 0, []) := rfl
theorem tX3_copyFrom_26 : tbX3_copyFrom 26 = (.getfield 19, 29, 3, 2, 0, 0, []) := rfl
theorem tX3_copyFrom_29 : tbX3_copyFrom 29 = (.putfield 19, 32, 3, 2, 0, 0, [(0, 0)]) := rfl
theorem tX3_copyFrom_32 : tbX3_copyFrom 32 = (.aload_n 0, 33, 0, 0, 0, 0, []) := rfl
theorem tX3_copyFrom_33 : tbX3_copyFrom 33 = (.aload_n 1, 34, 0, 0, 0, 0, []) := rfl
theorem tX3_copyFrom_34 : tbX3_copyFrom 34 = (.getfield 23, 37, 3, 3, 0, 0, []) := rfl
theorem tX3_copyFrom_37 : tbX3_copyFrom 37 = (.putfield 23, 40, 3, 3, 0, 0, [(0, 0)]) := rfl
theorem tX3_copyFrom_40 : tbX3_copyFrom 40 = (.aload_n 0, 41, 0, 0, 0, 0, []) := rfl
theorem tX3_copyFrom_41 : tbX3_copyFrom 41 = (.aload_n 1, 42, 0, 0, 0, 0, []) := rfl
theorem tX3_copyFrom_42 : tbX3_copyFrom 42 = (.getfield 26, 45, 3, 4, 0, 0, []) := rfl
theorem tX3_copyFrom_45 : tbX3_copyFrom 45 = (.putfield 26, 48, 3, 4, 0, 0, [(0, 0)]) := rfl
theorem tX3_copyFrom_48 : tbX3_copyFrom 48 = (.aload_n 0, 49, 0, 0, 0, 0, []) := rfl
theorem tX3_copyFrom_49 : tbX3_copyFrom 49 = (.aload_n 1, 50, 0, 0, 0, 0, []) := rfl
theorem tX3_copyFrom_50 : tbX3_copyFrom 50 = (.getfield 29, 53, 3, 5, 0, 0, []) := rfl
theorem tX3_copyFrom_53 : tbX3_copyFrom 53 = (.putfield 29, 56, 3, 5, 0, 0, []) := rfl
theorem tX3_copyFrom_56 : tbX3_copyFrom 56 = (.aload_n 0, 57, 0, 0, 0, 0, []) := rfl
theorem tX3_copyFrom_57 : tbX3_copyFrom 57 = (.aload_n 1, 58, 0, 0, 0, 0, []) := rfl
theorem tX3_copyFrom_58 : tbX3_copyFrom 58 = (.getfield 32, 61, 3, 6, 0, 0, []) := rfl
theorem tX3_copyFrom_61 : tbX3_copyFrom 61 = (.putfield 32, 64, 3, 6, 0, 0, []) := rfl
theorem tX3_copyFrom_64 : tbX3_copyFrom 64 = (.aload_n 0, 65, 0, 0, 0, 0, []) := rfl
theorem tX3_copyFrom_65 : tbX3_copyFrom 65 = (.aload_n 1, 66, 0, 0, 0, 0, []) := rfl
theorem tX3_copyFrom_66 : tbX3_copyFrom 66 = (.getfield 35, 69, 3, 7, 0, 0, []) := rfl
theorem tX3_copyFrom_69 : tbX3_copyFrom 69 = (.putfield 35, 72, 3, 7, 0, 0, []) := rfl
theorem tX3_copyFrom_72 : tbX3_copyFrom 72 = (.aload_n 0, 73, 0, 0, 0, 0, []) := rfl
theorem tX3_copyFrom_73 : tbX3_copyFrom 73 = (.aload_n 1, 74, 0, 0, 0, 0, []) := rfl
theorem tX3_copyFrom_74 : tbX3_copyFrom 74 = (.getfield 38, 77, 3, 8, 0, 0, []) := rfl
theorem tX3_copyFrom_77 : tbX3_copyFrom 77 = (.putfield 38, 80, 3, 8, 0, 0, []) := rfl
theorem tX3_copyFrom_80 : tbX3_copyFrom 80 = (.aload_n 0, 81, 0, 0, 0, 0, []) := rfl
theorem tX3_copyFrom_81 : tbX3_copyFrom 81 = (.aload_n 1, 82, 0, 0, 0, 0, []) := rfl
theorem tX3_copyFrom_82 : tbX3_copyFrom 82 = (.getfield 41, 85, 3, 9, 0, 0, []) := rfl
theorem tX3_copyFrom_85 : tbX3_copyFrom 85 = (.putfield 41, 88, 3, 9, 0, 0, []) := rfl
theorem tX3_copyFrom_88 : tbX3_copyFrom 88 = (.aload_n 0, 89, 0, 0, 0, 0, []) := rfl
theorem tX3_copyFrom_89 : tbX3_copyFrom 89 = (.aload_n 1, 90, 0, 0, 0, 0, []) := rfl
theorem tX3_copyFrom_90 : tbX3_copyFrom 90 = (.getfield 44, 93, 3, 10, 0, 0, []) := rfl
theorem tX3_copyFrom_93 : tbX3_copyFrom 93 = (.putfield 44, 96, 3, 10, 0, 0, []) := rfl
theorem tX3_copyFrom_96 : tbX3_copyFrom 96 = (.aload_n 0, 97, 0, 0, 0, 0, []) := rfl
theorem tX3_copyFrom_97 : tbX3_copyFrom 97 = (.aload_n 1, 98, 0, 0, 0, 0, []) := rfl
theorem tX3_copyFrom_98 : tbX3_copyFrom 98 = (.getfield 47, 101, 3, 11, 0, 0, []) := rfl
theorem tX3_copyFrom_101 : tbX3_copyFrom 101 = (.putfield 47, 104, 3, 11, 0, 0, []) := rfl
theorem tX3_copyFrom_104 : tbX3_copyFrom 104 = (.return_, 105, 0, 0, 0, 0, []) := rfl
def ltX4_init : List (Nat × pm_E) := [(0, .aload_n 0, 1, 0, 0, 0, 0, []), (4, .aload_n 0, 5, 0, 0, 0, 0, []), (8, .dup, 9, 0, 0, 0, 0, []), (15, .return_, 16, 0, 0, 0, 0, [])]
def tbX4_init : Nat → pm_E := pm_lk ltX4_init
theorem okX4_init : ∀ pc, (tbX4_init pc).1 = .nop ∨ pm_ok mX4_init pw_Ms pc (tbX4_init pc) := pm_lk_ok (by decide +kernel)
theorem nr_X4_init : mX4_init.2.2.2 = none := rfl
theorem tX4_init_0 : tbX4_init 0 = (.aload_n 0, 1, 0, 0, 0, 0, []) := rfl
theorem tX4_init_4 : tbX4_init 4 = (.aload_n 0, 5, 0, 0, 0, 0, []) := rfl
theorem tX4_init_8 : tbX4_init 8 = (.dup, 9, 0, 0, 0, 0, []) := rfl
theorem tX4_init_15 : tbX4_init 15 = (.return_, 16, 0, 0, 0, 0, []) := rfl
def ltX4_copyFrom : List (Nat × pm_E) := [(0, .aload_n 0, 1, 0, 0, 0, 0, []), (1, .getfield 10, 4, 4, 0, 0, 0, [(0, 0)]), (4, .aload_n 1, 5, 0, 0, 0, 0, []), (5, .getfield 10, 8, 4, 0, 0, 0, [(0, 0)]), (8, .invokevirtual 16, 11, 64, 1, 5, 0, []), (11, .aload_n 0, 12, 0, 0, 0, 0, []), (12, .aload_n 1, 13, 0, 0, 0, 0, []), (13, .getfield 20, 16, 4, 1, 0, 0, []), (16, .putfield 20, 19, 4, 1, 0, 0, []), (19, .aload_n 0, 20, 0, 0, 0, 0, []), (20, .aload_n 1, 21, 0, 0, 0, 0, []), (21, .getfield 24, 24, 4, 2, 0, 0, []), (24, .putfield 24, 27, 4, 2, 0, 0, [(0, 0)]), (27, .aload_n 0, 28, 0, 0, 0, 0, []), (28, .aload_n 1, 29, 0, 0, 0, 0, []), (29, .getfield 28, 32, 4, 3, 0, 0, []), (32, .putfield 28, 35, 4, 3, 0, 0, []), (35, .return_, 36, 0, 0, 0, 0, [])]
def tbX4_copyFrom : Nat → pm_E := pm_lk ltX4_copyFrom
theorem okX4_copyFrom : ∀ pc, (tbX4_copyFrom pc).1 = .nop ∨ pm_ok mX4_copyFrom pw_Ms pc (tbX4_copyFrom pc) := pm_lk_ok (by decide +kernel)
theorem nr_X4_copyFrom : mX4_copyFrom.2.2.2 = none := rfl
theorem tX4_copyFrom_0 : tbX4_copyFrom 0 = (.aload_n 0, 1, 0, 0, 0, 0, []) := rfl
theorem tX4_copyFrom_1 : tbX4_copyFrom 1 = (.getfield 10, 4, 4, 0, 0, 0, [(0, 0)]) := rfl
theorem tX4_copyFrom_4 : tbX4_copyFrom 4 = (.aload_n 1, 5, 0, 0, 0, 0, []) := rfl
theorem tX4_copyFrom_5 : tbX4_copyFrom 5 = (.getfield 10, 8, 4, 0, 0, 0, [(0, 0)]) := rfl
theorem tX4_copyFrom_8 : tbX4_copyFrom 8 = (.invokevirtual 16, 11, 64, 1, 5, 0, []) := rfl
theorem tX4_copyFrom_11 : tbX4_copyFrom 11 = (.aload_n 0, 12, 0, 0, 0, 0, []) := rfl
theorem tX4_copyFrom_12 : tbX4_copyFrom 12 = (.aload_n 1, 13, 0, 0, 0, 0, []) := rfl
theorem tX4_copyFrom_13 : tbX4_copyFrom 13 = (.getfield 20, 16, 4, 1, 0, 0, []) := rfl
theorem tX4_copyFrom_16 : tbX4_copyFrom 16 = (.putfield 20, 19, 4, 1, 0, 0, []) := rfl
theorem tX4_copyFrom_19 : tbX4_copyFrom 19 = (.aload_n 0, 20, 0, 0, 0, 0, []) := rfl
theorem tX4_copyFrom_20 : tbX4_copyFrom 20 = (.aload_n 1, 21, 0, 0, 0, 0, []) := rfl
theorem tX4_copyFrom_21 : tbX4_copyFrom 21 = (.getfield 24, 24, 4, 2, 0, 0, []) := rfl
theorem tX4_copyFrom_24 : tbX4_copyFrom 24 = (.putfield 24, 27, 4, 2, 0, 0, [(0, 0)]) := rfl
theorem tX4_copyFrom_27 : tbX4_copyFrom 27 = (.aload_n 0, 28, 0, 0, 0, 0, []) := rfl
theorem tX4_copyFrom_28 : tbX4_copyFrom 28 = (.aload_n 1, 29, 0, 0, 0, 0, []) := rfl
theorem tX4_copyFrom_29 : tbX4_copyFrom 29 = (.getfield 28, 32, 4, 3, 0, 0, []) := rfl
theorem tX4_copyFrom_32 : tbX4_copyFrom 32 = (.putfield 28, 35, 4, 3, 0, 0, []) := rfl
theorem tX4_copyFrom_35 : tbX4_copyFrom 35 = (.return_, 36, 0, 0, 0, 0, []) := rfl
def ltX5_init : List (Nat × pm_E) := [(0, .aload_n 0, 1, 0, 0, 0, 0, []), (4, .aload_n 0, 5, 0, 0, 0, 0, []), (5, .bipush 21, 7, 0, 0, 0, 21, []), (12, .return_, 13, 0, 0, 0, 0, [])]
def tbX5_init : Nat → pm_E := pm_lk ltX5_init
theorem okX5_init : ∀ pc, (tbX5_init pc).1 = .nop ∨ pm_ok mX5_init pw_Ms pc (tbX5_init pc) := pm_lk_ok (by decide +kernel)
theorem nr_X5_init : mX5_init.2.2.2 = none := rfl
theorem tX5_init_0 : tbX5_init 0 = (.aload_n 0, 1, 0, 0, 0, 0, []) := rfl
theorem tX5_init_4 : tbX5_init 4 = (.aload_n 0, 5, 0, 0, 0, 0, []) := rfl
theorem tX5_init_5 : tbX5_init 5 = (.bipush 21, 7, 0, 0, 0, 21, []) := rfl
theorem tX5_init_12 : tbX5_init 12 = (.return_, 13, 0, 0, 0, 0, []) := rfl
def ltX5_get : List (Nat × pm_E) := [(0, .iload_n 1, 1, 0, 0, 0, 0, []), (1, .ifCond .lt 20, 4, 21, 0, 0, 0, []), (4, .iload_n 1, 5, 0, 0, 0, 0, []), (5, .aload_n 0, 6, 0, 0, 0, 0, []), (6, .getfield 15, 9, 5, 1, 0, 0, []), (9, .if_icmp .ge 12, 12, 21, 0, 0, 0, []), (12, .aload_n 0, 13, 0, 0, 0, 0, []), (13, .getfield 9, 16, 5, 0, 0, 0, [(0, 0)]), (16, .iload_n 1, 17, 0, 0, 0, 0, []), (17, .iaload, 18, 0, 0, 0, 0, []), (18, .goto 4, 21, 22, 0, 0, 0, []), (21, .iconst (-1), 22, 0, 0, 0, -1, []), (22, .ireturn, 23, 0, 0, 0, 0, [])]
def tbX5_get : Nat → pm_E := pm_lk ltX5_get
theorem okX5_get : ∀ pc, (tbX5_get pc).1 = .nop ∨ pm_ok mX5_get pw_Ms pc (tbX5_get pc) := pm_lk_ok (by decide +kernel)
theorem nr_X5_get : mX5_get.2.2.2 = (some .int) := rfl
theorem tX5_get_0 : tbX5_get 0 = (.iload_n 1, 1, 0, 0, 0, 0, []) := rfl
theorem tX5_get_1 : tbX5_get 1 = (.ifCond .lt 20, 4, 21, 0, 0, 0, []) := rfl
theorem tX5_get_4 : tbX5_get 4 = (.iload_n 1, 5, 0, 0, 0, 0, []) := rfl
theorem tX5_get_5 : tbX5_get 5 = (.aload_n 0, 6, 0, 0, 0, 0, []) := rfl
theorem tX5_get_6 : tbX5_get 6 = (.getfield 15, 9, 5, 1, 0, 0, []) := rfl
theorem tX5_get_9 : tbX5_get 9 = (.if_icmp .ge 12, 12, 21, 0, 0, 0, []) := rfl
theorem tX5_get_12 : tbX5_get 12 = (.aload_n 0, 13, 0, 0, 0, 0, []) := rfl
theorem tX5_get_13 : tbX5_get 13 = (.getfield 9, 16, 5, 0, 0, 0, [(0, 0)]) := rfl
theorem tX5_get_16 : tbX5_get 16 = (.iload_n 1, 17, 0, 0, 0, 0, []) := rfl
theorem tX5_get_17 : tbX5_get 17 = (.iaload, 18, 0, 0, 0, 0, []) := rfl
theorem tX5_get_18 : tbX5_get 18 = (.goto 4, 21, 22, 0, 0, 0, []) := rfl
theorem tX5_get_21 : tbX5_get 21 = (.iconst (-1), 22, 0, 0, 0, -1, []) := rfl
theorem tX5_get_22 : tbX5_get 22 = (.ireturn, 23, 0, 0, 0, 0, []) := rfl
def ltX5_insert : List (Nat × pm_E) := [(0, .iload_n 1, 1, 0, 0, 0, 0, []), (1, .ifCond .lt 23, 4, 24, 0, 0, 0, []), (4, .iload_n 1, 5, 0, 0, 0, 0, []), (5, .aload_n 0, 6, 0, 0, 0, 0, []), (6, .getfield 15, 9, 5, 1, 0, 0, []), (9, .if_icmp .gt 15, 12, 24, 0, 0, 0, []), (12, .aload_n 0, 13, 0, 0, 0, 0, []), (13, .getfield 15, 16, 5, 1, 0, 0, []), (16, .aload_n 0, 17, 0, 0, 0, 0, []), (17, .getfield 9, 20, 5, 0, 0, 0, [(0, 0)]), (20, .arraylength, 21, 0, 0, 0, 0, []), (21, .if_icmp .lt 4, 24, 25, 0, 0, 0, []), (24, .return_, 25, 0, 0, 0, 0, []), (25, .aload_n 0, 26, 0, 0, 0, 0, []), (26, .getfield 15, 29, 5, 1, 0, 0, []), (29, .istore_n 3, 30, 0, 0, 0, 0, []), (30, .iload_n 3, 31, 0, 0, 0, 0, []), (31, .iload_n 1, 32, 0, 0, 0, 0, []), (32, .if_icmp .le 23, 35, 55, 0, 0, 0, []), (35, .aload_n 0, 36, 0, 0, 0, 0, []), (36, .getfield 9, 39, 5, 0, 0, 0, [(0, 0)]), (39, .iload_n 3, 40, 0, 0, 0, 0, []), (40, .aload_n 0, 41, 0, 0, 0, 0, []), (41, .getfield 9, 44, 5, 0, 0, 0, [(0, 0)]), (44, .iload_n 3, 45, 0, 0, 0, 0, []), (45, .iconst 1, 46, 0, 0, 0, 1, []), (46, .isub, 47, 0, 0, 0, 0, []), (47, .iaload, 48, 0, 0, 0, 0, []), (48, .iastore, 49, 0, 0, 0, 0, []), (49, .iinc 3 (-1), 52, 0, 0, 0, -1, []), (52, .goto (-22), 55, 30, 0, 0, 0, []), (55, .aload_n 0, 56, 0, 0, 0, 0, []), (56, .getfield 9, 59, 5, 0, 0, 0, [(0, 0)]), (59, .iload_n 1, 60, 0, 0, 0, 0, []), (60, .iload_n 2, 61, 0, 0, 0, 0, []), (61, .iastore, 62, 0, 0, 0, 0, []), (62, .aload_n 0, 63, 0, 0, 0, 0, []), (63, .dup, 64, 0, 0, 0, 0, []), (64, .getfield 15, 67, 5, 1, 0, 0, []), (67, .iconst 1, 68, 0, 0, 0, 1, []), (68, .iadd, 69, 0, 0, 0, 0, []), (69, .putfield 15, 72, 5, 1, 0, 0, []), (72, .return_, 73, 0, 0, 0, 0, [])]
def tbX5_insert : Nat → pm_E := pm_lk ltX5_insert
theorem okX5_insert : ∀ pc, (tbX5_insert pc).1 = .nop ∨ pm_ok mX5_insert pw_Ms pc (tbX5_insert pc) := pm_lk_ok (by decide +kernel)
theorem nr_X5_insert : mX5_insert.2.2.2 = none := rfl
theorem tX5_insert_0 : tbX5_insert 0 = (.iload_n 1, 1, 0, 0, 0, 0, []) := rfl
theorem tX5_insert_1 : tbX5_insert 1 = (.ifCond .lt 23, 4, 24, 0, 0, 0, []) := rfl
theorem tX5_insert_4 : tbX5_insert 4 = (.iload_n 1, 5, 0, 0, 0, 0, []) := rfl
theorem tX5_insert_5 : tbX5_insert 5 = (.aload_n 0, 6, 0, 0, 0, 0, []) := rfl
theorem tX5_insert_6 : tbX5_insert 6 = (.getfield 15, 9, 5, 1, 0, 0, []) := rfl
theorem tX5_insert_9 : tbX5_insert 9 = (.if_icmp .gt 15, 12, 24, 0, 0, 0, []) := rfl
theorem tX5_insert_12 : tbX5_insert 12 = (.aload_n 0, 13, 0, 0, 0, 0, []) := rfl
theorem tX5_insert_13 : tbX5_insert 13 = (.getfield 15, 16, 5, 1, 0, 0, []) := rfl
theorem tX5_insert_16 : tbX5_insert 16 = (.aload_n 0, 17, 0, 0, 0, 0, []) := rfl
theorem tX5_insert_17 : tbX5_insert 17 = (.getfield 9, 20, 5, 0, 0, 0, [(0, 0)]) := rfl
theorem tX5_insert_20 : tbX5_insert 20 = (.arraylength, 21, 0, 0, 0, 0, []) := rfl
theorem tX5_insert_21 : tbX5_insert 21 = (.if_icmp .lt 4, 24, 25, 0, 0, 0, []) := rfl
theorem tX5_insert_24 : tbX5_insert 24 = (.return_, 25, 0, 0, 0, 0, []) := rfl
theorem tX5_insert_25 : tbX5_insert 25 = (.aload_n 0, 26, 0, 0, 0, 0, []) := rfl
theorem tX5_insert_26 : tbX5_insert 26 = (.getfield 15, 29, 5, 1, 0, 0, []) := rfl
theorem tX5_insert_29 : tbX5_insert 29 = (.istore_n 3, 30, 0, 0, 0, 0, []) := rfl
theorem tX5_insert_30 : tbX5_insert 30 = (.iload_n 3, 31, 0, 0, 0, 0, []) := rfl
theorem tX5_insert_31 : tbX5_insert 31 = (.iload_n 1, 32, 0, 0, 0, 0, []) := rfl
theorem tX5_insert_32 : tbX5_insert 32 = (.if_icmp .le 23, 35, 55, 0, 0, 0, []) := rfl
theorem tX5_insert_35 : tbX5_insert 35 = (.aload_n 0, 36, 0, 0, 0, 0, []) := rfl
theorem tX5_insert_36 : tbX5_insert 36 = (.getfield 9, 39, 5, 0, 0, 0, [(0, 0)]) := rfl
theorem tX5_insert_39 : tbX5_insert 39 = (.iload_n 3, 40, 0, 0, 0, 0, []) := rfl
theorem tX5_insert_40 : tbX5_insert 40 = (.aload_n 0, 41, 0, 0, 0, 0, []) := rfl
theorem tX5_insert_41 : tbX5_insert 41 = (.getfield 9, 44, 5, 0, 0, 0, [(0, 0)]) := rfl
theorem tX5_insert_44 : tbX5_insert 44 = (.iload_n 3, 45, 0, 0, 0, 0, []) := rfl
theorem tX5_insert_45 : tbX5_insert 45 = (.iconst 1, 46, 0, 0, 0, 1, []) := rfl
theorem tX5_insert_46 : tbX5_insert 46 = (.isub, 47, 0, 0, 0, 0, []) := rfl
theorem tX5_insert_47 : tbX5_insert 47 = (.iaload, 48, 0, 0, 0, 0, []) := rfl
theorem tX5_insert_48 : tbX5_insert 48 = (.iastore, 49, 0, 0, 0, 0, []) := rfl
theorem tX5_insert_49 : tbX5_insert 49 = (.iinc 3 (-1), 52, 0, 0, 0, -1, []) := rfl
theorem tX5_insert_52 : tbX5_insert 52 = (.goto (-22), 55, 30, 0, 0, 0, []) := rfl
theorem tX5_insert_55 : tbX5_insert 55 = (.aload_n 0, 56, 0, 0, 0, 0, []) := rfl
theorem tX5_insert_56 : tbX5_insert 56 = (.getfield 9, 59, 5, 0, 0, 0, [(0, 0)]) := rfl
theorem tX5_insert_59 : tbX5_insert 59 = (.iload_n 1, 60, 0, 0, 0, 0, []) := rfl
theorem tX5_insert_60 : tbX5_insert 60 = (.iload_n 2, 61, 0, 0, 0, 0, []) := rfl
theorem tX5_insert_61 : tbX5_insert 61 = (.iastore, 62, 0, 0, 0, 0, []) := rfl
theorem tX5_insert_62 : tbX5_insert 62 = (.aload_n 0, 63, 0, 0, 0, 0, []) := rfl
theorem tX5_insert_63 : tbX5_insert 63 = (.dup, 64, 0, 0, 0, 0, []) := rfl
theorem tX5_insert_64 : tbX5_insert 64 = (.getfield 15, 67, 5, 1, 0, 0, []) := rfl
theorem tX5_insert_67 : tbX5_insert 67 = (.iconst 1, 68, 0, 0, 0, 1, []) := rfl
theorem tX5_insert_68 : tbX5_insert 68 = (.iadd, 69, 0, 0, 0, 0, []) := rfl
theorem tX5_insert_69 : tbX5_insert 69 = (.putfield 15, 72, 5, 1, 0, 0, []) := rfl
theorem tX5_insert_72 : tbX5_insert 72 = (.return_, 73, 0, 0, 0, 0, []) := rfl
def ltX5_remove : List (Nat × pm_E) := [(0, .iload_n 1, 1, 0, 0, 0, 0, []), (1, .ifCond .lt 11, 4, 12, 0, 0, 0, []), (4, .iload_n 1, 5, 0, 0, 0, 0, []), (5, .aload_n 0, 6, 0, 0, 0, 0, []), (6, .getfield 15, 9, 5, 1, 0, 0, []), (9, .if_icmp .lt 4, 12, 13, 0, 0, 0, []), (12, .return_, 13, 0, 0, 0, 0, []), (13, .iload_n 1, 14, 0, 0, 0, 0, []), (14, .iconst 1, 15, 0, 0, 0, 1, []), (15, .iadd, 16, 0, 0, 0, 0, []), (16, .istore_n 2, 17, 0, 0, 0, 0, []), (17, .iload_n 2, 18, 0, 0, 0, 0, []), (18, .aload_n 0, 19, 0, 0, 0, 0, []), (19, .getfield 15, 22, 5, 1, 0, 0, []), (22, .if_icmp .ge 23, 25, 45, 0, 0, 0, []), (25, .aload_n 0, 26, 0, 0, 0, 0, []), (26, .getfield 9, 29, 5, 0, 0, 0, [(0, 0)]), (29, .iload_n 2, 30, 0, 0, 0, 0, []), (30, .iconst 1, 31, 0, 0, 0, 1, []), (31, .isub, 32, 0, 0, 0, 0, []), (32, .aload_n 0, 33, 0, 0, 0, 0, []), (33, .getfield 9, 36, 5, 0, 0, 0, [(0, 0)]), (36, .iload_n 2, 37, 0, 0, 0, 0, []), (37, .iaload, 38, 0, 0, 0, 0, []), (38, .iastore, 39, 0, 0, 0, 0, []), (39, .iinc 2 1, 42, 0, 0, 0, 1, []), (42, .goto (-25), 45, 17, 0, 0, 0, []), (45, .aload_n 0, 46, 0, 0, 0, 0, []), (46, .dup, 47, 0, 0, 0, 0, []), (47, .getfield 15, 50, 5, 1, 0, 0, []), (50, .iconst 1, 51, 0, 0, 0, 1, []), (51, .isub, 52, 0, 0, 0, 0, []), (52, .putfield 15, 55, 5, 1, 0, 0, []), (55, .return_, 56, 0, 0, 0, 0, [])]
def tbX5_remove : Nat → pm_E := pm_lk ltX5_remove
theorem okX5_remove : ∀ pc, (tbX5_remove pc).1 = .nop ∨ pm_ok mX5_remove pw_Ms pc (tbX5_remove pc) := pm_lk_ok (by decide +kernel)
theorem nr_X5_remove : mX5_remove.2.2.2 = none := rfl
theorem tX5_remove_0 : tbX5_remove 0 = (.iload_n 1, 1, 0, 0, 0, 0, []) := rfl
theorem tX5_remove_1 : tbX5_remove 1 = (.ifCond .lt 11, 4, 12, 0, 0, 0, []) := rfl
theorem tX5_remove_4 : tbX5_remove 4 = (.iload_n 1, 5, 0, 0, 0, 0, []) := rfl
theorem tX5_remove_5 : tbX5_remove 5 = (.aload_n 0, 6, 0, 0, 0, 0, []) := rfl
theorem tX5_remove_6 : tbX5_remove 6 = (.getfield 15, 9, 5, 1, 0, 0, []) := rfl
theorem tX5_remove_9 : tbX5_remove 9 = (.if_icmp .lt 4, 12, 13, 0, 0, 0, []) := rfl
theorem tX5_remove_12 : tbX5_remove 12 = (.return_, 13, 0, 0, 0, 0, []) := rfl
theorem tX5_remove_13 : tbX5_remove 13 = (.iload_n 1, 14, 0, 0, 0, 0, []) := rfl
theorem tX5_remove_14 : tbX5_remove 14 = (.iconst 1, 15, 0, 0, 0, 1, []) := rfl
theorem tX5_remove_15 : tbX5_remove 15 = (.iadd, 16, 0, 0, 0, 0, []) := rfl
theorem tX5_remove_16 : tbX5_remove 16 = (.istore_n 2, 17, 0, 0, 0, 0, []) := rfl
theorem tX5_remove_17 : tbX5_remove 17 = (.iload_n 2, 18, 0, 0, 0, 0, []) := rfl
theorem tX5_remove_18 : tbX5_remove 18 = (.aload_n 0, 19, 0, 0, 0, 0, []) := rfl
theorem tX5_remove_19 : tbX5_remove 19 = (.getfield 15, 22, 5, 1, 0, 0, []) := rfl
theorem tX5_remove_22 : tbX5_remove 22 = (.if_icmp .ge 23, 25, 45, 0, 0, 0, []) := rfl
theorem tX5_remove_25 : tbX5_remove 25 = (.aload_n 0, 26, 0, 0, 0, 0, []) := rfl
theorem tX5_remove_26 : tbX5_remove 26 = (.getfield 9, 29, 5, 0, 0, 0, [(0, 0)]) := rfl
theorem tX5_remove_29 : tbX5_remove 29 = (.iload_n 2, 30, 0, 0, 0, 0, []) := rfl
theorem tX5_remove_30 : tbX5_remove 30 = (.iconst 1, 31, 0, 0, 0, 1, []) := rfl
theorem tX5_remove_31 : tbX5_remove 31 = (.isub, 32, 0, 0, 0, 0, []) := rfl
theorem tX5_remove_32 : tbX5_remove 32 = (.aload_n 0, 33, 0, 0, 0, 0, []) := rfl
theorem tX5_remove_33 : tbX5_remove 33 = (.getfield 9, 36, 5, 0, 0, 0, [(0, 0)]) := rfl
theorem tX5_remove_36 : tbX5_remove 36 = (.iload_n 2, 37, 0, 0, 0, 0, []) := rfl
theorem tX5_remove_37 : tbX5_remove 37 = (.iaload, 38, 0, 0, 0, 0, []) := rfl
theorem tX5_remove_38 : tbX5_remove 38 = (.iastore, 39, 0, 0, 0, 0, []) := rfl
theorem tX5_remove_39 : tbX5_remove 39 = (.iinc 2 1, 42, 0, 0, 0, 1, []) := rfl
theorem tX5_remove_42 : tbX5_remove 42 = (.goto (-25), 45, 17, 0, 0, 0, []) := rfl
theorem tX5_remove_45 : tbX5_remove 45 = (.aload_n 0, 46, 0, 0, 0, 0, []) := rfl
theorem tX5_remove_46 : tbX5_remove 46 = (.dup, 47, 0, 0, 0, 0, []) := rfl
theorem tX5_remove_47 : tbX5_remove 47 = (.getfield 15, 50, 5, 1, 0, 0, []) := rfl
theorem tX5_remove_50 : tbX5_remove 50 = (.iconst 1, 51, 0, 0, 0, 1, []) := rfl
theorem tX5_remove_51 : tbX5_remove 51 = (.isub, 52, 0, 0, 0, 0, []) := rfl
theorem tX5_remove_52 : tbX5_remove 52 = (.putfield 15, 55, 5, 1, 0, 0, []) := rfl
theorem tX5_remove_55 : tbX5_remove 55 = (.return_, 56, 0, 0, 0, 0, []) := rfl
def ltX5_moveBehind : List (Nat × pm_E) := [(0, .iconst 0, 1, 0, 0, 0, 0, []), (1, .istore_n 2, 2, 0, 0, 0, 0, []), (2, .iload_n 2, 3, 0, 0, 0, 0, []), (3, .aload_n 0, 4, 0, 0, 0, 0, []), (4, .getfield 15, 7, 5, 1, 0, 0, []), (7, .if_icmp .ge 34, 10, 41, 0, 0, 0, []), (10, .aload_n 0, 11, 0, 0, 0, 0, []), (11, .getfield 9, 14, 5, 0, 0, 0, [(0, 0)]), (14, .iload_n 2, 15, 0, 0, 0, 0, []), (15, .iaload, 16, 0, 0, 0, 0, []), (16, .iload_n 1, 17, 0, 0, 0, 0, []), (17, .if_icmp .ne 18, 20, 35, 0, 0, 0, []), (20, .aload_n 0, 21, 0, 0, 0, 0, []), (21, .iload_n 2, 22, 0, 0, 0, 0, []), (22, .invokevirtual 19, 25, 62, 1, 5, 0, []), (25, .aload_n 0, 26, 0, 0, 0, 0, []), (26, .aload_n 0, 27, 0, 0, 0, 0, []), (27, .getfield 15, 30, 5, 1, 0, 0, []), (30, .iload_n 1, 31, 0, 0, 0, 0, []), (31, .invokevirtual 23, 34, 61, 2, 5, 0, []), (34, .return_, 35, 0, 0, 0, 0, []), (35, .iinc 2 1, 38, 0, 0, 0, 1, []), (38, .goto (-36), 41, 2, 0, 0, 0, []), (41, .return_, 42, 0, 0, 0, 0, [])]
def tbX5_moveBehind : Nat → pm_E := pm_lk ltX5_moveBehind
theorem okX5_moveBehind : ∀ pc, (tbX5_moveBehind pc).1 = .nop ∨ pm_ok mX5_moveBehind pw_Ms pc (tbX5_moveBehind pc) := pm_lk_ok (by decide +kernel)
theorem nr_X5_moveBehind : mX5_moveBehind.2.2.2 = none := rfl
theorem tX5_moveBehind_0 : tbX5_moveBehind 0 = (.iconst 0, 1, 0, 0, 0, 0, []) := rfl
theorem tX5_moveBehind_1 : tbX5_moveBehind 1 = (.istore_n 2, 2, 0, 0, 0, 0, []) := rfl
theorem tX5_moveBehind_2 : tbX5_moveBehind 2 = (.iload_n 2, 3, 0, 0, 0, 0, []) := rfl
theorem tX5_moveBehind_3 : tbX5_moveBehind 3 = (.aload_n 0, 4, 0, 0, 0, 0, []) := rfl
theorem tX5_moveBehind_4 : tbX5_moveBehind 4 = (.getfield 15, 7, 5, 1, 0, 0, []) := rfl
theorem tX5_moveBehind_7 : tbX5_moveBehind 7 = (.if_icmp .ge 34, 10, 41, 0, 0, 0, []) := rfl
theorem tX5_moveBehind_10 : tbX5_moveBehind 10 = (.aload_n 0, 11, 0, 0, 0, 0, []) := rfl
theorem tX5_moveBehind_11 : tbX5_moveBehind 11 = (.getfield 9, 14, 5, 0, 0, 0, [(0, 0)]) := rfl
theorem tX5_moveBehind_14 : tbX5_moveBehind 14 = (.iload_n 2, 15, 0, 0, 0, 0, []) := rfl
theorem tX5_moveBehind_15 : tbX5_moveBehind 15 = (.iaload, 16, 0, 0, 0, 0, []) := rfl
theorem tX5_moveBehind_16 : tbX5_moveBehind 16 = (.iload_n 1, 17, 0, 0, 0, 0, []) := rfl
theorem tX5_moveBehind_17 : tbX5_moveBehind 17 = (.if_icmp .ne 18, 20, 35, 0, 0, 0, []) := rfl
theorem tX5_moveBehind_20 : tbX5_moveBehind 20 = (.aload_n 0, 21, 0, 0, 0, 0, []) := rfl
theorem tX5_moveBehind_21 : tbX5_moveBehind 21 = (.iload_n 2, 22, 0, 0, 0, 0, []) := rfl
theorem tX5_moveBehind_22 : tbX5_moveBehind 22 = (.invokevirtual 19, 25, 62, 1, 5, 0, []) := rfl
theorem tX5_moveBehind_25 : tbX5_moveBehind 25 = (.aload_n 0, 26, 0, 0, 0, 0, []) := rfl
theorem tX5_moveBehind_26 : tbX5_moveBehind 26 = (.aload_n 0, 27, 0, 0, 0, 0, []) := rfl
theorem tX5_moveBehind_27 : tbX5_moveBehind 27 = (.getfield 15, 30, 5, 1, 0, 0, []) := rfl
theorem tX5_moveBehind_30 : tbX5_moveBehind 30 = (.iload_n 1, 31, 0, 0, 0, 0, []) := rfl
theorem tX5_moveBehind_31 : tbX5_moveBehind 31 = (.invokevirtual 23, 34, 61, 2, 5, 0, []) := rfl
theorem tX5_moveBehind_34 : tbX5_moveBehind 34 = (.return_, 35, 0, 0, 0, 0, []) := rfl
theorem tX5_moveBehind_35 : tbX5_moveBehind 35 = (.iinc 2 1, 38, 0, 0, 0, 1, []) := rfl
theorem tX5_moveBehind_38 : tbX5_moveBehind 38 = (.goto (-36), 41, 2, 0, 0, 0, []) := rfl
theorem tX5_moveBehind_41 : tbX5_moveBehind 41 = (.return_, 42, 0, 0, 0, 0, []) := rfl
def ltX5_copyFrom : List (Nat × pm_E) := [(0, .aload_n 1, 1, 0, 0, 0, 0, []), (1, .getfield 9, 4, 5, 0, 0, 0, [(0, 0)]), (4, .iconst 0, 5, 0, 0, 0, 0, []), (5, .aload_n 0, 6, 0, 0, 0, 0, []), (6, .getfield 9, 9, 5, 0, 0, 0, [(0, 0)]), (9, .iconst 0, 10, 0, 0, 0, 0, []), (10, .aload_n 0, 11, 0, 0, 0, 0, []), (11, .getfield 9, 14, 5, 0, 0, 0, [(0, 0)]), (14, .arraylength, 15, 0, 0, 0, 0, []), (18, .aload_n 0, 19, 0, 0, 0, 0, []), (19, .aload_n 1, 20, 0, 0, 0, 0, []), (20, .getfield 15, 23, 5, 1, 0, 0, []), (23, .putfield 15, 26, 5, 1, 0, 0, []), (26, .return_, 27, 0, 0, 0, 0, [])]
def tbX5_copyFrom : Nat → pm_E := pm_lk ltX5_copyFrom
theorem okX5_copyFrom : ∀ pc, (tbX5_copyFrom pc).1 = .nop ∨ pm_ok mX5_copyFrom pw_Ms pc (tbX5_copyFrom pc) := pm_lk_ok (by decide +kernel)
theorem nr_X5_copyFrom : mX5_copyFrom.2.2.2 = none := rfl
theorem tX5_copyFrom_0 : tbX5_copyFrom 0 = (.aload_n 1, 1, 0, 0, 0, 0, []) := rfl
theorem tX5_copyFrom_1 : tbX5_copyFrom 1 = (.getfield 9, 4, 5, 0, 0, 0, [(0, 0)]) := rfl
theorem tX5_copyFrom_4 : tbX5_copyFrom 4 = (.iconst 0, 5, 0, 0, 0, 0, []) := rfl
theorem tX5_copyFrom_5 : tbX5_copyFrom 5 = (.aload_n 0, 6, 0, 0, 0, 0, []) := rfl
theorem tX5_copyFrom_6 : tbX5_copyFrom 6 = (.getfield 9, 9, 5, 0, 0, 0, [(0, 0)]) := rfl
theorem tX5_copyFrom_9 : tbX5_copyFrom 9 = (.iconst 0, 10, 0, 0, 0, 0, []) := rfl
theorem tX5_copyFrom_10 : tbX5_copyFrom 10 = (.aload_n 0, 11, 0, 0, 0, 0, []) := rfl
theorem tX5_copyFrom_11 : tbX5_copyFrom 11 = (.getfield 9, 14, 5, 0, 0, 0, [(0, 0)]) := rfl
theorem tX5_copyFrom_14 : tbX5_copyFrom 14 = (.arraylength, 15, 0, 0, 0, 0, []) := rfl
theorem tX5_copyFrom_18 : tbX5_copyFrom 18 = (.aload_n 0, 19, 0, 0, 0, 0, []) := rfl
theorem tX5_copyFrom_19 : tbX5_copyFrom 19 = (.aload_n 1, 20, 0, 0, 0, 0, []) := rfl
theorem tX5_copyFrom_20 : tbX5_copyFrom 20 = (.getfield 15, 23, 5, 1, 0, 0, []) := rfl
theorem tX5_copyFrom_23 : tbX5_copyFrom 23 = (.putfield 15, 26, 5, 1, 0, 0, []) := rfl
theorem tX5_copyFrom_26 : tbX5_copyFrom 26 = (.return_, 27, 0, 0, 0, 0, []) := rfl
def ltX6_init : List (Nat × pm_E) := [(0, .aload_n 0, 1, 0, 0, 0, 0, []), (4, .aload_n 0, 5, 0, 0, 0, 0, []), (8, .dup, 9, 0, 0, 0, 0, []), (15, .aload_n 0, 16, 0, 0, 0, 0, []), (19, .dup, 20, 0, 0, 0, 0, []), (26, .aload_n 0, 27, 0, 0, 0, 0, []), (30, .dup, 31, 0, 0, 0, 0, []), (37, .aload_n 0, 38, 0, 0, 0, 0, []), (41, .dup, 42, 0, 0, 0, 0, []), (48, .return_, 49, 0, 0, 0, 0, [])]
def tbX6_init : Nat → pm_E := pm_lk ltX6_init
theorem okX6_init : ∀ pc, (tbX6_init pc).1 = .nop ∨ pm_ok mX6_init pw_Ms pc (tbX6_init pc) := pm_lk_ok (by decide +kernel)
theorem nr_X6_init : mX6_init.2.2.2 = none := rfl
theorem tX6_init_0 : tbX6_init 0 = (.aload_n 0, 1, 0, 0, 0, 0, []) := rfl
theorem tX6_init_4 : tbX6_init 4 = (.aload_n 0, 5, 0, 0, 0, 0, []) := rfl
theorem tX6_init_8 : tbX6_init 8 = (.dup, 9, 0, 0, 0, 0, []) := rfl
theorem tX6_init_15 : tbX6_init 15 = (.aload_n 0, 16, 0, 0, 0, 0, []) := rfl
theorem tX6_init_19 : tbX6_init 19 = (.dup, 20, 0, 0, 0, 0, []) := rfl
theorem tX6_init_26 : tbX6_init 26 = (.aload_n 0, 27, 0, 0, 0, 0, []) := rfl
theorem tX6_init_30 : tbX6_init 30 = (.dup, 31, 0, 0, 0, 0, []) := rfl
theorem tX6_init_37 : tbX6_init 37 = (.aload_n 0, 38, 0, 0, 0, 0, []) := rfl
theorem tX6_init_41 : tbX6_init 41 = (.dup, 42, 0, 0, 0, 0, []) := rfl
theorem tX6_init_48 : tbX6_init 48 = (.return_, 49, 0, 0, 0, 0, []) := rfl
def ltX6_node : List (Nat × pm_E) := [(0, .aload_n 0, 1, 0, 0, 0, 0, []), (1, .getfield 22, 4, 6, 2, 0, 0, [(0, 0)]), (4, .aload_n 0, 5, 0, 0, 0, 0, []), (5, .getfield 12, 8, 6, 0, 0, 0, [(0, 0)]), (8, .invokevirtual 33, 11, 51, 1, 2, 0, []), (11, .aload_n 0, 12, 0, 0, 0, 0, []), (12, .getfield 22, 15, 6, 2, 0, 0, [(0, 0)]), (15, .aload_n 0, 16, 0, 0, 0, 0, []), (16, .getfield 12, 19, 6, 0, 0, 0, [(0, 0)]), (19, .iload_n 1, 20, 0, 0, 0, 0, []), (20, .iload_n 2, 21, 0, 0, 0, 0, []), (21, .invokevirtual 37, 24, 4, 2, 0, 0, []), (24, .invokevirtual 41, 27, 52, 1, 2, 0, []), (27, .ireturn, 28, 0, 0, 0, 0, [])]
def tbX6_node : Nat → pm_E := pm_lk ltX6_node
theorem okX6_node : ∀ pc, (tbX6_node pc).1 = .nop ∨ pm_ok mX6_node pw_Ms pc (tbX6_node pc) := pm_lk_ok (by decide +kernel)
theorem nr_X6_node : mX6_node.2.2.2 = (some .int) := rfl
theorem tX6_node_0 : tbX6_node 0 = (.aload_n 0, 1, 0, 0, 0, 0, []) := rfl
theorem tX6_node_1 : tbX6_node 1 = (.getfield 22, 4, 6, 2, 0, 0, [(0, 0)]) := rfl
theorem tX6_node_4 : tbX6_node 4 = (.aload_n 0, 5, 0, 0, 0, 0, []) := rfl
theorem tX6_node_5 : tbX6_node 5 = (.getfield 12, 8, 6, 0, 0, 0, [(0, 0)]) := rfl
theorem tX6_node_8 : tbX6_node 8 = (.invokevirtual 33, 11, 51, 1, 2, 0, []) := rfl
theorem tX6_node_11 : tbX6_node 11 = (.aload_n 0, 12, 0, 0, 0, 0, []) := rfl
theorem tX6_node_12 : tbX6_node 12 = (.getfield 22, 15, 6, 2, 0, 0, [(0, 0)]) := rfl
theorem tX6_node_15 : tbX6_node 15 = (.aload_n 0, 16, 0, 0, 0, 0, []) := rfl
theorem tX6_node_16 : tbX6_node 16 = (.getfield 12, 19, 6, 0, 0, 0, [(0, 0)]) := rfl
theorem tX6_node_19 : tbX6_node 19 = (.iload_n 1, 20, 0, 0, 0, 0, []) := rfl
theorem tX6_node_20 : tbX6_node 20 = (.iload_n 2, 21, 0, 0, 0, 0, []) := rfl
theorem tX6_node_21 : tbX6_node 21 = (.invokevirtual 37, 24, 4, 2, 0, 0, []) := rfl
theorem tX6_node_24 : tbX6_node 24 = (.invokevirtual 41, 27, 52, 1, 2, 0, []) := rfl
theorem tX6_node_27 : tbX6_node 27 = (.ireturn, 28, 0, 0, 0, 0, []) := rfl
def ltX6_line : List (Nat × pm_E) := [(0, .aload_n 0, 1, 0, 0, 0, 0, []), (1, .getfield 22, 4, 6, 2, 0, 0, [(0, 0)]), (4, .aload_n 0, 5, 0, 0, 0, 0, []), (5, .getfield 12, 8, 6, 0, 0, 0, [(0, 0)]), (8, .invokevirtual 33, 11, 51, 1, 2, 0, []), (11, .aload_n 0, 12, 0, 0, 0, 0, []), (12, .getfield 22, 15, 6, 2, 0, 0, [(0, 0)]), (15, .aload_n 0, 16, 0, 0, 0, 0, []), (16, .getfield 12, 19, 6, 0, 0, 0, [(0, 0)]), (19, .iload_n 1, 20, 0, 0, 0, 0, []), (20, .iload_n 2, 21, 0, 0, 0, 0, []), (21, .iload_n 3, 22, 0, 0, 0, 0, []), (22, .invokevirtual 45, 25, 5, 3, 0, 0, []), (25, .invokevirtual 41, 28, 52, 1, 2, 0, []), (28, .ireturn, 29, 0, 0, 0, 0, [])]
def tbX6_line : Nat → pm_E := pm_lk ltX6_line
theorem okX6_line : ∀ pc, (tbX6_line pc).1 = .nop ∨ pm_ok mX6_line pw_Ms pc (tbX6_line pc) := pm_lk_ok (by decide +kernel)
theorem nr_X6_line : mX6_line.2.2.2 = (some .int) := rfl
theorem tX6_line_0 : tbX6_line 0 = (.aload_n 0, 1, 0, 0, 0, 0, []) := rfl
theorem tX6_line_1 : tbX6_line 1 = (.getfield 22, 4, 6, 2, 0, 0, [(0, 0)]) := rfl
theorem tX6_line_4 : tbX6_line 4 = (.aload_n 0, 5, 0, 0, 0, 0, []) := rfl
theorem tX6_line_5 : tbX6_line 5 = (.getfield 12, 8, 6, 0, 0, 0, [(0, 0)]) := rfl
theorem tX6_line_8 : tbX6_line 8 = (.invokevirtual 33, 11, 51, 1, 2, 0, []) := rfl
theorem tX6_line_11 : tbX6_line 11 = (.aload_n 0, 12, 0, 0, 0, 0, []) := rfl
theorem tX6_line_12 : tbX6_line 12 = (.getfield 22, 15, 6, 2, 0, 0, [(0, 0)]) := rfl
theorem tX6_line_15 : tbX6_line 15 = (.aload_n 0, 16, 0, 0, 0, 0, []) := rfl
theorem tX6_line_16 : tbX6_line 16 = (.getfield 12, 19, 6, 0, 0, 0, [(0, 0)]) := rfl
theorem tX6_line_19 : tbX6_line 19 = (.iload_n 1, 20, 0, 0, 0, 0, []) := rfl
theorem tX6_line_20 : tbX6_line 20 = (.iload_n 2, 21, 0, 0, 0, 0, []) := rfl
theorem tX6_line_21 : tbX6_line 21 = (.iload_n 3, 22, 0, 0, 0, 0, []) := rfl
theorem tX6_line_22 : tbX6_line 22 = (.invokevirtual 45, 25, 5, 3, 0, 0, []) := rfl
theorem tX6_line_25 : tbX6_line 25 = (.invokevirtual 41, 28, 52, 1, 2, 0, []) := rfl
theorem tX6_line_28 : tbX6_line 28 = (.ireturn, 29, 0, 0, 0, 0, []) := rfl
def ltX6_mask : List (Nat × pm_E) := [(0, .aload_n 0, 1, 0, 0, 0, 0, []), (1, .getfield 22, 4, 6, 2, 0, 0, [(0, 0)]), (4, .aload_n 0, 5, 0, 0, 0, 0, []), (5, .getfield 12, 8, 6, 0, 0, 0, [(0, 0)]), (8, .invokevirtual 33, 11, 51, 1, 2, 0, []), (11, .aload_n 0, 12, 0, 0, 0, 0, []), (12, .getfield 22, 15, 6, 2, 0, 0, [(0, 0)]), (15, .aload_n 0, 16, 0, 0, 0, 0, []), (16, .getfield 12, 19, 6, 0, 0, 0, [(0, 0)]), (19, .iload_n 1, 20, 0, 0, 0, 0, []), (20, .iload_n 2, 21, 0, 0, 0, 0, []), (21, .invokevirtual 49, 24, 6, 2, 0, 0, []), (24, .invokevirtual 41, 27, 52, 1, 2, 0, []), (27, .ireturn, 28, 0, 0, 0, 0, [])]
def tbX6_mask : Nat → pm_E := pm_lk ltX6_mask
theorem okX6_mask : ∀ pc, (tbX6_mask pc).1 = .nop ∨ pm_ok mX6_mask pw_Ms pc (tbX6_mask pc) := pm_lk_ok (by decide +kernel)
theorem nr_X6_mask : mX6_mask.2.2.2 = (some .int) := rfl
theorem tX6_mask_0 : tbX6_mask 0 = (.aload_n 0, 1, 0, 0, 0, 0, []) := rfl
theorem tX6_mask_1 : tbX6_mask 1 = (.getfield 22, 4, 6, 2, 0, 0, [(0, 0)]) := rfl
theorem tX6_mask_4 : tbX6_mask 4 = (.aload_n 0, 5, 0, 0, 0, 0, []) := rfl
theorem tX6_mask_5 : tbX6_mask 5 = (.getfield 12, 8, 6, 0, 0, 0, [(0, 0)]) := rfl
theorem tX6_mask_8 : tbX6_mask 8 = (.invokevirtual 33, 11, 51, 1, 2, 0, []) := rfl
theorem tX6_mask_11 : tbX6_mask 11 = (.aload_n 0, 12, 0, 0, 0, 0, []) := rfl
theorem tX6_mask_12 : tbX6_mask 12 = (.getfield 22, 15, 6, 2, 0, 0, [(0, 0)]) := rfl
theorem tX6_mask_15 : tbX6_mask 15 = (.aload_n 0, 16, 0, 0, 0, 0, []) := rfl
theorem tX6_mask_16 : tbX6_mask 16 = (.getfield 12, 19, 6, 0, 0, 0, [(0, 0)]) := rfl
theorem tX6_mask_19 : tbX6_mask 19 = (.iload_n 1, 20, 0, 0, 0, 0, []) := rfl
theorem tX6_mask_20 : tbX6_mask 20 = (.iload_n 2, 21, 0, 0, 0, 0, []) := rfl
theorem tX6_mask_21 : tbX6_mask 21 = (.invokevirtual 49, 24, 6, 2, 0, 0, []) := rfl
theorem tX6_mask_24 : tbX6_mask 24 = (.invokevirtual 41, 27, 52, 1, 2, 0, []) := rfl
theorem tX6_mask_27 : tbX6_mask 27 = (.ireturn, 28, 0, 0, 0, 0, []) := rfl
def ltX6_maskNode : List (Nat × pm_E) := [(0, .aload_n 0, 1, 0, 0, 0, 0, []), (1, .getfield 22, 4, 6, 2, 0, 0, [(0, 0)]), (4, .aload_n 0, 5, 0, 0, 0, 0, []), (5, .getfield 12, 8, 6, 0, 0, 0, [(0, 0)]), (8, .invokevirtual 33, 11, 51, 1, 2, 0, []), (11, .aload_n 0, 12, 0, 0, 0, 0, []), (12, .getfield 22, 15, 6, 2, 0, 0, [(0, 0)]), (15, .aload_n 0, 16, 0, 0, 0, 0, []), (16, .getfield 12, 19, 6, 0, 0, 0, [(0, 0)]), (19, .iload_n 1, 20, 0, 0, 0, 0, []), (20, .iload_n 2, 21, 0, 0, 0, 0, []), (21, .invokevirtual 52, 24, 7, 2, 0, 0, []), (24, .invokevirtual 41, 27, 52, 1, 2, 0, []), (27, .ireturn, 28, 0, 0, 0, 0, [])]
def tbX6_maskNode : Nat → pm_E := pm_lk ltX6_maskNode
theorem okX6_maskNode : ∀ pc, (tbX6_maskNode pc).1 = .nop ∨ pm_ok mX6_maskNode pw_Ms pc (tbX6_maskNode pc) := pm_lk_ok (by decide +kernel)
theorem nr_X6_maskNode : mX6_maskNode.2.2.2 = (some .int) := rfl
theorem tX6_maskNode_0 : tbX6_maskNode 0 = (.aload_n 0, 1, 0, 0, 0, 0, []) := rfl
theorem tX6_maskNode_1 : tbX6_maskNode 1 = (.getfield 22, 4, 6, 2, 0, 0, [(0, 0)]) := rfl
theorem tX6_maskNode_4 : tbX6_maskNode 4 = (.aload_n 0, 5, 0, 0, 0, 0, []) := rfl
theorem tX6_maskNode_5 : tbX6_maskNode 5 = (.getfield 12, 8, 6, 0, 0, 0, [(0, 0)]) := rfl
theorem tX6_maskNode_8 : tbX6_maskNode 8 = (.invokevirtual 33, 11, 51, 1, 2, 0, []) := rfl
theorem tX6_maskNode_11 : tbX6_maskNode 11 = (.aload_n 0, 12, 0, 0, 0, 0, []) := rfl
theorem tX6_maskNode_12 : tbX6_maskNode 12 = (.getfield 22, 15, 6, 2, 0, 0, [(0, 0)]) := rfl
theorem tX6_maskNode_15 : tbX6_maskNode 15 = (.aload_n 0, 16, 0, 0, 0, 0, []) := rfl
theorem tX6_maskNode_16 : tbX6_maskNode 16 = (.getfield 12, 19, 6, 0, 0, 0, [(0, 0)]) := rfl
theorem tX6_maskNode_19 : tbX6_maskNode 19 = (.iload_n 1, 20, 0, 0, 0, 0, []) := rfl
theorem tX6_maskNode_20 : tbX6_maskNode 20 = (.iload_n 2, 21, 0, 0, 0, 0, []) := rfl
theorem tX6_maskNode_21 : tbX6_maskNode 21 = (.invokevirtual 52, 24, 7, 2, 0, 0, []) := rfl
theorem tX6_maskNode_24 : tbX6_maskNode 24 = (.invokevirtual 41, 27, 52, 1, 2, 0, []) := rfl
theorem tX6_maskNode_27 : tbX6_maskNode 27 = (.ireturn, 28, 0, 0, 0, 0, []) := rfl
def ltX6_threshold : List (Nat × pm_E) := [(0, .aload_n 0, 1, 0, 0, 0, 0, []), (1, .getfield 22, 4, 6, 2, 0, 0, [(0, 0)]), (4, .aload_n 0, 5, 0, 0, 0, 0, []), (5, .getfield 12, 8, 6, 0, 0, 0, [(0, 0)]), (8, .invokevirtual 33, 11, 51, 1, 2, 0, []), (11, .aload_n 0, 12, 0, 0, 0, 0, []), (12, .getfield 22, 15, 6, 2, 0, 0, [(0, 0)]), (15, .aload_n 0, 16, 0, 0, 0, 0, []), (16, .getfield 12, 19, 6, 0, 0, 0, [(0, 0)]), (19, .iload_n 1, 20, 0, 0, 0, 0, []), (20, .invokevirtual 55, 23, 8, 1, 0, 0, []), (23, .invokevirtual 41, 26, 52, 1, 2, 0, []), (26, .ireturn, 27, 0, 0, 0, 0, [])]
def tbX6_threshold : Nat → pm_E := pm_lk ltX6_threshold
theorem okX6_threshold : ∀ pc, (tbX6_threshold pc).1 = .nop ∨ pm_ok mX6_threshold pw_Ms pc (tbX6_threshold pc) := pm_lk_ok (by decide +kernel)
theorem nr_X6_threshold : mX6_threshold.2.2.2 = (some .int) := rfl
theorem tX6_threshold_0 : tbX6_threshold 0 = (.aload_n 0, 1, 0, 0, 0, 0, []) := rfl
theorem tX6_threshold_1 : tbX6_threshold 1 = (.getfield 22, 4, 6, 2, 0, 0, [(0, 0)]) := rfl
theorem tX6_threshold_4 : tbX6_threshold 4 = (.aload_n 0, 5, 0, 0, 0, 0, []) := rfl
theorem tX6_threshold_5 : tbX6_threshold 5 = (.getfield 12, 8, 6, 0, 0, 0, [(0, 0)]) := rfl
theorem tX6_threshold_8 : tbX6_threshold 8 = (.invokevirtual 33, 11, 51, 1, 2, 0, []) := rfl
theorem tX6_threshold_11 : tbX6_threshold 11 = (.aload_n 0, 12, 0, 0, 0, 0, []) := rfl
theorem tX6_threshold_12 : tbX6_threshold 12 = (.getfield 22, 15, 6, 2, 0, 0, [(0, 0)]) := rfl
theorem tX6_threshold_15 : tbX6_threshold 15 = (.aload_n 0, 16, 0, 0, 0, 0, []) := rfl
theorem tX6_threshold_16 : tbX6_threshold 16 = (.getfield 12, 19, 6, 0, 0, 0, [(0, 0)]) := rfl
theorem tX6_threshold_19 : tbX6_threshold 19 = (.iload_n 1, 20, 0, 0, 0, 0, []) := rfl
theorem tX6_threshold_20 : tbX6_threshold 20 = (.invokevirtual 55, 23, 8, 1, 0, 0, []) := rfl
theorem tX6_threshold_23 : tbX6_threshold 23 = (.invokevirtual 41, 26, 52, 1, 2, 0, []) := rfl
theorem tX6_threshold_26 : tbX6_threshold 26 = (.ireturn, 27, 0, 0, 0, 0, []) := rfl
def ltX6_late : List (Nat × pm_E) := [(0, .aload_n 0, 1, 0, 0, 0, 0, []), (1, .getfield 22, 4, 6, 2, 0, 0, [(0, 0)]), (4, .aload_n 0, 5, 0, 0, 0, 0, []), (5, .getfield 12, 8, 6, 0, 0, 0, [(0, 0)]), (8, .invokevirtual 33, 11, 51, 1, 2, 0, []), (11, .aload_n 0, 12, 0, 0, 0, 0, []), (12, .getfield 22, 15, 6, 2, 0, 0, [(0, 0)]), (15, .aload_n 0, 16, 0, 0, 0, 0, []), (16, .getfield 12, 19, 6, 0, 0, 0, [(0, 0)]), (19, .iload_n 1, 20, 0, 0, 0, 0, []), (20, .invokevirtual 58, 23, 9, 1, 0, 0, []), (23, .invokevirtual 41, 26, 52, 1, 2, 0, []), (26, .ireturn, 27, 0, 0, 0, 0, [])]
def tbX6_late : Nat → pm_E := pm_lk ltX6_late
theorem okX6_late : ∀ pc, (tbX6_late pc).1 = .nop ∨ pm_ok mX6_late pw_Ms pc (tbX6_late pc) := pm_lk_ok (by decide +kernel)
theorem nr_X6_late : mX6_late.2.2.2 = (some .int) := rfl
theorem tX6_late_0 : tbX6_late 0 = (.aload_n 0, 1, 0, 0, 0, 0, []) := rfl
theorem tX6_late_1 : tbX6_late 1 = (.getfield 22, 4, 6, 2, 0, 0, [(0, 0)]) := rfl
theorem tX6_late_4 : tbX6_late 4 = (.aload_n 0, 5, 0, 0, 0, 0, []) := rfl
theorem tX6_late_5 : tbX6_late 5 = (.getfield 12, 8, 6, 0, 0, 0, [(0, 0)]) := rfl
theorem tX6_late_8 : tbX6_late 8 = (.invokevirtual 33, 11, 51, 1, 2, 0, []) := rfl
theorem tX6_late_11 : tbX6_late 11 = (.aload_n 0, 12, 0, 0, 0, 0, []) := rfl
theorem tX6_late_12 : tbX6_late 12 = (.getfield 22, 15, 6, 2, 0, 0, [(0, 0)]) := rfl
theorem tX6_late_15 : tbX6_late 15 = (.aload_n 0, 16, 0, 0, 0, 0, []) := rfl
theorem tX6_late_16 : tbX6_late 16 = (.getfield 12, 19, 6, 0, 0, 0, [(0, 0)]) := rfl
theorem tX6_late_19 : tbX6_late 19 = (.iload_n 1, 20, 0, 0, 0, 0, []) := rfl
theorem tX6_late_20 : tbX6_late 20 = (.invokevirtual 58, 23, 9, 1, 0, 0, []) := rfl
theorem tX6_late_23 : tbX6_late 23 = (.invokevirtual 41, 26, 52, 1, 2, 0, []) := rfl
theorem tX6_late_26 : tbX6_late 26 = (.ireturn, 27, 0, 0, 0, 0, []) := rfl
def ltX6_lineOf : List (Nat × pm_E) := [(0, .aload_n 0, 1, 0, 0, 0, 0, []), (1, .getfield 12, 4, 6, 0, 0, 0, [(0, 0)]), (4, .iload_n 1, 5, 0, 0, 0, 0, []), (5, .iload_n 2, 6, 0, 0, 0, 0, []), (6, .invokevirtual 61, 9, 30, 2, 0, 0, []), (9, .ireturn, 10, 0, 0, 0, 0, [])]
def tbX6_lineOf : Nat → pm_E := pm_lk ltX6_lineOf
theorem okX6_lineOf : ∀ pc, (tbX6_lineOf pc).1 = .nop ∨ pm_ok mX6_lineOf pw_Ms pc (tbX6_lineOf pc) := pm_lk_ok (by decide +kernel)
theorem nr_X6_lineOf : mX6_lineOf.2.2.2 = (some .int) := rfl
theorem tX6_lineOf_0 : tbX6_lineOf 0 = (.aload_n 0, 1, 0, 0, 0, 0, []) := rfl
theorem tX6_lineOf_1 : tbX6_lineOf 1 = (.getfield 12, 4, 6, 0, 0, 0, [(0, 0)]) := rfl
theorem tX6_lineOf_4 : tbX6_lineOf 4 = (.iload_n 1, 5, 0, 0, 0, 0, []) := rfl
theorem tX6_lineOf_5 : tbX6_lineOf 5 = (.iload_n 2, 6, 0, 0, 0, 0, []) := rfl
theorem tX6_lineOf_6 : tbX6_lineOf 6 = (.invokevirtual 61, 9, 30, 2, 0, 0, []) := rfl
theorem tX6_lineOf_9 : tbX6_lineOf 9 = (.ireturn, 10, 0, 0, 0, 0, []) := rfl
def ltX6_nodeOf : List (Nat × pm_E) := [(0, .aload_n 0, 1, 0, 0, 0, 0, []), (1, .getfield 12, 4, 6, 0, 0, 0, [(0, 0)]), (4, .iload_n 1, 5, 0, 0, 0, 0, []), (5, .iload_n 2, 6, 0, 0, 0, 0, []), (6, .invokevirtual 64, 9, 31, 2, 0, 0, []), (9, .ireturn, 10, 0, 0, 0, 0, [])]
def tbX6_nodeOf : Nat → pm_E := pm_lk ltX6_nodeOf
theorem okX6_nodeOf : ∀ pc, (tbX6_nodeOf pc).1 = .nop ∨ pm_ok mX6_nodeOf pw_Ms pc (tbX6_nodeOf pc) := pm_lk_ok (by decide +kernel)
theorem nr_X6_nodeOf : mX6_nodeOf.2.2.2 = (some .int) := rfl
theorem tX6_nodeOf_0 : tbX6_nodeOf 0 = (.aload_n 0, 1, 0, 0, 0, 0, []) := rfl
theorem tX6_nodeOf_1 : tbX6_nodeOf 1 = (.getfield 12, 4, 6, 0, 0, 0, [(0, 0)]) := rfl
theorem tX6_nodeOf_4 : tbX6_nodeOf 4 = (.iload_n 1, 5, 0, 0, 0, 0, []) := rfl
theorem tX6_nodeOf_5 : tbX6_nodeOf 5 = (.iload_n 2, 6, 0, 0, 0, 0, []) := rfl
theorem tX6_nodeOf_6 : tbX6_nodeOf 6 = (.invokevirtual 64, 9, 31, 2, 0, 0, []) := rfl
theorem tX6_nodeOf_9 : tbX6_nodeOf 9 = (.ireturn, 10, 0, 0, 0, 0, []) := rfl
def ltX6_inputAt : List (Nat × pm_E) := [(0, .aload_n 0, 1, 0, 0, 0, 0, []), (1, .getfield 12, 4, 6, 0, 0, 0, [(0, 0)]), (4, .iload_n 1, 5, 0, 0, 0, 0, []), (5, .iload_n 2, 6, 0, 0, 0, 0, []), (6, .invokevirtual 67, 9, 32, 2, 0, 0, []), (9, .ireturn, 10, 0, 0, 0, 0, [])]
def tbX6_inputAt : Nat → pm_E := pm_lk ltX6_inputAt
theorem okX6_inputAt : ∀ pc, (tbX6_inputAt pc).1 = .nop ∨ pm_ok mX6_inputAt pw_Ms pc (tbX6_inputAt pc) := pm_lk_ok (by decide +kernel)
theorem nr_X6_inputAt : mX6_inputAt.2.2.2 = (some .int) := rfl
theorem tX6_inputAt_0 : tbX6_inputAt 0 = (.aload_n 0, 1, 0, 0, 0, 0, []) := rfl
theorem tX6_inputAt_1 : tbX6_inputAt 1 = (.getfield 12, 4, 6, 0, 0, 0, [(0, 0)]) := rfl
theorem tX6_inputAt_4 : tbX6_inputAt 4 = (.iload_n 1, 5, 0, 0, 0, 0, []) := rfl
theorem tX6_inputAt_5 : tbX6_inputAt 5 = (.iload_n 2, 6, 0, 0, 0, 0, []) := rfl
theorem tX6_inputAt_6 : tbX6_inputAt 6 = (.invokevirtual 67, 9, 32, 2, 0, 0, []) := rfl
theorem tX6_inputAt_9 : tbX6_inputAt 9 = (.ireturn, 10, 0, 0, 0, 0, []) := rfl
def ltX6_edge : List (Nat × pm_E) := [(0, .aload_n 0, 1, 0, 0, 0, 0, []), (1, .getfield 22, 4, 6, 2, 0, 0, [(0, 0)]), (4, .aload_n 0, 5, 0, 0, 0, 0, []), (5, .getfield 12, 8, 6, 0, 0, 0, [(0, 0)]), (8, .invokevirtual 33, 11, 51, 1, 2, 0, []), (11, .aload_n 0, 12, 0, 0, 0, 0, []), (12, .getfield 22, 15, 6, 2, 0, 0, [(0, 0)]), (15, .aload_n 0, 16, 0, 0, 0, 0, []), (16, .getfield 12, 19, 6, 0, 0, 0, [(0, 0)]), (19, .iload_n 1, 20, 0, 0, 0, 0, []), (20, .invokevirtual 70, 23, 10, 1, 0, 0, []), (23, .invokevirtual 41, 26, 52, 1, 2, 0, []), (26, .ireturn, 27, 0, 0, 0, 0, [])]
def tbX6_edge : Nat → pm_E := pm_lk ltX6_edge
theorem okX6_edge : ∀ pc, (tbX6_edge pc).1 = .nop ∨ pm_ok mX6_edge pw_Ms pc (tbX6_edge pc) := pm_lk_ok (by decide +kernel)
theorem nr_X6_edge : mX6_edge.2.2.2 = (some .int) := rfl
theorem tX6_edge_0 : tbX6_edge 0 = (.aload_n 0, 1, 0, 0, 0, 0, []) := rfl
theorem tX6_edge_1 : tbX6_edge 1 = (.getfield 22, 4, 6, 2, 0, 0, [(0, 0)]) := rfl
theorem tX6_edge_4 : tbX6_edge 4 = (.aload_n 0, 5, 0, 0, 0, 0, []) := rfl
theorem tX6_edge_5 : tbX6_edge 5 = (.getfield 12, 8, 6, 0, 0, 0, [(0, 0)]) := rfl
theorem tX6_edge_8 : tbX6_edge 8 = (.invokevirtual 33, 11, 51, 1, 2, 0, []) := rfl
theorem tX6_edge_11 : tbX6_edge 11 = (.aload_n 0, 12, 0, 0, 0, 0, []) := rfl
theorem tX6_edge_12 : tbX6_edge 12 = (.getfield 22, 15, 6, 2, 0, 0, [(0, 0)]) := rfl
theorem tX6_edge_15 : tbX6_edge 15 = (.aload_n 0, 16, 0, 0, 0, 0, []) := rfl
theorem tX6_edge_16 : tbX6_edge 16 = (.getfield 12, 19, 6, 0, 0, 0, [(0, 0)]) := rfl
theorem tX6_edge_19 : tbX6_edge 19 = (.iload_n 1, 20, 0, 0, 0, 0, []) := rfl
theorem tX6_edge_20 : tbX6_edge 20 = (.invokevirtual 70, 23, 10, 1, 0, 0, []) := rfl
theorem tX6_edge_23 : tbX6_edge 23 = (.invokevirtual 41, 26, 52, 1, 2, 0, []) := rfl
theorem tX6_edge_26 : tbX6_edge 26 = (.ireturn, 27, 0, 0, 0, 0, []) := rfl
def ltX6_level : List (Nat × pm_E) := [(0, .aload_n 0, 1, 0, 0, 0, 0, []), (1, .getfield 22, 4, 6, 2, 0, 0, [(0, 0)]), (4, .aload_n 0, 5, 0, 0, 0, 0, []), (5, .getfield 12, 8, 6, 0, 0, 0, [(0, 0)]), (8, .invokevirtual 33, 11, 51, 1, 2, 0, []), (11, .aload_n 0, 12, 0, 0, 0, 0, []), (12, .getfield 22, 15, 6, 2, 0, 0, [(0, 0)]), (15, .aload_n 0, 16, 0, 0, 0, 0, []), (16, .getfield 12, 19, 6, 0, 0, 0, [(0, 0)]), (19, .iload_n 1, 20, 0, 0, 0, 0, []), (20, .iload_n 2, 21, 0, 0, 0, 0, []), (21, .invokevirtual 73, 24, 11, 2, 0, 0, []), (24, .invokevirtual 41, 27, 52, 1, 2, 0, []), (27, .ireturn, 28, 0, 0, 0, 0, [])]
def tbX6_level : Nat → pm_E := pm_lk ltX6_level
theorem okX6_level : ∀ pc, (tbX6_level pc).1 = .nop ∨ pm_ok mX6_level pw_Ms pc (tbX6_level pc) := pm_lk_ok (by decide +kernel)
theorem nr_X6_level : mX6_level.2.2.2 = (some .int) := rfl
theorem tX6_level_0 : tbX6_level 0 = (.aload_n 0, 1, 0, 0, 0, 0, []) := rfl
theorem tX6_level_1 : tbX6_level 1 = (.getfield 22, 4, 6, 2, 0, 0, [(0, 0)]) := rfl
theorem tX6_level_4 : tbX6_level 4 = (.aload_n 0, 5, 0, 0, 0, 0, []) := rfl
theorem tX6_level_5 : tbX6_level 5 = (.getfield 12, 8, 6, 0, 0, 0, [(0, 0)]) := rfl
theorem tX6_level_8 : tbX6_level 8 = (.invokevirtual 33, 11, 51, 1, 2, 0, []) := rfl
theorem tX6_level_11 : tbX6_level 11 = (.aload_n 0, 12, 0, 0, 0, 0, []) := rfl
theorem tX6_level_12 : tbX6_level 12 = (.getfield 22, 15, 6, 2, 0, 0, [(0, 0)]) := rfl
theorem tX6_level_15 : tbX6_level 15 = (.aload_n 0, 16, 0, 0, 0, 0, []) := rfl
theorem tX6_level_16 : tbX6_level 16 = (.getfield 12, 19, 6, 0, 0, 0, [(0, 0)]) := rfl
theorem tX6_level_19 : tbX6_level 19 = (.iload_n 1, 20, 0, 0, 0, 0, []) := rfl
theorem tX6_level_20 : tbX6_level 20 = (.iload_n 2, 21, 0, 0, 0, 0, []) := rfl
theorem tX6_level_21 : tbX6_level 21 = (.invokevirtual 73, 24, 11, 2, 0, 0, []) := rfl
theorem tX6_level_24 : tbX6_level 24 = (.invokevirtual 41, 27, 52, 1, 2, 0, []) := rfl
theorem tX6_level_27 : tbX6_level 27 = (.ireturn, 28, 0, 0, 0, 0, []) := rfl
def ltX6_take : List (Nat × pm_E) := [(0, .aload_n 0, 1, 0, 0, 0, 0, []), (1, .getfield 22, 4, 6, 2, 0, 0, [(0, 0)]), (4, .aload_n 0, 5, 0, 0, 0, 0, []), (5, .getfield 12, 8, 6, 0, 0, 0, [(0, 0)]), (8, .invokevirtual 33, 11, 51, 1, 2, 0, []), (11, .aload_n 0, 12, 0, 0, 0, 0, []), (12, .getfield 22, 15, 6, 2, 0, 0, [(0, 0)]), (15, .aload_n 0, 16, 0, 0, 0, 0, []), (16, .getfield 12, 19, 6, 0, 0, 0, [(0, 0)]), (19, .invokevirtual 76, 22, 12, 0, 0, 0, []), (22, .invokevirtual 41, 25, 52, 1, 2, 0, []), (25, .ireturn, 26, 0, 0, 0, 0, [])]
def tbX6_take : Nat → pm_E := pm_lk ltX6_take
theorem okX6_take : ∀ pc, (tbX6_take pc).1 = .nop ∨ pm_ok mX6_take pw_Ms pc (tbX6_take pc) := pm_lk_ok (by decide +kernel)
theorem nr_X6_take : mX6_take.2.2.2 = (some .int) := rfl
theorem tX6_take_0 : tbX6_take 0 = (.aload_n 0, 1, 0, 0, 0, 0, []) := rfl
theorem tX6_take_1 : tbX6_take 1 = (.getfield 22, 4, 6, 2, 0, 0, [(0, 0)]) := rfl
theorem tX6_take_4 : tbX6_take 4 = (.aload_n 0, 5, 0, 0, 0, 0, []) := rfl
theorem tX6_take_5 : tbX6_take 5 = (.getfield 12, 8, 6, 0, 0, 0, [(0, 0)]) := rfl
theorem tX6_take_8 : tbX6_take 8 = (.invokevirtual 33, 11, 51, 1, 2, 0, []) := rfl
theorem tX6_take_11 : tbX6_take 11 = (.aload_n 0, 12, 0, 0, 0, 0, []) := rfl
theorem tX6_take_12 : tbX6_take 12 = (.getfield 22, 15, 6, 2, 0, 0, [(0, 0)]) := rfl
theorem tX6_take_15 : tbX6_take 15 = (.aload_n 0, 16, 0, 0, 0, 0, []) := rfl
theorem tX6_take_16 : tbX6_take 16 = (.getfield 12, 19, 6, 0, 0, 0, [(0, 0)]) := rfl
theorem tX6_take_19 : tbX6_take 19 = (.invokevirtual 76, 22, 12, 0, 0, 0, []) := rfl
theorem tX6_take_22 : tbX6_take 22 = (.invokevirtual 41, 25, 52, 1, 2, 0, []) := rfl
theorem tX6_take_25 : tbX6_take 25 = (.ireturn, 26, 0, 0, 0, 0, []) := rfl
def ltX6_done : List (Nat × pm_E) := [(0, .aload_n 0, 1, 0, 0, 0, 0, []), (1, .getfield 22, 4, 6, 2, 0, 0, [(0, 0)]), (4, .aload_n 0, 5, 0, 0, 0, 0, []), (5, .getfield 12, 8, 6, 0, 0, 0, [(0, 0)]), (8, .invokevirtual 33, 11, 51, 1, 2, 0, []), (11, .aload_n 0, 12, 0, 0, 0, 0, []), (12, .getfield 22, 15, 6, 2, 0, 0, [(0, 0)]), (15, .aload_n 0, 16, 0, 0, 0, 0, []), (16, .getfield 12, 19, 6, 0, 0, 0, [(0, 0)]), (19, .invokevirtual 80, 22, 13, 0, 0, 0, []), (22, .invokevirtual 41, 25, 52, 1, 2, 0, []), (25, .ireturn, 26, 0, 0, 0, 0, [])]
def tbX6_done : Nat → pm_E := pm_lk ltX6_done
theorem okX6_done : ∀ pc, (tbX6_done pc).1 = .nop ∨ pm_ok mX6_done pw_Ms pc (tbX6_done pc) := pm_lk_ok (by decide +kernel)
theorem nr_X6_done : mX6_done.2.2.2 = (some .int) := rfl
theorem tX6_done_0 : tbX6_done 0 = (.aload_n 0, 1, 0, 0, 0, 0, []) := rfl
theorem tX6_done_1 : tbX6_done 1 = (.getfield 22, 4, 6, 2, 0, 0, [(0, 0)]) := rfl
theorem tX6_done_4 : tbX6_done 4 = (.aload_n 0, 5, 0, 0, 0, 0, []) := rfl
theorem tX6_done_5 : tbX6_done 5 = (.getfield 12, 8, 6, 0, 0, 0, [(0, 0)]) := rfl
theorem tX6_done_8 : tbX6_done 8 = (.invokevirtual 33, 11, 51, 1, 2, 0, []) := rfl
theorem tX6_done_11 : tbX6_done 11 = (.aload_n 0, 12, 0, 0, 0, 0, []) := rfl
theorem tX6_done_12 : tbX6_done 12 = (.getfield 22, 15, 6, 2, 0, 0, [(0, 0)]) := rfl
theorem tX6_done_15 : tbX6_done 15 = (.aload_n 0, 16, 0, 0, 0, 0, []) := rfl
theorem tX6_done_16 : tbX6_done 16 = (.getfield 12, 19, 6, 0, 0, 0, [(0, 0)]) := rfl
theorem tX6_done_19 : tbX6_done 19 = (.invokevirtual 80, 22, 13, 0, 0, 0, []) := rfl
theorem tX6_done_22 : tbX6_done 22 = (.invokevirtual 41, 25, 52, 1, 2, 0, []) := rfl
theorem tX6_done_25 : tbX6_done 25 = (.ireturn, 26, 0, 0, 0, 0, []) := rfl
def ltX6_tick : List (Nat × pm_E) := [(0, .aload_n 0, 1, 0, 0, 0, 0, []), (1, .getfield 22, 4, 6, 2, 0, 0, [(0, 0)]), (4, .aload_n 0, 5, 0, 0, 0, 0, []), (5, .getfield 12, 8, 6, 0, 0, 0, [(0, 0)]), (8, .invokevirtual 33, 11, 51, 1, 2, 0, []), (11, .aload_n 0, 12, 0, 0, 0, 0, []), (12, .getfield 22, 15, 6, 2, 0, 0, [(0, 0)]), (15, .aload_n 0, 16, 0, 0, 0, 0, []), (16, .getfield 12, 19, 6, 0, 0, 0, [(0, 0)]), (19, .iload_n 1, 20, 0, 0, 0, 0, []), (20, .invokevirtual 83, 23, 14, 1, 0, 0, []), (23, .invokevirtual 41, 26, 52, 1, 2, 0, []), (26, .ireturn, 27, 0, 0, 0, 0, [])]
def tbX6_tick : Nat → pm_E := pm_lk ltX6_tick
theorem okX6_tick : ∀ pc, (tbX6_tick pc).1 = .nop ∨ pm_ok mX6_tick pw_Ms pc (tbX6_tick pc) := pm_lk_ok (by decide +kernel)
theorem nr_X6_tick : mX6_tick.2.2.2 = (some .int) := rfl
theorem tX6_tick_0 : tbX6_tick 0 = (.aload_n 0, 1, 0, 0, 0, 0, []) := rfl
theorem tX6_tick_1 : tbX6_tick 1 = (.getfield 22, 4, 6, 2, 0, 0, [(0, 0)]) := rfl
theorem tX6_tick_4 : tbX6_tick 4 = (.aload_n 0, 5, 0, 0, 0, 0, []) := rfl
theorem tX6_tick_5 : tbX6_tick 5 = (.getfield 12, 8, 6, 0, 0, 0, [(0, 0)]) := rfl
theorem tX6_tick_8 : tbX6_tick 8 = (.invokevirtual 33, 11, 51, 1, 2, 0, []) := rfl
theorem tX6_tick_11 : tbX6_tick 11 = (.aload_n 0, 12, 0, 0, 0, 0, []) := rfl
theorem tX6_tick_12 : tbX6_tick 12 = (.getfield 22, 15, 6, 2, 0, 0, [(0, 0)]) := rfl
theorem tX6_tick_15 : tbX6_tick 15 = (.aload_n 0, 16, 0, 0, 0, 0, []) := rfl
theorem tX6_tick_16 : tbX6_tick 16 = (.getfield 12, 19, 6, 0, 0, 0, [(0, 0)]) := rfl
theorem tX6_tick_19 : tbX6_tick 19 = (.iload_n 1, 20, 0, 0, 0, 0, []) := rfl
theorem tX6_tick_20 : tbX6_tick 20 = (.invokevirtual 83, 23, 14, 1, 0, 0, []) := rfl
theorem tX6_tick_23 : tbX6_tick 23 = (.invokevirtual 41, 26, 52, 1, 2, 0, []) := rfl
theorem tX6_tick_26 : tbX6_tick 26 = (.ireturn, 27, 0, 0, 0, 0, []) := rfl
def ltX6_next : List (Nat × pm_E) := [(0, .aload_n 0, 1, 0, 0, 0, 0, []), (1, .getfield 12, 4, 6, 0, 0, 0, [(0, 0)]), (4, .invokevirtual 86, 7, 18, 0, 0, 0, []), (7, .istore_n 1, 8, 0, 0, 0, 0, []), (8, .iload_n 1, 9, 0, 0, 0, 0, []), (9, .iconst (-1), 10, 0, 0, 0, -1, []), (10, .if_icmp .ne 8, 13, 18, 0, 0, 0, []), (13, .bipush (-4), 15, 0, 0, 0, -4, []), (15, .goto 4, 18, 19, 0, 0, 0, []), (18, .iload_n 1, 19, 0, 0, 0, 0, []), (19, .ireturn, 20, 0, 0, 0, 0, [])]
def tbX6_next : Nat → pm_E := pm_lk ltX6_next
theorem okX6_next : ∀ pc, (tbX6_next pc).1 = .nop ∨ pm_ok mX6_next pw_Ms pc (tbX6_next pc) := pm_lk_ok (by decide +kernel)
theorem nr_X6_next : mX6_next.2.2.2 = (some .int) := rfl
theorem tX6_next_0 : tbX6_next 0 = (.aload_n 0, 1, 0, 0, 0, 0, []) := rfl
theorem tX6_next_1 : tbX6_next 1 = (.getfield 12, 4, 6, 0, 0, 0, [(0, 0)]) := rfl
theorem tX6_next_4 : tbX6_next 4 = (.invokevirtual 86, 7, 18, 0, 0, 0, []) := rfl
theorem tX6_next_7 : tbX6_next 7 = (.istore_n 1, 8, 0, 0, 0, 0, []) := rfl
theorem tX6_next_8 : tbX6_next 8 = (.iload_n 1, 9, 0, 0, 0, 0, []) := rfl
theorem tX6_next_9 : tbX6_next 9 = (.iconst (-1), 10, 0, 0, 0, -1, []) := rfl
theorem tX6_next_10 : tbX6_next 10 = (.if_icmp .ne 8, 13, 18, 0, 0, 0, []) := rfl
theorem tX6_next_13 : tbX6_next 13 = (.bipush (-4), 15, 0, 0, 0, -4, []) := rfl
theorem tX6_next_15 : tbX6_next 15 = (.goto 4, 18, 19, 0, 0, 0, []) := rfl
theorem tX6_next_18 : tbX6_next 18 = (.iload_n 1, 19, 0, 0, 0, 0, []) := rfl
theorem tX6_next_19 : tbX6_next 19 = (.ireturn, 20, 0, 0, 0, 0, []) := rfl
def ltX6_orderAt : List (Nat × pm_E) := [(0, .iload_n 1, 1, 0, 0, 0, 0, []), (1, .ifCond .ge 5, 4, 6, 0, 0, 0, []), (4, .iconst (-1), 5, 0, 0, 0, -1, []), (5, .ireturn, 6, 0, 0, 0, 0, []), (6, .iload_n 1, 7, 0, 0, 0, 0, []), (7, .bipush 16, 9, 0, 0, 0, 16, []), (9, .if_icmp .lt 6, 12, 15, 0, 0, 0, []), (12, .bipush (-4), 14, 0, 0, 0, -4, []), (14, .ireturn, 15, 0, 0, 0, 0, []), (15, .aload_n 0, 16, 0, 0, 0, 0, []), (16, .getfield 16, 19, 6, 1, 0, 0, [(0, 0)]), (19, .aload_n 0, 20, 0, 0, 0, 0, []), (20, .getfield 12, 23, 6, 0, 0, 0, [(0, 0)]), (23, .invokevirtual 89, 26, 1, 1, 0, 0, []), (26, .iconst 0, 27, 0, 0, 0, 0, []), (27, .istore_n 2, 28, 0, 0, 0, 0, []), (28, .iload_n 2, 29, 0, 0, 0, 0, []), (29, .iload_n 1, 30, 0, 0, 0, 0, []), (30, .if_icmp .ge 23, 33, 53, 0, 0, 0, []), (33, .aload_n 0, 34, 0, 0, 0, 0, []), (34, .getfield 16, 37, 6, 1, 0, 0, [(0, 0)]), (37, .aload_n 0, 38, 0, 0, 0, 0, []), (38, .getfield 16, 41, 6, 1, 0, 0, [(0, 0)]), (41, .invokevirtual 86, 44, 18, 0, 0, 0, []), (44, .invokevirtual 92, 47, 19, 1, 0, 0, []), (47, .iinc 2 1, 50, 0, 0, 0, 1, []), (50, .goto (-22), 53, 28, 0, 0, 0, []), (53, .aload_n 0, 54, 0, 0, 0, 0, []), (54, .getfield 16, 57, 6, 1, 0, 0, [(0, 0)]), (57, .invokevirtual 86, 60, 18, 0, 0, 0, []), (60, .istore_n 2, 61, 0, 0, 0, 0, []), (61, .iload_n 2, 62, 0, 0, 0, 0, []), (62, .iconst (-1), 63, 0, 0, 0, -1, []), (63, .if_icmp .ne 8, 66, 71, 0, 0, 0, []), (66, .bipush (-4), 68, 0, 0, 0, -4, []), (68, .goto 4, 71, 72, 0, 0, 0, []), (71, .iload_n 2, 72, 0, 0, 0, 0, []), (72, .ireturn, 73, 0, 0, 0, 0, [])]
def tbX6_orderAt : Nat → pm_E := pm_lk ltX6_orderAt
theorem okX6_orderAt : ∀ pc, (tbX6_orderAt pc).1 = .nop ∨ pm_ok mX6_orderAt pw_Ms pc (tbX6_orderAt pc) := pm_lk_ok (by decide +kernel)
theorem nr_X6_orderAt : mX6_orderAt.2.2.2 = (some .int) := rfl
theorem tX6_orderAt_0 : tbX6_orderAt 0 = (.iload_n 1, 1, 0, 0, 0, 0, []) := rfl
theorem tX6_orderAt_1 : tbX6_orderAt 1 = (.ifCond .ge 5, 4, 6, 0, 0, 0, []) := rfl
theorem tX6_orderAt_4 : tbX6_orderAt 4 = (.iconst (-1), 5, 0, 0, 0, -1, []) := rfl
theorem tX6_orderAt_5 : tbX6_orderAt 5 = (.ireturn, 6, 0, 0, 0, 0, []) := rfl
theorem tX6_orderAt_6 : tbX6_orderAt 6 = (.iload_n 1, 7, 0, 0, 0, 0, []) := rfl
theorem tX6_orderAt_7 : tbX6_orderAt 7 = (.bipush 16, 9, 0, 0, 0, 16, []) := rfl
theorem tX6_orderAt_9 : tbX6_orderAt 9 = (.if_icmp .lt 6, 12, 15, 0, 0, 0, []) := rfl
theorem tX6_orderAt_12 : tbX6_orderAt 12 = (.bipush (-4), 14, 0, 0, 0, -4, []) := rfl
theorem tX6_orderAt_14 : tbX6_orderAt 14 = (.ireturn, 15, 0, 0, 0, 0, []) := rfl
theorem tX6_orderAt_15 : tbX6_orderAt 15 = (.aload_n 0, 16, 0, 0, 0, 0, []) := rfl
theorem tX6_orderAt_16 : tbX6_orderAt 16 = (.getfield 16, 19, 6, 1, 0, 0, [(0, 0)]) := rfl
theorem tX6_orderAt_19 : tbX6_orderAt 19 = (.aload_n 0, 20, 0, 0, 0, 0, []) := rfl
theorem tX6_orderAt_20 : tbX6_orderAt 20 = (.getfield 12, 23, 6, 0, 0, 0, [(0, 0)]) := rfl
theorem tX6_orderAt_23 : tbX6_orderAt 23 = (.invokevirtual 89, 26, 1, 1, 0, 0, []) := rfl
theorem tX6_orderAt_26 : tbX6_orderAt 26 = (.iconst 0, 27, 0, 0, 0, 0, []) := rfl
theorem tX6_orderAt_27 : tbX6_orderAt 27 = (.istore_n 2, 28, 0, 0, 0, 0, []) := rfl
theorem tX6_orderAt_28 : tbX6_orderAt 28 = (.iload_n 2, 29, 0, 0, 0, 0, []) := rfl
theorem tX6_orderAt_29 : tbX6_orderAt 29 = (.iload_n 1, 30, 0, 0, 0, 0, []) := rfl
theorem tX6_orderAt_30 : tbX6_orderAt 30 = (.if_icmp .ge 23, 33, 53, 0, 0, 0, []) := rfl
theorem tX6_orderAt_33 : tbX6_orderAt 33 = (.aload_n 0, 34, 0, 0, 0, 0, []) := rfl
theorem tX6_orderAt_34 : tbX6_orderAt 34 = (.getfield 16, 37, 6, 1, 0, 0, [(0, 0)]) := rfl
theorem tX6_orderAt_37 : tbX6_orderAt 37 = (.aload_n 0, 38, 0, 0, 0, 0, []) := rfl
theorem tX6_orderAt_38 : tbX6_orderAt 38 = (.getfield 16, 41, 6, 1, 0, 0, [(0, 0)]) := rfl
theorem tX6_orderAt_41 : tbX6_orderAt 41 = (.invokevirtual 86, 44, 18, 0, 0, 0, []) := rfl
theorem tX6_orderAt_44 : tbX6_orderAt 44 = (.invokevirtual 92, 47, 19, 1, 0, 0, []) := rfl
theorem tX6_orderAt_47 : tbX6_orderAt 47 = (.iinc 2 1, 50, 0, 0, 0, 1, []) := rfl
theorem tX6_orderAt_50 : tbX6_orderAt 50 = (.goto (-22), 53, 28, 0, 0, 0, []) := rfl
theorem tX6_orderAt_53 : tbX6_orderAt 53 = (.aload_n 0, 54, 0, 0, 0, 0, []) := rfl
theorem tX6_orderAt_54 : tbX6_orderAt 54 = (.getfield 16, 57, 6, 1, 0, 0, [(0, 0)]) := rfl
theorem tX6_orderAt_57 : tbX6_orderAt 57 = (.invokevirtual 86, 60, 18, 0, 0, 0, []) := rfl
theorem tX6_orderAt_60 : tbX6_orderAt 60 = (.istore_n 2, 61, 0, 0, 0, 0, []) := rfl
theorem tX6_orderAt_61 : tbX6_orderAt 61 = (.iload_n 2, 62, 0, 0, 0, 0, []) := rfl
theorem tX6_orderAt_62 : tbX6_orderAt 62 = (.iconst (-1), 63, 0, 0, 0, -1, []) := rfl
theorem tX6_orderAt_63 : tbX6_orderAt 63 = (.if_icmp .ne 8, 66, 71, 0, 0, 0, []) := rfl
theorem tX6_orderAt_66 : tbX6_orderAt 66 = (.bipush (-4), 68, 0, 0, 0, -4, []) := rfl
theorem tX6_orderAt_68 : tbX6_orderAt 68 = (.goto 4, 71, 72, 0, 0, 0, []) := rfl
theorem tX6_orderAt_71 : tbX6_orderAt 71 = (.iload_n 2, 72, 0, 0, 0, 0, []) := rfl
theorem tX6_orderAt_72 : tbX6_orderAt 72 = (.ireturn, 73, 0, 0, 0, 0, []) := rfl
def ltX6_serviceAt : List (Nat × pm_E) := [(0, .aload_n 0, 1, 0, 0, 0, 0, []), (1, .getfield 12, 4, 6, 0, 0, 0, [(0, 0)]), (4, .iload_n 1, 5, 0, 0, 0, 0, []), (5, .invokevirtual 96, 8, 33, 1, 0, 0, []), (8, .ireturn, 9, 0, 0, 0, 0, [])]
def tbX6_serviceAt : Nat → pm_E := pm_lk ltX6_serviceAt
theorem okX6_serviceAt : ∀ pc, (tbX6_serviceAt pc).1 = .nop ∨ pm_ok mX6_serviceAt pw_Ms pc (tbX6_serviceAt pc) := pm_lk_ok (by decide +kernel)
theorem nr_X6_serviceAt : mX6_serviceAt.2.2.2 = (some .int) := rfl
theorem tX6_serviceAt_0 : tbX6_serviceAt 0 = (.aload_n 0, 1, 0, 0, 0, 0, []) := rfl
theorem tX6_serviceAt_1 : tbX6_serviceAt 1 = (.getfield 12, 4, 6, 0, 0, 0, [(0, 0)]) := rfl
theorem tX6_serviceAt_4 : tbX6_serviceAt 4 = (.iload_n 1, 5, 0, 0, 0, 0, []) := rfl
theorem tX6_serviceAt_5 : tbX6_serviceAt 5 = (.invokevirtual 96, 8, 33, 1, 0, 0, []) := rfl
theorem tX6_serviceAt_8 : tbX6_serviceAt 8 = (.ireturn, 9, 0, 0, 0, 0, []) := rfl
def ltX6_waitingAt : List (Nat × pm_E) := [(0, .aload_n 0, 1, 0, 0, 0, 0, []), (1, .getfield 12, 4, 6, 0, 0, 0, [(0, 0)]), (4, .iload_n 1, 5, 0, 0, 0, 0, []), (5, .invokevirtual 99, 8, 34, 1, 0, 0, []), (8, .ireturn, 9, 0, 0, 0, 0, [])]
def tbX6_waitingAt : Nat → pm_E := pm_lk ltX6_waitingAt
theorem okX6_waitingAt : ∀ pc, (tbX6_waitingAt pc).1 = .nop ∨ pm_ok mX6_waitingAt pw_Ms pc (tbX6_waitingAt pc) := pm_lk_ok (by decide +kernel)
theorem nr_X6_waitingAt : mX6_waitingAt.2.2.2 = (some .int) := rfl
theorem tX6_waitingAt_0 : tbX6_waitingAt 0 = (.aload_n 0, 1, 0, 0, 0, 0, []) := rfl
theorem tX6_waitingAt_1 : tbX6_waitingAt 1 = (.getfield 12, 4, 6, 0, 0, 0, [(0, 0)]) := rfl
theorem tX6_waitingAt_4 : tbX6_waitingAt 4 = (.iload_n 1, 5, 0, 0, 0, 0, []) := rfl
theorem tX6_waitingAt_5 : tbX6_waitingAt 5 = (.invokevirtual 99, 8, 34, 1, 0, 0, []) := rfl
theorem tX6_waitingAt_8 : tbX6_waitingAt 8 = (.ireturn, 9, 0, 0, 0, 0, []) := rfl
def ltX6_lines : List (Nat × pm_E) := [(0, .iload_n 1, 1, 0, 0, 0, 0, []), (1, .tableswitch 89 0 5 #[39, 47, 55, 64, 73, 81], 40, 90, 0, 0, 0, [(0, 40), (1, 48), (2, 56), (3, 65), (4, 74), (5, 82)]), (40, .aload_n 0, 41, 0, 0, 0, 0, []), (41, .getfield 12, 44, 6, 0, 0, 0, [(0, 0)]), (44, .invokevirtual 102, 47, 23, 0, 0, 0, []), (47, .ireturn, 48, 0, 0, 0, 0, []), (48, .aload_n 0, 49, 0, 0, 0, 0, []), (49, .getfield 12, 52, 6, 0, 0, 0, [(0, 0)]), (52, .invokevirtual 105, 55, 24, 0, 0, 0, []), (55, .ireturn, 56, 0, 0, 0, 0, []), (56, .aload_n 0, 57, 0, 0, 0, 0, []), (57, .getfield 12, 60, 6, 0, 0, 0, [(0, 0)]), (60, .iconst 1, 61, 0, 0, 0, 1, []), (61, .invokevirtual 108, 64, 25, 1, 0, 0, []), (64, .ireturn, 65, 0, 0, 0, 0, []), (65, .aload_n 0, 66, 0, 0, 0, 0, []), (66, .getfield 12, 69, 6, 0, 0, 0, [(0, 0)]), (69, .iconst 2, 70, 0, 0, 0, 2, []), (70, .invokevirtual 108, 73, 25, 1, 0, 0, []), (73, .ireturn, 74, 0, 0, 0, 0, []), (74, .aload_n 0, 75, 0, 0, 0, 0, []), (75, .getfield 12, 78, 6, 0, 0, 0, [(0, 0)]), (78, .invokevirtual 111, 81, 26, 0, 0, 0, []), (81, .ireturn, 82, 0, 0, 0, 0, []), (82, .aload_n 0, 83, 0, 0, 0, 0, []), (83, .getfield 12, 86, 6, 0, 0, 0, [(0, 0)]), (86, .invokevirtual 114, 89, 27, 0, 0, 0, []), (89, .ireturn, 90, 0, 0, 0, 0, []), (90, .iconst (-1), 91, 0, 0, 0, -1, []), (91, .ireturn, 92, 0, 0, 0, 0, [])]
def tbX6_lines : Nat → pm_E := pm_lk ltX6_lines
theorem okX6_lines : ∀ pc, (tbX6_lines pc).1 = .nop ∨ pm_ok mX6_lines pw_Ms pc (tbX6_lines pc) := pm_lk_ok (by decide +kernel)
theorem nr_X6_lines : mX6_lines.2.2.2 = (some .int) := rfl
theorem tX6_lines_0 : tbX6_lines 0 = (.iload_n 1, 1, 0, 0, 0, 0, []) := rfl
theorem tX6_lines_1 : tbX6_lines 1 = (.tableswitch 89 0 5 #[39, 47, 55, 64, 73, 81], 40, 90, 0, 0, 0, [(0, 40), (1, 48), (2, 56), (3, 65), (4, 74), (5, 82)]) := rfl
theorem tX6_lines_40 : tbX6_lines 40 = (.aload_n 0, 41, 0, 0, 0, 0, []) := rfl
theorem tX6_lines_41 : tbX6_lines 41 = (.getfield 12, 44, 6, 0, 0, 0, [(0, 0)]) := rfl
theorem tX6_lines_44 : tbX6_lines 44 = (.invokevirtual 102, 47, 23, 0, 0, 0, []) := rfl
theorem tX6_lines_47 : tbX6_lines 47 = (.ireturn, 48, 0, 0, 0, 0, []) := rfl
theorem tX6_lines_48 : tbX6_lines 48 = (.aload_n 0, 49, 0, 0, 0, 0, []) := rfl
theorem tX6_lines_49 : tbX6_lines 49 = (.getfield 12, 52, 6, 0, 0, 0, [(0, 0)]) := rfl
theorem tX6_lines_52 : tbX6_lines 52 = (.invokevirtual 105, 55, 24, 0, 0, 0, []) := rfl
theorem tX6_lines_55 : tbX6_lines 55 = (.ireturn, 56, 0, 0, 0, 0, []) := rfl
theorem tX6_lines_56 : tbX6_lines 56 = (.aload_n 0, 57, 0, 0, 0, 0, []) := rfl
theorem tX6_lines_57 : tbX6_lines 57 = (.getfield 12, 60, 6, 0, 0, 0, [(0, 0)]) := rfl
theorem tX6_lines_60 : tbX6_lines 60 = (.iconst 1, 61, 0, 0, 0, 1, []) := rfl
theorem tX6_lines_61 : tbX6_lines 61 = (.invokevirtual 108, 64, 25, 1, 0, 0, []) := rfl
theorem tX6_lines_64 : tbX6_lines 64 = (.ireturn, 65, 0, 0, 0, 0, []) := rfl
theorem tX6_lines_65 : tbX6_lines 65 = (.aload_n 0, 66, 0, 0, 0, 0, []) := rfl
theorem tX6_lines_66 : tbX6_lines 66 = (.getfield 12, 69, 6, 0, 0, 0, [(0, 0)]) := rfl
theorem tX6_lines_69 : tbX6_lines 69 = (.iconst 2, 70, 0, 0, 0, 2, []) := rfl
theorem tX6_lines_70 : tbX6_lines 70 = (.invokevirtual 108, 73, 25, 1, 0, 0, []) := rfl
theorem tX6_lines_73 : tbX6_lines 73 = (.ireturn, 74, 0, 0, 0, 0, []) := rfl
theorem tX6_lines_74 : tbX6_lines 74 = (.aload_n 0, 75, 0, 0, 0, 0, []) := rfl
theorem tX6_lines_75 : tbX6_lines 75 = (.getfield 12, 78, 6, 0, 0, 0, [(0, 0)]) := rfl
theorem tX6_lines_78 : tbX6_lines 78 = (.invokevirtual 111, 81, 26, 0, 0, 0, []) := rfl
theorem tX6_lines_81 : tbX6_lines 81 = (.ireturn, 82, 0, 0, 0, 0, []) := rfl
theorem tX6_lines_82 : tbX6_lines 82 = (.aload_n 0, 83, 0, 0, 0, 0, []) := rfl
theorem tX6_lines_83 : tbX6_lines 83 = (.getfield 12, 86, 6, 0, 0, 0, [(0, 0)]) := rfl
theorem tX6_lines_86 : tbX6_lines 86 = (.invokevirtual 114, 89, 27, 0, 0, 0, []) := rfl
theorem tX6_lines_89 : tbX6_lines 89 = (.ireturn, 90, 0, 0, 0, 0, []) := rfl
theorem tX6_lines_90 : tbX6_lines 90 = (.iconst (-1), 91, 0, 0, 0, -1, []) := rfl
theorem tX6_lines_91 : tbX6_lines 91 = (.ireturn, 92, 0, 0, 0, 0, []) := rfl
def ltX6_count : List (Nat × pm_E) := [(0, .iload_n 1, 1, 0, 0, 0, 0, []), (1, .lookupswitch 43 #[(11, 27), (12, 35)], 28, 44, 0, 0, 0, [(11, 28), (12, 36)]), (28, .aload_n 0, 29, 0, 0, 0, 0, []), (29, .getfield 22, 32, 6, 2, 0, 0, [(0, 0)]), (32, .getfield 117, 35, 2, 1, 0, 0, []), (35, .ireturn, 36, 0, 0, 0, 0, []), (36, .aload_n 0, 37, 0, 0, 0, 0, []), (37, .getfield 29, 40, 6, 3, 0, 0, [(0, 0)]), (40, .getfield 121, 43, 1, 1, 0, 0, []), (43, .ireturn, 44, 0, 0, 0, 0, []), (44, .aload_n 0, 45, 0, 0, 0, 0, []), (45, .getfield 12, 48, 6, 0, 0, 0, [(0, 0)]), (48, .iload_n 1, 49, 0, 0, 0, 0, []), (49, .invokevirtual 124, 52, 35, 1, 0, 0, []), (52, .ireturn, 53, 0, 0, 0, 0, [])]
def tbX6_count : Nat → pm_E := pm_lk ltX6_count
theorem okX6_count : ∀ pc, (tbX6_count pc).1 = .nop ∨ pm_ok mX6_count pw_Ms pc (tbX6_count pc) := pm_lk_ok (by decide +kernel)
theorem nr_X6_count : mX6_count.2.2.2 = (some .int) := rfl
theorem tX6_count_0 : tbX6_count 0 = (.iload_n 1, 1, 0, 0, 0, 0, []) := rfl
theorem tX6_count_1 : tbX6_count 1 = (.lookupswitch 43 #[(11, 27), (12, 35)], 28, 44, 0, 0, 0, [(11, 28), (12, 36)]) := rfl
theorem tX6_count_28 : tbX6_count 28 = (.aload_n 0, 29, 0, 0, 0, 0, []) := rfl
theorem tX6_count_29 : tbX6_count 29 = (.getfield 22, 32, 6, 2, 0, 0, [(0, 0)]) := rfl
theorem tX6_count_32 : tbX6_count 32 = (.getfield 117, 35, 2, 1, 0, 0, []) := rfl
theorem tX6_count_35 : tbX6_count 35 = (.ireturn, 36, 0, 0, 0, 0, []) := rfl
theorem tX6_count_36 : tbX6_count 36 = (.aload_n 0, 37, 0, 0, 0, 0, []) := rfl
theorem tX6_count_37 : tbX6_count 37 = (.getfield 29, 40, 6, 3, 0, 0, [(0, 0)]) := rfl
theorem tX6_count_40 : tbX6_count 40 = (.getfield 121, 43, 1, 1, 0, 0, []) := rfl
theorem tX6_count_43 : tbX6_count 43 = (.ireturn, 44, 0, 0, 0, 0, []) := rfl
theorem tX6_count_44 : tbX6_count 44 = (.aload_n 0, 45, 0, 0, 0, 0, []) := rfl
theorem tX6_count_45 : tbX6_count 45 = (.getfield 12, 48, 6, 0, 0, 0, [(0, 0)]) := rfl
theorem tX6_count_48 : tbX6_count 48 = (.iload_n 1, 49, 0, 0, 0, 0, []) := rfl
theorem tX6_count_49 : tbX6_count 49 = (.invokevirtual 124, 52, 35, 1, 0, 0, []) := rfl
theorem tX6_count_52 : tbX6_count 52 = (.ireturn, 53, 0, 0, 0, 0, []) := rfl
def ltX6_undo : List (Nat × pm_E) := [(0, .aload_n 0, 1, 0, 0, 0, 0, []), (1, .getfield 22, 4, 6, 2, 0, 0, [(0, 0)]), (4, .aload_n 0, 5, 0, 0, 0, 0, []), (5, .getfield 12, 8, 6, 0, 0, 0, [(0, 0)]), (8, .invokevirtual 127, 11, 53, 1, 2, 0, []), (11, .ireturn, 12, 0, 0, 0, 0, [])]
def tbX6_undo : Nat → pm_E := pm_lk ltX6_undo
theorem okX6_undo : ∀ pc, (tbX6_undo pc).1 = .nop ∨ pm_ok mX6_undo pw_Ms pc (tbX6_undo pc) := pm_lk_ok (by decide +kernel)
theorem nr_X6_undo : mX6_undo.2.2.2 = (some .int) := rfl
theorem tX6_undo_0 : tbX6_undo 0 = (.aload_n 0, 1, 0, 0, 0, 0, []) := rfl
theorem tX6_undo_1 : tbX6_undo 1 = (.getfield 22, 4, 6, 2, 0, 0, [(0, 0)]) := rfl
theorem tX6_undo_4 : tbX6_undo 4 = (.aload_n 0, 5, 0, 0, 0, 0, []) := rfl
theorem tX6_undo_5 : tbX6_undo 5 = (.getfield 12, 8, 6, 0, 0, 0, [(0, 0)]) := rfl
theorem tX6_undo_8 : tbX6_undo 8 = (.invokevirtual 127, 11, 53, 1, 2, 0, []) := rfl
theorem tX6_undo_11 : tbX6_undo 11 = (.ireturn, 12, 0, 0, 0, 0, []) := rfl
def ltX6_type : List (Nat × pm_E) := [(0, .aload_n 0, 1, 0, 0, 0, 0, []), (1, .getfield 29, 4, 6, 3, 0, 0, [(0, 0)]), (4, .iload_n 1, 5, 0, 0, 0, 0, []), (5, .invokevirtual 131, 8, 40, 1, 1, 0, []), (8, .ireturn, 9, 0, 0, 0, 0, [])]
def tbX6_type : Nat → pm_E := pm_lk ltX6_type
theorem okX6_type : ∀ pc, (tbX6_type pc).1 = .nop ∨ pm_ok mX6_type pw_Ms pc (tbX6_type pc) := pm_lk_ok (by decide +kernel)
theorem nr_X6_type : mX6_type.2.2.2 = (some .int) := rfl
theorem tX6_type_0 : tbX6_type 0 = (.aload_n 0, 1, 0, 0, 0, 0, []) := rfl
theorem tX6_type_1 : tbX6_type 1 = (.getfield 29, 4, 6, 3, 0, 0, [(0, 0)]) := rfl
theorem tX6_type_4 : tbX6_type 4 = (.iload_n 1, 5, 0, 0, 0, 0, []) := rfl
theorem tX6_type_5 : tbX6_type 5 = (.invokevirtual 131, 8, 40, 1, 1, 0, []) := rfl
theorem tX6_type_8 : tbX6_type 8 = (.ireturn, 9, 0, 0, 0, 0, []) := rfl
def ltX6_clearText : List (Nat × pm_E) := [(0, .aload_n 0, 1, 0, 0, 0, 0, []), (1, .getfield 29, 4, 6, 3, 0, 0, [(0, 0)]), (4, .invokevirtual 134, 7, 41, 0, 1, 0, []), (7, .ireturn, 8, 0, 0, 0, 0, [])]
def tbX6_clearText : Nat → pm_E := pm_lk ltX6_clearText
theorem okX6_clearText : ∀ pc, (tbX6_clearText pc).1 = .nop ∨ pm_ok mX6_clearText pw_Ms pc (tbX6_clearText pc) := pm_lk_ok (by decide +kernel)
theorem nr_X6_clearText : mX6_clearText.2.2.2 = (some .int) := rfl
theorem tX6_clearText_0 : tbX6_clearText 0 = (.aload_n 0, 1, 0, 0, 0, 0, []) := rfl
theorem tX6_clearText_1 : tbX6_clearText 1 = (.getfield 29, 4, 6, 3, 0, 0, [(0, 0)]) := rfl
theorem tX6_clearText_4 : tbX6_clearText 4 = (.invokevirtual 134, 7, 41, 0, 1, 0, []) := rfl
theorem tX6_clearText_7 : tbX6_clearText 7 = (.ireturn, 8, 0, 0, 0, 0, []) := rfl
def ltX6_fault : List (Nat × pm_E) := [(0, .iload_n 1, 1, 0, 0, 0, 0, []), (1, .invokestatic 137, 4, 91, 1, 0, 0, []), (4, .ifCond .ne 5, 7, 9, 0, 0, 0, []), (7, .iconst (-1), 8, 0, 0, 0, -1, []), (8, .ireturn, 9, 0, 0, 0, 0, []), (9, .aload_n 0, 10, 0, 0, 0, 0, []), (10, .getfield 16, 13, 6, 1, 0, 0, [(0, 0)]), (13, .aload_n 0, 14, 0, 0, 0, 0, []), (14, .getfield 12, 17, 6, 0, 0, 0, [(0, 0)]), (17, .invokevirtual 89, 20, 1, 1, 0, 0, []), (20, .aload_n 0, 21, 0, 0, 0, 0, []), (21, .getfield 29, 24, 6, 3, 0, 0, [(0, 0)]), (24, .aload_n 0, 25, 0, 0, 0, 0, []), (25, .getfield 16, 28, 6, 1, 0, 0, [(0, 0)]), (28, .invokevirtual 141, 31, 42, 1, 1, 0, []), (31, .pop, 32, 0, 0, 0, 0, []), (32, .aload_n 0, 33, 0, 0, 0, 0, []), (33, .getfield 29, 36, 6, 3, 0, 0, [(0, 0)]), (36, .getfield 144, 39, 1, 6, 0, 0, []), (39, .ifCond .ne 6, 42, 45, 0, 0, 0, []), (42, .bipush (-4), 44, 0, 0, 0, -4, []), (44, .ireturn, 45, 0, 0, 0, 0, []), (45, .iload_n 1, 46, 0, 0, 0, 0, []), (46, .ifCond .ne 13, 49, 59, 0, 0, 0, []), (49, .aload_n 0, 50, 0, 0, 0, 0, []), (50, .getfield 29, 53, 6, 3, 0, 0, [(0, 0)]), (53, .getfield 147, 56, 1, 2, 0, 0, []), (56, .goto 10, 59, 66, 0, 0, 0, []), (59, .aload_n 0, 60, 0, 0, 0, 0, []), (60, .getfield 29, 63, 6, 3, 0, 0, [(0, 0)]), (63, .getfield 144, 66, 1, 6, 0, 0, []), (66, .ireturn, 67, 0, 0, 0, 0, [])]
def tbX6_fault : Nat → pm_E := pm_lk ltX6_fault
theorem okX6_fault : ∀ pc, (tbX6_fault pc).1 = .nop ∨ pm_ok mX6_fault pw_Ms pc (tbX6_fault pc) := pm_lk_ok (by decide +kernel)
theorem nr_X6_fault : mX6_fault.2.2.2 = (some .int) := rfl
theorem tX6_fault_0 : tbX6_fault 0 = (.iload_n 1, 1, 0, 0, 0, 0, []) := rfl
theorem tX6_fault_1 : tbX6_fault 1 = (.invokestatic 137, 4, 91, 1, 0, 0, []) := rfl
theorem tX6_fault_4 : tbX6_fault 4 = (.ifCond .ne 5, 7, 9, 0, 0, 0, []) := rfl
theorem tX6_fault_7 : tbX6_fault 7 = (.iconst (-1), 8, 0, 0, 0, -1, []) := rfl
theorem tX6_fault_8 : tbX6_fault 8 = (.ireturn, 9, 0, 0, 0, 0, []) := rfl
theorem tX6_fault_9 : tbX6_fault 9 = (.aload_n 0, 10, 0, 0, 0, 0, []) := rfl
theorem tX6_fault_10 : tbX6_fault 10 = (.getfield 16, 13, 6, 1, 0, 0, [(0, 0)]) := rfl
theorem tX6_fault_13 : tbX6_fault 13 = (.aload_n 0, 14, 0, 0, 0, 0, []) := rfl
theorem tX6_fault_14 : tbX6_fault 14 = (.getfield 12, 17, 6, 0, 0, 0, [(0, 0)]) := rfl
theorem tX6_fault_17 : tbX6_fault 17 = (.invokevirtual 89, 20, 1, 1, 0, 0, []) := rfl
theorem tX6_fault_20 : tbX6_fault 20 = (.aload_n 0, 21, 0, 0, 0, 0, []) := rfl
theorem tX6_fault_21 : tbX6_fault 21 = (.getfield 29, 24, 6, 3, 0, 0, [(0, 0)]) := rfl
theorem tX6_fault_24 : tbX6_fault 24 = (.aload_n 0, 25, 0, 0, 0, 0, []) := rfl
theorem tX6_fault_25 : tbX6_fault 25 = (.getfield 16, 28, 6, 1, 0, 0, [(0, 0)]) := rfl
theorem tX6_fault_28 : tbX6_fault 28 = (.invokevirtual 141, 31, 42, 1, 1, 0, []) := rfl
theorem tX6_fault_31 : tbX6_fault 31 = (.pop, 32, 0, 0, 0, 0, []) := rfl
theorem tX6_fault_32 : tbX6_fault 32 = (.aload_n 0, 33, 0, 0, 0, 0, []) := rfl
theorem tX6_fault_33 : tbX6_fault 33 = (.getfield 29, 36, 6, 3, 0, 0, [(0, 0)]) := rfl
theorem tX6_fault_36 : tbX6_fault 36 = (.getfield 144, 39, 1, 6, 0, 0, []) := rfl
theorem tX6_fault_39 : tbX6_fault 39 = (.ifCond .ne 6, 42, 45, 0, 0, 0, []) := rfl
theorem tX6_fault_42 : tbX6_fault 42 = (.bipush (-4), 44, 0, 0, 0, -4, []) := rfl
theorem tX6_fault_44 : tbX6_fault 44 = (.ireturn, 45, 0, 0, 0, 0, []) := rfl
theorem tX6_fault_45 : tbX6_fault 45 = (.iload_n 1, 46, 0, 0, 0, 0, []) := rfl
theorem tX6_fault_46 : tbX6_fault 46 = (.ifCond .ne 13, 49, 59, 0, 0, 0, []) := rfl
theorem tX6_fault_49 : tbX6_fault 49 = (.aload_n 0, 50, 0, 0, 0, 0, []) := rfl
theorem tX6_fault_50 : tbX6_fault 50 = (.getfield 29, 53, 6, 3, 0, 0, [(0, 0)]) := rfl
theorem tX6_fault_53 : tbX6_fault 53 = (.getfield 147, 56, 1, 2, 0, 0, []) := rfl
theorem tX6_fault_56 : tbX6_fault 56 = (.goto 10, 59, 66, 0, 0, 0, []) := rfl
theorem tX6_fault_59 : tbX6_fault 59 = (.aload_n 0, 60, 0, 0, 0, 0, []) := rfl
theorem tX6_fault_60 : tbX6_fault 60 = (.getfield 29, 63, 6, 3, 0, 0, [(0, 0)]) := rfl
theorem tX6_fault_63 : tbX6_fault 63 = (.getfield 144, 66, 1, 6, 0, 0, []) := rfl
theorem tX6_fault_66 : tbX6_fault 66 = (.ireturn, 67, 0, 0, 0, 0, []) := rfl
def ltX6_play : List (Nat × pm_E) := [(0, .aload_n 0, 1, 0, 0, 0, 0, []), (1, .getfield 16, 4, 6, 1, 0, 0, [(0, 0)]), (4, .aload_n 0, 5, 0, 0, 0, 0, []), (5, .getfield 12, 8, 6, 0, 0, 0, [(0, 0)]), (8, .invokevirtual 89, 11, 1, 1, 0, 0, []), (11, .aload_n 0, 12, 0, 0, 0, 0, []), (12, .getfield 29, 15, 6, 3, 0, 0, [(0, 0)]), (15, .aload_n 0, 16, 0, 0, 0, 0, []), (16, .getfield 16, 19, 6, 1, 0, 0, [(0, 0)]), (19, .invokevirtual 141, 22, 42, 1, 1, 0, []), (22, .istore_n 1, 23, 0, 0, 0, 0, []), (23, .aload_n 0, 24, 0, 0, 0, 0, []), (24, .getfield 29, 27, 6, 3, 0, 0, [(0, 0)]), (27, .getfield 144, 30, 1, 6, 0, 0, []), (30, .ifCond .eq 6, 33, 36, 0, 0, 0, []), (33, .bipush (-2), 35, 0, 0, 0, -2, []), (35, .ireturn, 36, 0, 0, 0, 0, []), (36, .aload_n 0, 37, 0, 0, 0, 0, []), (37, .getfield 22, 40, 6, 2, 0, 0, [(0, 0)]), (40, .aload_n 0, 41, 0, 0, 0, 0, []), (41, .getfield 12, 44, 6, 0, 0, 0, [(0, 0)]), (44, .invokevirtual 33, 47, 51, 1, 2, 0, []), (47, .aload_n 0, 48, 0, 0, 0, 0, []), (48, .getfield 12, 51, 6, 0, 0, 0, [(0, 0)]), (51, .aload_n 0, 52, 0, 0, 0, 0, []), (52, .getfield 16, 55, 6, 1, 0, 0, [(0, 0)]), (55, .invokevirtual 89, 58, 1, 1, 0, 0, []), (58, .aload_n 0, 59, 0, 0, 0, 0, []), (59, .getfield 22, 62, 6, 2, 0, 0, [(0, 0)]), (62, .iload_n 1, 63, 0, 0, 0, 0, []), (63, .invokevirtual 41, 66, 52, 1, 2, 0, []), (66, .ireturn, 67, 0, 0, 0, 0, [])]
def tbX6_play : Nat → pm_E := pm_lk ltX6_play
theorem okX6_play : ∀ pc, (tbX6_play pc).1 = .nop ∨ pm_ok mX6_play pw_Ms pc (tbX6_play pc) := pm_lk_ok (by decide +kernel)
theorem nr_X6_play : mX6_play.2.2.2 = (some .int) := rfl
theorem tX6_play_0 : tbX6_play 0 = (.aload_n 0, 1, 0, 0, 0, 0, []) := rfl
theorem tX6_play_1 : tbX6_play 1 = (.getfield 16, 4, 6, 1, 0, 0, [(0, 0)]) := rfl
theorem tX6_play_4 : tbX6_play 4 = (.aload_n 0, 5, 0, 0, 0, 0, []) := rfl
theorem tX6_play_5 : tbX6_play 5 = (.getfield 12, 8, 6, 0, 0, 0, [(0, 0)]) := rfl
theorem tX6_play_8 : tbX6_play 8 = (.invokevirtual 89, 11, 1, 1, 0, 0, []) := rfl
theorem tX6_play_11 : tbX6_play 11 = (.aload_n 0, 12, 0, 0, 0, 0, []) := rfl
theorem tX6_play_12 : tbX6_play 12 = (.getfield 29, 15, 6, 3, 0, 0, [(0, 0)]) := rfl
theorem tX6_play_15 : tbX6_play 15 = (.aload_n 0, 16, 0, 0, 0, 0, []) := rfl
theorem tX6_play_16 : tbX6_play 16 = (.getfield 16, 19, 6, 1, 0, 0, [(0, 0)]) := rfl
theorem tX6_play_19 : tbX6_play 19 = (.invokevirtual 141, 22, 42, 1, 1, 0, []) := rfl
theorem tX6_play_22 : tbX6_play 22 = (.istore_n 1, 23, 0, 0, 0, 0, []) := rfl
theorem tX6_play_23 : tbX6_play 23 = (.aload_n 0, 24, 0, 0, 0, 0, []) := rfl
theorem tX6_play_24 : tbX6_play 24 = (.getfield 29, 27, 6, 3, 0, 0, [(0, 0)]) := rfl
theorem tX6_play_27 : tbX6_play 27 = (.getfield 144, 30, 1, 6, 0, 0, []) := rfl
theorem tX6_play_30 : tbX6_play 30 = (.ifCond .eq 6, 33, 36, 0, 0, 0, []) := rfl
theorem tX6_play_33 : tbX6_play 33 = (.bipush (-2), 35, 0, 0, 0, -2, []) := rfl
theorem tX6_play_35 : tbX6_play 35 = (.ireturn, 36, 0, 0, 0, 0, []) := rfl
theorem tX6_play_36 : tbX6_play 36 = (.aload_n 0, 37, 0, 0, 0, 0, []) := rfl
theorem tX6_play_37 : tbX6_play 37 = (.getfield 22, 40, 6, 2, 0, 0, [(0, 0)]) := rfl
theorem tX6_play_40 : tbX6_play 40 = (.aload_n 0, 41, 0, 0, 0, 0, []) := rfl
theorem tX6_play_41 : tbX6_play 41 = (.getfield 12, 44, 6, 0, 0, 0, [(0, 0)]) := rfl
theorem tX6_play_44 : tbX6_play 44 = (.invokevirtual 33, 47, 51, 1, 2, 0, []) := rfl
theorem tX6_play_47 : tbX6_play 47 = (.aload_n 0, 48, 0, 0, 0, 0, []) := rfl
theorem tX6_play_48 : tbX6_play 48 = (.getfield 12, 51, 6, 0, 0, 0, [(0, 0)]) := rfl
theorem tX6_play_51 : tbX6_play 51 = (.aload_n 0, 52, 0, 0, 0, 0, []) := rfl
theorem tX6_play_52 : tbX6_play 52 = (.getfield 16, 55, 6, 1, 0, 0, [(0, 0)]) := rfl
theorem tX6_play_55 : tbX6_play 55 = (.invokevirtual 89, 58, 1, 1, 0, 0, []) := rfl
theorem tX6_play_58 : tbX6_play 58 = (.aload_n 0, 59, 0, 0, 0, 0, []) := rfl
theorem tX6_play_59 : tbX6_play 59 = (.getfield 22, 62, 6, 2, 0, 0, [(0, 0)]) := rfl
theorem tX6_play_62 : tbX6_play 62 = (.iload_n 1, 63, 0, 0, 0, 0, []) := rfl
theorem tX6_play_63 : tbX6_play 63 = (.invokevirtual 41, 66, 52, 1, 2, 0, []) := rfl
theorem tX6_play_66 : tbX6_play 66 = (.ireturn, 67, 0, 0, 0, 0, []) := rfl
def ltX6_isBit : List (Nat × pm_E) := [(0, .iload_n 0, 1, 0, 0, 0, 0, []), (1, .ifCond .eq 8, 4, 9, 0, 0, 0, []), (4, .iload_n 0, 5, 0, 0, 0, 0, []), (5, .iconst 1, 6, 0, 0, 0, 1, []), (6, .if_icmp .ne 7, 9, 13, 0, 0, 0, []), (9, .iconst 1, 10, 0, 0, 0, 1, []), (10, .goto 4, 13, 14, 0, 0, 0, []), (13, .iconst 0, 14, 0, 0, 0, 0, []), (14, .ireturn, 15, 0, 0, 0, 0, [])]
def tbX6_isBit : Nat → pm_E := pm_lk ltX6_isBit
theorem okX6_isBit : ∀ pc, (tbX6_isBit pc).1 = .nop ∨ pm_ok mX6_isBit pw_Ms pc (tbX6_isBit pc) := pm_lk_ok (by decide +kernel)
theorem nr_X6_isBit : mX6_isBit.2.2.2 = (some .boolean) := rfl
theorem tX6_isBit_0 : tbX6_isBit 0 = (.iload_n 0, 1, 0, 0, 0, 0, []) := rfl
theorem tX6_isBit_1 : tbX6_isBit 1 = (.ifCond .eq 8, 4, 9, 0, 0, 0, []) := rfl
theorem tX6_isBit_4 : tbX6_isBit 4 = (.iload_n 0, 5, 0, 0, 0, 0, []) := rfl
theorem tX6_isBit_5 : tbX6_isBit 5 = (.iconst 1, 6, 0, 0, 0, 1, []) := rfl
theorem tX6_isBit_6 : tbX6_isBit 6 = (.if_icmp .ne 7, 9, 13, 0, 0, 0, []) := rfl
theorem tX6_isBit_9 : tbX6_isBit 9 = (.iconst 1, 10, 0, 0, 0, 1, []) := rfl
theorem tX6_isBit_10 : tbX6_isBit 10 = (.goto 4, 13, 14, 0, 0, 0, []) := rfl
theorem tX6_isBit_13 : tbX6_isBit 13 = (.iconst 0, 14, 0, 0, 0, 0, []) := rfl
theorem tX6_isBit_14 : tbX6_isBit 14 = (.ireturn, 15, 0, 0, 0, 0, []) := rfl
def ltX6_asBit : List (Nat × pm_E) := [(0, .iload_n 0, 1, 0, 0, 0, 0, []), (1, .ifCond .eq 7, 4, 8, 0, 0, 0, []), (4, .iconst 1, 5, 0, 0, 0, 1, []), (5, .goto 4, 8, 9, 0, 0, 0, []), (8, .iconst 0, 9, 0, 0, 0, 0, []), (9, .ireturn, 10, 0, 0, 0, 0, [])]
def tbX6_asBit : Nat → pm_E := pm_lk ltX6_asBit
theorem okX6_asBit : ∀ pc, (tbX6_asBit pc).1 = .nop ∨ pm_ok mX6_asBit pw_Ms pc (tbX6_asBit pc) := pm_lk_ok (by decide +kernel)
theorem nr_X6_asBit : mX6_asBit.2.2.2 = (some .int) := rfl
theorem tX6_asBit_0 : tbX6_asBit 0 = (.iload_n 0, 1, 0, 0, 0, 0, []) := rfl
theorem tX6_asBit_1 : tbX6_asBit 1 = (.ifCond .eq 7, 4, 8, 0, 0, 0, []) := rfl
theorem tX6_asBit_4 : tbX6_asBit 4 = (.iconst 1, 5, 0, 0, 0, 1, []) := rfl
theorem tX6_asBit_5 : tbX6_asBit 5 = (.goto 4, 8, 9, 0, 0, 0, []) := rfl
theorem tX6_asBit_8 : tbX6_asBit 8 = (.iconst 0, 9, 0, 0, 0, 0, []) := rfl
theorem tX6_asBit_9 : tbX6_asBit 9 = (.ireturn, 10, 0, 0, 0, 0, []) := rfl
def ltJ6_bitCount_0f7a4 : List (Nat × pm_E) := [(0, .iload_n 0, 1, 0, 0, 0, 0, []), (1, .iload_n 0, 2, 0, 0, 0, 0, []), (2, .iconst 1, 3, 0, 0, 0, 1, []), (3, .iushr, 4, 0, 0, 0, 0, []), (4, .ldc_w 265, 7, 0, 0, 0, 1431655765, []), (7, .iand, 8, 0, 0, 0, 0, []), (8, .isub, 9, 0, 0, 0, 0, []), (9, .istore_n 0, 10, 0, 0, 0, 0, []), (10, .iload_n 0, 11, 0, 0, 0, 0, []), (11, .ldc_w 266, 14, 0, 0, 0, 858993459, []), (14, .iand, 15, 0, 0, 0, 0, []), (15, .iload_n 0, 16, 0, 0, 0, 0, []), (16, .iconst 2, 17, 0, 0, 0, 2, []), (17, .iushr, 18, 0, 0, 0, 0, []), (18, .ldc_w 266, 21, 0, 0, 0, 858993459, []), (21, .iand, 22, 0, 0, 0, 0, []), (22, .iadd, 23, 0, 0, 0, 0, []), (23, .istore_n 0, 24, 0, 0, 0, 0, []), (24, .iload_n 0, 25, 0, 0, 0, 0, []), (25, .iload_n 0, 26, 0, 0, 0, 0, []), (26, .iconst 4, 27, 0, 0, 0, 4, []), (27, .iushr, 28, 0, 0, 0, 0, []), (28, .iadd, 29, 0, 0, 0, 0, []), (29, .ldc_w 267, 32, 0, 0, 0, 252645135, []), (32, .iand, 33, 0, 0, 0, 0, []), (33, .istore_n 0, 34, 0, 0, 0, 0, []), (34, .iload_n 0, 35, 0, 0, 0, 0, []), (35, .iload_n 0, 36, 0, 0, 0, 0, []), (36, .bipush 8, 38, 0, 0, 0, 8, []), (38, .iushr, 39, 0, 0, 0, 0, []), (39, .iadd, 40, 0, 0, 0, 0, []), (40, .istore_n 0, 41, 0, 0, 0, 0, []), (41, .iload_n 0, 42, 0, 0, 0, 0, []), (42, .iload_n 0, 43, 0, 0, 0, 0, []), (43, .bipush 16, 45, 0, 0, 0, 16, []), (45, .iushr, 46, 0, 0, 0, 0, []), (46, .iadd, 47, 0, 0, 0, 0, []), (47, .istore_n 0, 48, 0, 0, 0, 0, []), (48, .iload_n 0, 49, 0, 0, 0, 0, []), (49, .bipush 63, 51, 0, 0, 0, 63, []), (51, .iand, 52, 0, 0, 0, 0, []), (52, .ireturn, 53, 0, 0, 0, 0, [])]
def tbJ6_bitCount_0f7a4 : Nat → pm_E := pm_lk ltJ6_bitCount_0f7a4
theorem okJ6_bitCount_0f7a4 : ∀ pc, (tbJ6_bitCount_0f7a4 pc).1 = .nop ∨ pm_ok mJ6_bitCount_0f7a4 pw_Ms pc (tbJ6_bitCount_0f7a4 pc) := pm_lk_ok (by decide +kernel)
theorem nr_J6_bitCount_0f7a4 : mJ6_bitCount_0f7a4.2.2.2 = (some .int) := rfl
theorem tJ6_bitCount_0f7a4_0 : tbJ6_bitCount_0f7a4 0 = (.iload_n 0, 1, 0, 0, 0, 0, []) := rfl
theorem tJ6_bitCount_0f7a4_1 : tbJ6_bitCount_0f7a4 1 = (.iload_n 0, 2, 0, 0, 0, 0, []) := rfl
theorem tJ6_bitCount_0f7a4_2 : tbJ6_bitCount_0f7a4 2 = (.iconst 1, 3, 0, 0, 0, 1, []) := rfl
theorem tJ6_bitCount_0f7a4_3 : tbJ6_bitCount_0f7a4 3 = (.iushr, 4, 0, 0, 0, 0, []) := rfl
theorem tJ6_bitCount_0f7a4_4 : tbJ6_bitCount_0f7a4 4 = (.ldc_w 265, 7, 0, 0, 0, 1431655765, []) := rfl
theorem tJ6_bitCount_0f7a4_7 : tbJ6_bitCount_0f7a4 7 = (.iand, 8, 0, 0, 0, 0, []) := rfl
theorem tJ6_bitCount_0f7a4_8 : tbJ6_bitCount_0f7a4 8 = (.isub, 9, 0, 0, 0, 0, []) := rfl
theorem tJ6_bitCount_0f7a4_9 : tbJ6_bitCount_0f7a4 9 = (.istore_n 0, 10, 0, 0, 0, 0, []) := rfl
theorem tJ6_bitCount_0f7a4_10 : tbJ6_bitCount_0f7a4 10 = (.iload_n 0, 11, 0, 0, 0, 0, []) := rfl
theorem tJ6_bitCount_0f7a4_11 : tbJ6_bitCount_0f7a4 11 = (.ldc_w 266, 14, 0, 0, 0, 858993459, []) := rfl
theorem tJ6_bitCount_0f7a4_14 : tbJ6_bitCount_0f7a4 14 = (.iand, 15, 0, 0, 0, 0, []) := rfl
theorem tJ6_bitCount_0f7a4_15 : tbJ6_bitCount_0f7a4 15 = (.iload_n 0, 16, 0, 0, 0, 0, []) := rfl
theorem tJ6_bitCount_0f7a4_16 : tbJ6_bitCount_0f7a4 16 = (.iconst 2, 17, 0, 0, 0, 2, []) := rfl
theorem tJ6_bitCount_0f7a4_17 : tbJ6_bitCount_0f7a4 17 = (.iushr, 18, 0, 0, 0, 0, []) := rfl
theorem tJ6_bitCount_0f7a4_18 : tbJ6_bitCount_0f7a4 18 = (.ldc_w 266, 21, 0, 0, 0, 858993459, []) := rfl
theorem tJ6_bitCount_0f7a4_21 : tbJ6_bitCount_0f7a4 21 = (.iand, 22, 0, 0, 0, 0, []) := rfl
theorem tJ6_bitCount_0f7a4_22 : tbJ6_bitCount_0f7a4 22 = (.iadd, 23, 0, 0, 0, 0, []) := rfl
theorem tJ6_bitCount_0f7a4_23 : tbJ6_bitCount_0f7a4 23 = (.istore_n 0, 24, 0, 0, 0, 0, []) := rfl
theorem tJ6_bitCount_0f7a4_24 : tbJ6_bitCount_0f7a4 24 = (.iload_n 0, 25, 0, 0, 0, 0, []) := rfl
theorem tJ6_bitCount_0f7a4_25 : tbJ6_bitCount_0f7a4 25 = (.iload_n 0, 26, 0, 0, 0, 0, []) := rfl
theorem tJ6_bitCount_0f7a4_26 : tbJ6_bitCount_0f7a4 26 = (.iconst 4, 27, 0, 0, 0, 4, []) := rfl
theorem tJ6_bitCount_0f7a4_27 : tbJ6_bitCount_0f7a4 27 = (.iushr, 28, 0, 0, 0, 0, []) := rfl
theorem tJ6_bitCount_0f7a4_28 : tbJ6_bitCount_0f7a4 28 = (.iadd, 29, 0, 0, 0, 0, []) := rfl
theorem tJ6_bitCount_0f7a4_29 : tbJ6_bitCount_0f7a4 29 = (.ldc_w 267, 32, 0, 0, 0, 252645135, []) := rfl
theorem tJ6_bitCount_0f7a4_32 : tbJ6_bitCount_0f7a4 32 = (.iand, 33, 0, 0, 0, 0, []) := rfl
theorem tJ6_bitCount_0f7a4_33 : tbJ6_bitCount_0f7a4 33 = (.istore_n 0, 34, 0, 0, 0, 0, []) := rfl
theorem tJ6_bitCount_0f7a4_34 : tbJ6_bitCount_0f7a4 34 = (.iload_n 0, 35, 0, 0, 0, 0, []) := rfl
theorem tJ6_bitCount_0f7a4_35 : tbJ6_bitCount_0f7a4 35 = (.iload_n 0, 36, 0, 0, 0, 0, []) := rfl
theorem tJ6_bitCount_0f7a4_36 : tbJ6_bitCount_0f7a4 36 = (.bipush 8, 38, 0, 0, 0, 8, []) := rfl
theorem tJ6_bitCount_0f7a4_38 : tbJ6_bitCount_0f7a4 38 = (.iushr, 39, 0, 0, 0, 0, []) := rfl
theorem tJ6_bitCount_0f7a4_39 : tbJ6_bitCount_0f7a4 39 = (.iadd, 40, 0, 0, 0, 0, []) := rfl
theorem tJ6_bitCount_0f7a4_40 : tbJ6_bitCount_0f7a4 40 = (.istore_n 0, 41, 0, 0, 0, 0, []) := rfl
theorem tJ6_bitCount_0f7a4_41 : tbJ6_bitCount_0f7a4 41 = (.iload_n 0, 42, 0, 0, 0, 0, []) := rfl
theorem tJ6_bitCount_0f7a4_42 : tbJ6_bitCount_0f7a4 42 = (.iload_n 0, 43, 0, 0, 0, 0, []) := rfl
theorem tJ6_bitCount_0f7a4_43 : tbJ6_bitCount_0f7a4 43 = (.bipush 16, 45, 0, 0, 0, 16, []) := rfl
theorem tJ6_bitCount_0f7a4_45 : tbJ6_bitCount_0f7a4 45 = (.iushr, 46, 0, 0, 0, 0, []) := rfl
theorem tJ6_bitCount_0f7a4_46 : tbJ6_bitCount_0f7a4 46 = (.iadd, 47, 0, 0, 0, 0, []) := rfl
theorem tJ6_bitCount_0f7a4_47 : tbJ6_bitCount_0f7a4 47 = (.istore_n 0, 48, 0, 0, 0, 0, []) := rfl
theorem tJ6_bitCount_0f7a4_48 : tbJ6_bitCount_0f7a4 48 = (.iload_n 0, 49, 0, 0, 0, 0, []) := rfl
theorem tJ6_bitCount_0f7a4_49 : tbJ6_bitCount_0f7a4 49 = (.bipush 63, 51, 0, 0, 0, 63, []) := rfl
theorem tJ6_bitCount_0f7a4_51 : tbJ6_bitCount_0f7a4 51 = (.iand, 52, 0, 0, 0, 0, []) := rfl
theorem tJ6_bitCount_0f7a4_52 : tbJ6_bitCount_0f7a4 52 = (.ireturn, 53, 0, 0, 0, 0, []) := rfl
def ltJ9_max_7cf53 : List (Nat × pm_E) := [(0, .iload_n 0, 1, 0, 0, 0, 0, []), (1, .iload_n 1, 2, 0, 0, 0, 0, []), (2, .if_icmp .lt 7, 5, 9, 0, 0, 0, []), (5, .iload_n 0, 6, 0, 0, 0, 0, []), (6, .goto 4, 9, 10, 0, 0, 0, []), (9, .iload_n 1, 10, 0, 0, 0, 0, []), (10, .ireturn, 11, 0, 0, 0, 0, [])]
def tbJ9_max_7cf53 : Nat → pm_E := pm_lk ltJ9_max_7cf53
theorem okJ9_max_7cf53 : ∀ pc, (tbJ9_max_7cf53 pc).1 = .nop ∨ pm_ok mJ9_max_7cf53 pw_Ms pc (tbJ9_max_7cf53 pc) := pm_lk_ok (by decide +kernel)
theorem nr_J9_max_7cf53 : mJ9_max_7cf53.2.2.2 = (some .int) := rfl
theorem tJ9_max_7cf53_0 : tbJ9_max_7cf53 0 = (.iload_n 0, 1, 0, 0, 0, 0, []) := rfl
theorem tJ9_max_7cf53_1 : tbJ9_max_7cf53 1 = (.iload_n 1, 2, 0, 0, 0, 0, []) := rfl
theorem tJ9_max_7cf53_2 : tbJ9_max_7cf53 2 = (.if_icmp .lt 7, 5, 9, 0, 0, 0, []) := rfl
theorem tJ9_max_7cf53_5 : tbJ9_max_7cf53 5 = (.iload_n 0, 6, 0, 0, 0, 0, []) := rfl
theorem tJ9_max_7cf53_6 : tbJ9_max_7cf53 6 = (.goto 4, 9, 10, 0, 0, 0, []) := rfl
theorem tJ9_max_7cf53_9 : tbJ9_max_7cf53 9 = (.iload_n 1, 10, 0, 0, 0, 0, []) := rfl
theorem tJ9_max_7cf53_10 : tbJ9_max_7cf53 10 = (.ireturn, 11, 0, 0, 0, 0, []) := rfl
