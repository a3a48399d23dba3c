/-! code tables 3, by program -/
def ltL_law : List (Nat × pm_E) := [(3, .dup, 4, 0, 0, 0, 0, []), (7, .astore_n 1, 8, 0, 0, 0, 0, []), (11, .dup, 12, 0, 0, 0, 0, []), (15, .astore_n 2, 16, 0, 0, 0, 0, []), (16, .iconst 0, 17, 0, 0, 0, 0, []), (17, .istore_n 3, 18, 0, 0, 0, 0, []), (18, .iload_n 3, 19, 0, 0, 0, 0, []), (19, .aload_n 0, 20, 0, 0, 0, 0, []), (20, .arraylength, 21, 0, 0, 0, 0, []), (21, .iconst 4, 22, 0, 0, 0, 4, []), (22, .isub, 23, 0, 0, 0, 0, []), (23, .if_icmp .gt 736, 26, 759, 0, 0, 0, []), (26, .aload_n 0, 27, 0, 0, 0, 0, []), (27, .iload_n 3, 28, 0, 0, 0, 0, []), (28, .iaload, 29, 0, 0, 0, 0, []), (29, .bipush 31, 31, 0, 0, 0, 31, []), (31, .iand, 32, 0, 0, 0, 0, []), (32, .tableswitch 721 0 24 #[116, 149, 192, 225, 258, 281, 304, 337, 370, 403, 426, 459, 472, 485, 508, 521, 544, 567, 590, 613, 636, 649, 672, 685, 708], 148, 753, 0, 0, 0, [(0, 148), (1, 181), (2, 224), (3, 257), (4, 290), (5, 313), (6, 336), (7, 369), (8, 402), (9, 435), (10, 458), (11, 491), (12, 504), (13, 517), (14, 540), (15, 553), (16, 576), (17, 599), (18, 622), (19, 645), (20, 668), (21, 681), (22, 704), (23, 717), (24, 740)]), (148, .aload_n 1, 149, 0, 0, 0, 0, []), (149, .aload_n 0, 150, 0, 0, 0, 0, []), (150, .iload_n 3, 151, 0, 0, 0, 0, []), (151, .iconst 1, 152, 0, 0, 0, 1, []), (152, .iadd, 153, 0, 0, 0, 0, []), (153, .iaload, 154, 0, 0, 0, 0, []), (154, .aload_n 0, 155, 0, 0, 0, 0, []), (155, .iload_n 3, 156, 0, 0, 0, 0, []), (156, .iconst 2, 157, 0, 0, 0, 2, []), (157, .iadd, 158, 0, 0, 0, 0, []), (158, .iaload, 159, 0, 0, 0, 0, []), (159, .invokevirtual 13, 162, 66, 2, 6, 0, []), (162, .aload_n 2, 163, 0, 0, 0, 0, []), (163, .aload_n 0, 164, 0, 0, 0, 0, []), (164, .iload_n 3, 165, 0, 0, 0, 0, []), (165, .iconst 1, 166, 0, 0, 0, 1, []), (166, .iadd, 167, 0, 0, 0, 0, []), (167, .iaload, 168, 0, 0, 0, 0, []), (168, .aload_n 0, 169, 0, 0, 0, 0, []), (169, .iload_n 3, 170, 0, 0, 0, 0, []), (170, .iconst 2, 171, 0, 0, 0, 2, []), (171, .iadd, 172, 0, 0, 0, 0, []), (172, .iaload, 173, 0, 0, 0, 0, []), (173, .invokevirtual 17, 176, 104, 2, 7, 0, []), (176, .if_icmp .eq 577, 179, 753, 0, 0, 0, []), (179, .iconst 0, 180, 0, 0, 0, 0, []), (180, .ireturn, 181, 0, 0, 0, 0, []), (181, .aload_n 1, 182, 0, 0, 0, 0, []), (182, .aload_n 0, 183, 0, 0, 0, 0, []), (183, .iload_n 3, 184, 0, 0, 0, 0, []), (184, .iconst 1, 185, 0, 0, 0, 1, []), (185, .iadd, 186, 0, 0, 0, 0, []), (186, .iaload, 187, 0, 0, 0, 0, []), (187, .aload_n 0, 188, 0, 0, 0, 0, []), (188, .iload_n 3, 189, 0, 0, 0, 0, []), (189, .iconst 2, 190, 0, 0, 0, 2, []), (190, .iadd, 191, 0, 0, 0, 0, []), (191, .iaload, 192, 0, 0, 0, 0, []), (192, .aload_n 0, 193, 0, 0, 0, 0, []), (193, .iload_n 3, 194, 0, 0, 0, 0, []), (194, .iconst 3, 195, 0, 0, 0, 3, []), (195, .iadd, 196, 0, 0, 0, 0, []), (196, .iaload, 197, 0, 0, 0, 0, []), (197, .invokevirtual 18, 200, 67, 3, 6, 0, []), (200, .aload_n 2, 201, 0, 0, 0, 0, []), (201, .aload_n 0, 202, 0, 0, 0, 0, []), (202, .iload_n 3, 203, 0, 0, 0, 0, []), (203, .iconst 1, 204, 0, 0, 0, 1, []), (204, .iadd, 205, 0, 0, 0, 0, []), (205, .iaload, 206, 0, 0, 0, 0, []), (206, .aload_n 0, 207, 0, 0, 0, 0, []), (207, .iload_n 3, 208, 0, 0, 0, 0, []), (208, .iconst 2, 209, 0, 0, 0, 2, []), (209, .iadd, 210, 0, 0, 0, 0, []), (210, .iaload, 211, 0, 0, 0, 0, []), (211, .aload_n 0, 212, 0, 0, 0, 0, []), (212, .iload_n 3, 213, 0, 0, 0, 0, []), (213, .iconst 3, 214, 0, 0, 0, 3, []), (214, .iadd, 215, 0, 0, 0, 0, []), (215, .iaload, 216, 0, 0, 0, 0, []), (216, .invokevirtual 22, 219, 105, 3, 7, 0, []), (219, .if_icmp .eq 534, 222, 753, 0, 0, 0, []), (222, .iconst 0, 223, 0, 0, 0, 0, []), (223, .ireturn, 224, 0, 0, 0, 0, []), (224, .aload_n 1, 225, 0, 0, 0, 0, []), (225, .aload_n 0, 226, 0, 0, 0, 0, []), (226, .iload_n 3, 227, 0, 0, 0, 0, []), (227, .iconst 1, 228, 0, 0, 0, 1, []), (228, .iadd, 229, 0, 0, 0, 0, []), (229, .iaload, 230, 0, 0, 0, 0, []), (230, .aload_n 0, 231, 0, 0, 0, 0, []), (231, .iload_n 3, 232, 0, 0, 0, 0, []), (232, .iconst 2, 233, 0, 0, 0, 2, []), (233, .iadd, 234, 0, 0, 0, 0, []), (234, .iaload, 235, 0, 0, 0, 0, []), (235, .invokevirtual 23, 238, 68, 2, 6, 0, []), (238, .aload_n 2, 239, 0, 0, 0, 0, []), (239, .aload_n 0, 240, 0, 0, 0, 0, []), (240, .iload_n 3, 241, 0, 0, 0, 0, []), (241, .iconst 1, 242, 0, 0, 0, 1, []), (242, .iadd, 243, 0, 0, 0, 0, []), (243, .iaload, 244, 0, 0, 0, 0, []), (244, .aload_n 0, 245, 0, 0, 0, 0, []), (245, .iload_n 3, 246, 0, 0, 0, 0, []), (246, .iconst 2, 247, 0, 0, 0, 2, []), (247, .iadd, 248, 0, 0, 0, 0, []), (248, .iaload, 249, 0, 0, 0, 0, []), (249, .invokevirtual 26, 252, 109, 2, 7, 0, []), (252, .if_icmp .eq 501, 255, 753, 0, 0, 0, []), (255, .iconst 0, 256, 0, 0, 0, 0, []), (256, .ireturn, 257, 0, 0, 0, 0, []), (257, .aload_n 1, 258, 0, 0, 0, 0, []), (258, .aload_n 0, 259, 0, 0, 0, 0, []), (259, .iload_n 3, 260, 0, 0, 0, 0, []), (260, .iconst 1, 261, 0, 0, 0, 1, []), (261, .iadd, 262, 0, 0, 0, 0, []), (262, .iaload, 263, 0, 0, 0, 0, []), (263, .aload_n 0, 264, 0, 0, 0, 0, []), (264, .iload_n 3, 265, 0, 0, 0, 0, []), (265, .iconst 2, 266, 0, 0, 0, 2, []), (266, .iadd, 267, 0, 0, 0, 0, []), (267, .iaload, 268, 0, 0, 0, 0, []), (268, .invokevirtual 27, 271, 69, 2, 6, 0, []), (271, .aload_n 2, 272, 0, 0, 0, 0, []), (272, .aload_n 0, 273, 0, 0, 0, 0, []), (273, .iload_n 3, 274, 0, 0, 0, 0, []), (274, .iconst 1, 275, 0, 0, 0, 1, []), (275, .iadd, 276, 0, 0, 0, 0, []), (276, .iaload, 277, 0, 0, 0, 0, []), (277, .aload_n 0, 278, 0, 0, 0, 0, []), (278, .iload_n 3, 279, 0, 0, 0, 0, []), (279, .iconst 2, 280, 0, 0, 0, 2, []), (280, .iadd, 281, 0, 0, 0, 0, []), (281, .iaload, 282, 0, 0, 0, 0, []), (282, .invokevirtual 30, 285, 110, 2, 7, 0, []), (285, .if_icmp .eq 468, 288, 753, 0, 0, 0, []), (288, .iconst 0, 289, 0, 0, 0, 0, []), (289, .ireturn, 290, 0, 0, 0, 0, []), (290, .aload_n 1, 291, 0, 0, 0, 0, []), (291, .aload_n 0, 292, 0, 0, 0, 0, []), (292, .iload_n 3, 293, 0, 0, 0, 0, []), (293, .iconst 1, 294, 0, 0, 0, 1, []), (294, .iadd, 295, 0, 0, 0, 0, []), (295, .iaload, 296, 0, 0, 0, 0, []), (296, .invokevirtual 31, 299, 70, 1, 6, 0, []), (299, .aload_n 2, 300, 0, 0, 0, 0, []), (300, .aload_n 0, 301, 0, 0, 0, 0, []), (301, .iload_n 3, 302, 0, 0, 0, 0, []), (302, .iconst 1, 303, 0, 0, 0, 1, []), (303, .iadd, 304, 0, 0, 0, 0, []), (304, .iaload, 305, 0, 0, 0, 0, []), (305, .invokevirtual 35, 308, 111, 1, 7, 0, []), (308, .if_icmp .eq 445, 311, 753, 0, 0, 0, []), (311, .iconst 0, 312, 0, 0, 0, 0, []), (312, .ireturn, 313, 0, 0, 0, 0, []), (313, .aload_n 1, 314, 0, 0, 0, 0, []), (314, .aload_n 0, 315, 0, 0, 0, 0, []), (315, .iload_n 3, 316, 0, 0, 0, 0, []), (316, .iconst 1, 317, 0, 0, 0, 1, []), (317, .iadd, 318, 0, 0, 0, 0, []), (318, .iaload, 319, 0, 0, 0, 0, []), (319, .invokevirtual 36, 322, 71, 1, 6, 0, []), (322, .aload_n 2, 323, 0, 0, 0, 0, []), (323, .aload_n 0, 324, 0, 0, 0, 0, []), (324, .iload_n 3, 325, 0, 0, 0, 0, []), (325, .iconst 1, 326, 0, 0, 0, 1, []), (326, .iadd, 327, 0, 0, 0, 0, []), (327, .iaload, 328, 0, 0, 0, 0, []), (328, .invokevirtual 39, 331, 112, 1, 7, 0, []), (331, .if_icmp .eq 422, 334, 753, 0, 0, 0, []), (334, .iconst 0, 335, 0, 0, 0, 0, []), (335, .ireturn, 336, 0, 0, 0, 0, []), (336, .aload_n 1, 337, 0, 0, 0, 0, []), (337, .aload_n 0, 338, 0, 0, 0, 0, []), (338, .iload_n 3, 339, 0, 0, 0, 0, []), (339, .iconst 1, 340, 0, 0, 0, 1, []), (340, .iadd, 341, 0, 0, 0, 0, []), (341, .iaload, 342, 0, 0, 0, 0, []), (342, .aload_n 0, 343, 0, 0, 0, 0, []), (343, .iload_n 3, 344, 0, 0, 0, 0, []), (344, .iconst 2, 345, 0, 0, 0, 2, []), (345, .iadd, 346, 0, 0, 0, 0, []), (346, .iaload, 347, 0, 0, 0, 0, []), (347, .invokevirtual 40, 350, 72, 2, 6, 0, []), (350, .aload_n 2, 351, 0, 0, 0, 0, []), (351, .aload_n 0, 352, 0, 0, 0, 0, []), (352, .iload_n 3, 353, 0, 0, 0, 0, []), (353, .iconst 1, 354, 0, 0, 0, 1, []), (354, .iadd, 355, 0, 0, 0, 0, []), (355, .iaload, 356, 0, 0, 0, 0, []), (356, .aload_n 0, 357, 0, 0, 0, 0, []), (357, .iload_n 3, 358, 0, 0, 0, 0, []), (358, .iconst 2, 359, 0, 0, 0, 2, []), (359, .iadd, 360, 0, 0, 0, 0, []), (360, .iaload, 361, 0, 0, 0, 0, []), (361, .invokevirtual 43, 364, 122, 2, 7, 0, []), (364, .if_icmp .eq 389, 367, 753, 0, 0, 0, []), (367, .iconst 0, 368, 0, 0, 0, 0, []), (368, .ireturn, 369, 0, 0, 0, 0, []), (369, .aload_n 1, 370, 0, 0, 0, 0, []), (370, .aload_n 0, 371, 0, 0, 0, 0, []), (371, .iload_n 3, 372, 0, 0, 0, 0, []), (372, .iconst 1, 373, 0, 0, 0, 1, []), (373, .iadd, 374, 0, 0, 0, 0, []), (374, .iaload, 375, 0, 0, 0, 0, []), (375, .aload_n 0, 376, 0, 0, 0, 0, []), (376, .iload_n 3, 377, 0, 0, 0, 0, []), (377, .iconst 2, 378, 0, 0, 0, 2, []), (378, .iadd, 379, 0, 0, 0, 0, []), (379, .iaload, 380, 0, 0, 0, 0, []), (380, .invokevirtual 44, 383, 73, 2, 6, 0, []), (383, .aload_n 2, 384, 0, 0, 0, 0, []), (384, .aload_n 0, 385, 0, 0, 0, 0, []), (385, .iload_n 3, 386, 0, 0, 0, 0, []), (386, .iconst 1, 387, 0, 0, 0, 1, []), (387, .iadd, 388, 0, 0, 0, 0, []), (388, .iaload, 389, 0, 0, 0, 0, []), (389, .aload_n 0, 390, 0, 0, 0, 0, []), (390, .iload_n 3, 391, 0, 0, 0, 0, []), (391, .iconst 2, 392, 0, 0, 0, 2, []), (392, .iadd, 393, 0, 0, 0, 0, []), (393, .iaload, 394, 0, 0, 0, 0, []), (394, .invokevirtual 47, 397, 123, 2, 7, 0, []), (397, .if_icmp .eq 356, 400, 753, 0, 0, 0, []), (400, .iconst 0, 401, 0, 0, 0, 0, []), (401, .ireturn, 402, 0, 0, 0, 0, []), (402, .aload_n 1, 403, 0, 0, 0, 0, []), (403, .aload_n 0, 404, 0, 0, 0, 0, []), (404, .iload_n 3, 405, 0, 0, 0, 0, []), (405, .iconst 1, 406, 0, 0, 0, 1, []), (406, .iadd, 407, 0, 0, 0, 0, []), (407, .iaload, 408, 0, 0, 0, 0, []), (408, .aload_n 0, 409, 0, 0, 0, 0, []), (409, .iload_n 3, 410, 0, 0, 0, 0, []), (410, .iconst 2, 411, 0, 0, 0, 2, []), (411, .iadd, 412, 0, 0, 0, 0, []), (412, .iaload, 413, 0, 0, 0, 0, []), (413, .invokevirtual 48, 416, 74, 2, 6, 0, []), (416, .aload_n 2, 417, 0, 0, 0, 0, []), (417, .aload_n 0, 418, 0, 0, 0, 0, []), (418, .iload_n 3, 419, 0, 0, 0, 0, []), (419, .iconst 1, 420, 0, 0, 0, 1, []), (420, .iadd, 421, 0, 0, 0, 0, []), (421, .iaload, 422, 0, 0, 0, 0, []), (422, .aload_n 0, 423, 0, 0, 0, 0, []), (423, .iload_n 3, 424, 0, 0, 0, 0, []), (424, .iconst 2, 425, 0, 0, 0, 2, []), (425, .iadd, 426, 0, 0, 0, 0, []), (426, .iaload, 427, 0, 0, 0, 0, []), (427, .invokevirtual 51, 430, 124, 2, 7, 0, []), (430, .if_icmp .eq 323, 433, 753, 0, 0, 0, []), (433, .iconst 0, 434, 0, 0, 0, 0, []), (434, .ireturn, 435, 0, 0, 0, 0, []), (435, .aload_n 1, 436, 0, 0, 0, 0, []), (436, .aload_n 0, 437, 0, 0, 0, 0, []), (437, .iload_n 3, 438, 0, 0, 0, 0, []), (438, .iconst 1, 439, 0, 0, 0, 1, []), (439, .iadd, 440, 0, 0, 0, 0, []), (440, .iaload, 441, 0, 0, 0, 0, []), (441, .invokevirtual 52, 444, 75, 1, 6, 0, []), (444, .aload_n 2, 445, 0, 0, 0, 0, []), (445, .aload_n 0, 446, 0, 0, 0, 0, []), (446, .iload_n 3, 447, 0, 0, 0, 0, []), (447, .iconst 1, 448, 0, 0, 0, 1, []), (448, .iadd, 449, 0, 0, 0, 0, []), (449, .iaload, 450, 0, 0, 0, 0, []), (450, .invokevirtual 55, 453, 126, 1, 7, 0, []), (453, .if_icmp .eq 300, 456, 753, 0, 0, 0, []), (456, .iconst 0, 457, 0, 0, 0, 0, []), (457, .ireturn, 458, 0, 0, 0, 0, []), (458, .aload_n 1, 459, 0, 0, 0, 0, []), (459, .aload_n 0, 460, 0, 0, 0, 0, []), (460, .iload_n 3, 461, 0, 0, 0, 0, []), (461, .iconst 1, 462, 0, 0, 0, 1, []), (462, .iadd, 463, 0, 0, 0, 0, []), (463, .iaload, 464, 0, 0, 0, 0, []), (464, .aload_n 0, 465, 0, 0, 0, 0, []), (465, .iload_n 3, 466, 0, 0, 0, 0, []), (466, .iconst 2, 467, 0, 0, 0, 2, []), (467, .iadd, 468, 0, 0, 0, 0, []), (468, .iaload, 469, 0, 0, 0, 0, []), (469, .invokevirtual 56, 472, 76, 2, 6, 0, []), (472, .aload_n 2, 473, 0, 0, 0, 0, []), (473, .aload_n 0, 474, 0, 0, 0, 0, []), (474, .iload_n 3, 475, 0, 0, 0, 0, []), (475, .iconst 1, 476, 0, 0, 0, 1, []), (476, .iadd, 477, 0, 0, 0, 0, []), (477, .iaload, 478, 0, 0, 0, 0, []), (478, .aload_n 0, 479, 0, 0, 0, 0, []), (479, .iload_n 3, 480, 0, 0, 0, 0, []), (480, .iconst 2, 481, 0, 0, 0, 2, []), (481, .iadd, 482, 0, 0, 0, 0, []), (482, .iaload, 483, 0, 0, 0, 0, []), (483, .invokevirtual 59, 486, 128, 2, 7, 0, []), (486, .if_icmp .eq 267, 489, 753, 0, 0, 0, []), (489, .iconst 0, 490, 0, 0, 0, 0, []), (490, .ireturn, 491, 0, 0, 0, 0, []), (491, .aload_n 1, 492, 0, 0, 0, 0, []), (492, .invokevirtual 60, 495, 77, 0, 6, 0, []), (495, .aload_n 2, 496, 0, 0, 0, 0, []), (496, .invokevirtual 64, 499, 129, 0, 7, 0, []), (499, .if_icmp .eq 254, 502, 753, 0, 0, 0, []), (502, .iconst 0, 503, 0, 0, 0, 0, []), (503, .ireturn, 504, 0, 0, 0, 0, []), (504, .aload_n 1, 505, 0, 0, 0, 0, []), (505, .invokevirtual 65, 508, 78, 0, 6, 0, []), (508, .aload_n 2, 509, 0, 0, 0, 0, []), (509, .invokevirtual 68, 512, 130, 0, 7, 0, []), (512, .if_icmp .eq 241, 515, 753, 0, 0, 0, []), (515, .iconst 0, 516, 0, 0, 0, 0, []), (516, .ireturn, 517, 0, 0, 0, 0, []), (517, .aload_n 1, 518, 0, 0, 0, 0, []), (518, .aload_n 0, 519, 0, 0, 0, 0, []), (519, .iload_n 3, 520, 0, 0, 0, 0, []), (520, .iconst 1, 521, 0, 0, 0, 1, []), (521, .iadd, 522, 0, 0, 0, 0, []), (522, .iaload, 523, 0, 0, 0, 0, []), (523, .invokevirtual 69, 526, 79, 1, 6, 0, []), (526, .aload_n 2, 527, 0, 0, 0, 0, []), (527, .aload_n 0, 528, 0, 0, 0, 0, []), (528, .iload_n 3, 529, 0, 0, 0, 0, []), (529, .iconst 1, 530, 0, 0, 0, 1, []), (530, .iadd, 531, 0, 0, 0, 0, []), (531, .iaload, 532, 0, 0, 0, 0, []), (532, .invokevirtual 72, 535, 132, 1, 7, 0, []), (535, .if_icmp .eq 218, 538, 753, 0, 0, 0, []), (538, .iconst 0, 539, 0, 0, 0, 0, []), (539, .ireturn, 540, 0, 0, 0, 0, []), (540, .aload_n 1, 541, 0, 0, 0, 0, []), (541, .invokevirtual 73, 544, 80, 0, 6, 0, []), (544, .aload_n 2, 545, 0, 0, 0, 0, []), (545, .invokevirtual 76, 548, 133, 0, 7, 0, []), (548, .if_icmp .eq 205, 551, 753, 0, 0, 0, []), (551, .iconst 0, 552, 0, 0, 0, 0, []), (552, .ireturn, 553, 0, 0, 0, 0, []), (553, .aload_n 1, 554, 0, 0, 0, 0, []), (554, .aload_n 0, 555, 0, 0, 0, 0, []), (555, .iload_n 3, 556, 0, 0, 0, 0, []), (556, .iconst 1, 557, 0, 0, 0, 1, []), (557, .iadd, 558, 0, 0, 0, 0, []), (558, .iaload, 559, 0, 0, 0, 0, []), (559, .invokevirtual 77, 562, 81, 1, 6, 0, []), (562, .aload_n 2, 563, 0, 0, 0, 0, []), (563, .aload_n 0, 564, 0, 0, 0, 0, []), (564, .iload_n 3, 565, 0, 0, 0, 0, []), (565, .iconst 1, 566, 0, 0, 0, 1, []), (566, .iadd, 567, 0, 0, 0, 0, []), (567, .iaload, 568, 0, 0, 0, 0, []), (568, .invokevirtual 80, 571, 134, 1, 7, 0, []), (571, .if_icmp .eq 182, 574, 753, 0, 0, 0, []), (574, .iconst 0, 575, 0, 0, 0, 0, []), (575, .ireturn, 576, 0, 0, 0, 0, []), (576, .aload_n 1, 577, 0, 0, 0, 0, []), (577, .aload_n 0, 578, 0, 0, 0, 0, []), (578, .iload_n 3, 579, 0, 0, 0, 0, []), (579, .iconst 1, 580, 0, 0, 0, 1, []), (580, .iadd, 581, 0, 0, 0, 0, []), (581, .iaload, 582, 0, 0, 0, 0, []), (582, .invokevirtual 81, 585, 82, 1, 6, 0, []), (585, .aload_n 2, 586, 0, 0, 0, 0, []), (586, .aload_n 0, 587, 0, 0, 0, 0, []), (587, .iload_n 3, 588, 0, 0, 0, 0, []), (588, .iconst 1, 589, 0, 0, 0, 1, []), (589, .iadd, 590, 0, 0, 0, 0, []), (590, .iaload, 591, 0, 0, 0, 0, []), (591, .invokevirtual 84, 594, 135, 1, 7, 0, []), (594, .if_icmp .eq 159, 597, 753, 0, 0, 0, []), (597, .iconst 0, 598, 0, 0, 0, 0, []), (598, .ireturn, 599, 0, 0, 0, 0, []), (599, .aload_n 1, 600, 0, 0, 0, 0, []), (600, .aload_n 0, 601, 0, 0, 0, 0, []), (601, .iload_n 3, 602, 0, 0, 0, 0, []), (602, .iconst 1, 603, 0, 0, 0, 1, []), (603, .iadd, 604, 0, 0, 0, 0, []), (604, .iaload, 605, 0, 0, 0, 0, []), (605, .invokevirtual 85, 608, 83, 1, 6, 0, []), (608, .aload_n 2, 609, 0, 0, 0, 0, []), (609, .aload_n 0, 610, 0, 0, 0, 0, []), (610, .iload_n 3, 611, 0, 0, 0, 0, []), (611, .iconst 1, 612, 0, 0, 0, 1, []), (612, .iadd, 613, 0, 0, 0, 0, []), (613, .iaload, 614, 0, 0, 0, 0, []), (614, .invokevirtual 88, 617, 137, 1, 7, 0, []), (617, .if_icmp .eq 136, 620, 753, 0, 0, 0, []), (620, .iconst 0, 621, 0, 0, 0, 0, []), (621, .ireturn, 622, 0, 0, 0, 0, []), (622, .aload_n 1, 623, 0, 0, 0, 0, []), (623, .aload_n 0, 624, 0, 0, 0, 0, []), (624, .iload_n 3, 625, 0, 0, 0, 0, []), (625, .iconst 1, 626, 0, 0, 0, 1, []), (626, .iadd, 627, 0, 0, 0, 0, []), (627, .iaload, 628, 0, 0, 0, 0, []), (628, .invokevirtual 89, 631, 84, 1, 6, 0, []), (631, .aload_n 2, 632, 0, 0, 0, 0, []), (632, .aload_n 0, 633, 0, 0, 0, 0, []), (633, .iload_n 3, 634, 0, 0, 0, 0, []), (634, .iconst 1, 635, 0, 0, 0, 1, []), (635, .iadd, 636, 0, 0, 0, 0, []), (636, .iaload, 637, 0, 0, 0, 0, []), (637, .invokevirtual 92, 640, 140, 1, 7, 0, []), (640, .if_icmp .eq 113, 643, 753, 0, 0, 0, []), (643, .iconst 0, 644, 0, 0, 0, 0, []), (644, .ireturn, 645, 0, 0, 0, 0, []), (645, .aload_n 1, 646, 0, 0, 0, 0, []), (646, .aload_n 0, 647, 0, 0, 0, 0, []), (647, .iload_n 3, 648, 0, 0, 0, 0, []), (648, .iconst 1, 649, 0, 0, 0, 1, []), (649, .iadd, 650, 0, 0, 0, 0, []), (650, .iaload, 651, 0, 0, 0, 0, []), (651, .invokevirtual 93, 654, 85, 1, 6, 0, []), (654, .aload_n 2, 655, 0, 0, 0, 0, []), (655, .aload_n 0, 656, 0, 0, 0, 0, []), (656, .iload_n 3, 657, 0, 0, 0, 0, []), (657, .iconst 1, 658, 0, 0, 0, 1, []), (658, .iadd, 659, 0, 0, 0, 0, []), (659, .iaload, 660, 0, 0, 0, 0, []), (660, .invokevirtual 96, 663, 142, 1, 7, 0, []), (663, .if_icmp .eq 90, 666, 753, 0, 0, 0, []), (666, .iconst 0, 667, 0, 0, 0, 0, []), (667, .ireturn, 668, 0, 0, 0, 0, []), (668, .aload_n 1, 669, 0, 0, 0, 0, []), (669, .invokevirtual 97, 672, 86, 0, 6, 0, []), (672, .aload_n 2, 673, 0, 0, 0, 0, []), (673, .invokevirtual 100, 676, 143, 0, 7, 0, []), (676, .if_icmp .eq 77, 679, 753, 0, 0, 0, []), (679, .iconst 0, 680, 0, 0, 0, 0, []), (680, .ireturn, 681, 0, 0, 0, 0, []), (681, .aload_n 1, 682, 0, 0, 0, 0, []), (682, .aload_n 0, 683, 0, 0, 0, 0, []), (683, .iload_n 3, 684, 0, 0, 0, 0, []), (684, .iconst 1, 685, 0, 0, 0, 1, []), (685, .iadd, 686, 0, 0, 0, 0, []), (686, .iaload, 687, 0, 0, 0, 0, []), (687, .invokevirtual 101, 690, 87, 1, 6, 0, []), (690, .aload_n 2, 691, 0, 0, 0, 0, []), (691, .aload_n 0, 692, 0, 0, 0, 0, []), (692, .iload_n 3, 693, 0, 0, 0, 0, []), (693, .iconst 1, 694, 0, 0, 0, 1, []), (694, .iadd, 695, 0, 0, 0, 0, []), (695, .iaload, 696, 0, 0, 0, 0, []), (696, .invokevirtual 104, 699, 144, 1, 7, 0, []), (699, .if_icmp .eq 54, 702, 753, 0, 0, 0, []), (702, .iconst 0, 703, 0, 0, 0, 0, []), (703, .ireturn, 704, 0, 0, 0, 0, []), (704, .aload_n 1, 705, 0, 0, 0, 0, []), (705, .invokevirtual 105, 708, 88, 0, 6, 0, []), (708, .aload_n 2, 709, 0, 0, 0, 0, []), (709, .invokevirtual 108, 712, 145, 0, 7, 0, []), (712, .if_icmp .eq 41, 715, 753, 0, 0, 0, []), (715, .iconst 0, 716, 0, 0, 0, 0, []), (716, .ireturn, 717, 0, 0, 0, 0, []), (717, .aload_n 1, 718, 0, 0, 0, 0, []), (718, .aload_n 0, 719, 0, 0, 0, 0, []), (719, .iload_n 3, 720, 0, 0, 0, 0, []), (720, .iconst 1, 721, 0, 0, 0, 1, []), (721, .iadd, 722, 0, 0, 0, 0, []), (722, .iaload, 723, 0, 0, 0, 0, []), (723, .invokevirtual 109, 726, 89, 1, 6, 0, []), (726, .aload_n 2, 727, 0, 0, 0, 0, []), (727, .aload_n 0, 728, 0, 0, 0, 0, []), (728, .iload_n 3, 729, 0, 0, 0, 0, []), (729, .iconst 1, 730, 0, 0, 0, 1, []), (730, .iadd, 731, 0, 0, 0, 0, []), (731, .iaload, 732, 0, 0, 0, 0, []), (732, .invokevirtual 112, 735, 154, 1, 7, 0, []), (735, .if_icmp .eq 18, 738, 753, 0, 0, 0, []), (738, .iconst 0, 739, 0, 0, 0, 0, []), (739, .ireturn, 740, 0, 0, 0, 0, []), (740, .aload_n 1, 741, 0, 0, 0, 0, []), (741, .invokevirtual 113, 744, 90, 0, 6, 0, []), (744, .aload_n 2, 745, 0, 0, 0, 0, []), (745, .invokevirtual 116, 748, 155, 0, 7, 0, []), (748, .if_icmp .eq 5, 751, 753, 0, 0, 0, []), (751, .iconst 0, 752, 0, 0, 0, 0, []), (752, .ireturn, 753, 0, 0, 0, 0, []), (753, .iinc 3 4, 756, 0, 0, 0, 4, []), (756, .goto (-738), 759, 18, 0, 0, 0, []), (759, .iconst 1, 760, 0, 0, 0, 1, []), (760, .ireturn, 761, 0, 0, 0, 0, [])]
def tbL_law : Nat → pm_E := pm_lk ltL_law
theorem okL_law : ∀ pc, (tbL_law pc).1 = .nop ∨ pm_ok mL_law pw_Ms pc (tbL_law pc) := pm_lk_ok (by decide +kernel)
theorem nr_L_law : mL_law.2.2.2 = (some .boolean) := rfl
set_option maxRecDepth 20000 in
theorem tL_law_3 : tbL_law 3 = (.dup, 4, 0, 0, 0, 0, []) := rfl
set_option maxRecDepth 20000 in
theorem tL_law_7 : tbL_law 7 = (.astore_n 1, 8, 0, 0, 0, 0, []) := rfl
set_option maxRecDepth 20000 in
theorem tL_law_11 : tbL_law 11 = (.dup, 12, 0, 0, 0, 0, []) := rfl
set_option maxRecDepth 20000 in
theorem tL_law_15 : tbL_law 15 = (.astore_n 2, 16, 0, 0, 0, 0, []) := rfl
set_option maxRecDepth 20000 in
theorem tL_law_16 : tbL_law 16 = (.iconst 0, 17, 0, 0, 0, 0, []) := rfl
set_option maxRecDepth 20000 in
theorem tL_law_17 : tbL_law 17 = (.istore_n 3, 18, 0, 0, 0, 0, []) := rfl
set_option maxRecDepth 20000 in
theorem tL_law_18 : tbL_law 18 = (.iload_n 3, 19, 0, 0, 0, 0, []) := rfl
set_option maxRecDepth 20000 in
theorem tL_law_19 : tbL_law 19 = (.aload_n 0, 20, 0, 0, 0, 0, []) := rfl
set_option maxRecDepth 20000 in
theorem tL_law_20 : tbL_law 20 = (.arraylength, 21, 0, 0, 0, 0, []) := rfl
set_option maxRecDepth 20000 in
theorem tL_law_21 : tbL_law 21 = (.iconst 4, 22, 0, 0, 0, 4, []) := rfl
set_option maxRecDepth 20000 in
theorem tL_law_22 : tbL_law 22 = (.isub, 23, 0, 0, 0, 0, []) := rfl
set_option maxRecDepth 20000 in
theorem tL_law_23 : tbL_law 23 = (.if_icmp .gt 736, 26, 759, 0, 0, 0, []) := rfl
set_option maxRecDepth 20000 in
theorem tL_law_26 : tbL_law 26 = (.aload_n 0, 27, 0, 0, 0, 0, []) := rfl
set_option maxRecDepth 20000 in
theorem tL_law_27 : tbL_law 27 = (.iload_n 3, 28, 0, 0, 0, 0, []) := rfl
set_option maxRecDepth 20000 in
theorem tL_law_28 : tbL_law 28 = (.iaload, 29, 0, 0, 0, 0, []) := rfl
set_option maxRecDepth 20000 in
theorem tL_law_29 : tbL_law 29 = (.bipush 31, 31, 0, 0, 0, 31, []) := rfl
set_option maxRecDepth 20000 in
theorem tL_law_31 : tbL_law 31 = (.iand, 32, 0, 0, 0, 0, []) := rfl
set_option maxRecDepth 20000 in
theorem tL_law_32 : tbL_law 32 = (.tableswitch 721 0 24 #[116, 149, 192, 225, 258, 281, 304, 337, 370, 403, 426, 459, 472, 485, 508, 521, 544, 567, 590, 613, 636, 649, 672, 685, 708], 148, 753, 0, 0, 0, [(0, 148), (1, 181), (2, 224), (3, 257), (4, 290), (5, 313), (6, 336), (7, 369), (8, 402), (9, 435), (10, 458), (11, 491), (12, 504), (13, 517), (14, 540), (15, 553), (16, 576), (17, 599), (18, 622), (19, 645), (20, 668), (21, 681), (22, 704), (23, 717), (24, 740)]) := rfl
set_option maxRecDepth 20000 in
theorem tL_law_148 : tbL_law 148 = (.aload_n 1, 149, 0, 0, 0, 0, []) := rfl
set_option maxRecDepth 20000 in
theorem tL_law_149 : tbL_law 149 = (.aload_n 0, 150, 0, 0, 0, 0, []) := rfl
set_option maxRecDepth 20000 in
theorem tL_law_150 : tbL_law 150 = (.iload_n 3, 151, 0, 0, 0, 0, []) := rfl
set_option maxRecDepth 20000 in
theorem tL_law_151 : tbL_law 151 = (.iconst 1, 152, 0, 0, 0, 1, []) := rfl
set_option maxRecDepth 20000 in
theorem tL_law_152 : tbL_law 152 = (.iadd, 153, 0, 0, 0, 0, []) := rfl
set_option maxRecDepth 20000 in
theorem tL_law_153 : tbL_law 153 = (.iaload, 154, 0, 0, 0, 0, []) := rfl
set_option maxRecDepth 20000 in
theorem tL_law_154 : tbL_law 154 = (.aload_n 0, 155, 0, 0, 0, 0, []) := rfl
set_option maxRecDepth 20000 in
theorem tL_law_155 : tbL_law 155 = (.iload_n 3, 156, 0, 0, 0, 0, []) := rfl
set_option maxRecDepth 20000 in
theorem tL_law_156 : tbL_law 156 = (.iconst 2, 157, 0, 0, 0, 2, []) := rfl
set_option maxRecDepth 20000 in
theorem tL_law_157 : tbL_law 157 = (.iadd, 158, 0, 0, 0, 0, []) := rfl
set_option maxRecDepth 20000 in
theorem tL_law_158 : tbL_law 158 = (.iaload, 159, 0, 0, 0, 0, []) := rfl
set_option maxRecDepth 20000 in
theorem tL_law_159 : tbL_law 159 = (.invokevirtual 13, 162, 66, 2, 6, 0, []) := rfl
set_option maxRecDepth 20000 in
theorem tL_law_162 : tbL_law 162 = (.aload_n 2, 163, 0, 0, 0, 0, []) := rfl
set_option maxRecDepth 20000 in
theorem tL_law_163 : tbL_law 163 = (.aload_n 0, 164, 0, 0, 0, 0, []) := rfl
set_option maxRecDepth 20000 in
theorem tL_law_164 : tbL_law 164 = (.iload_n 3, 165, 0, 0, 0, 0, []) := rfl
set_option maxRecDepth 20000 in
theorem tL_law_165 : tbL_law 165 = (.iconst 1, 166, 0, 0, 0, 1, []) := rfl
set_option maxRecDepth 20000 in
theorem tL_law_166 : tbL_law 166 = (.iadd, 167, 0, 0, 0, 0, []) := rfl
set_option maxRecDepth 20000 in
theorem tL_law_167 : tbL_law 167 = (.iaload, 168, 0, 0, 0, 0, []) := rfl
set_option maxRecDepth 20000 in
theorem tL_law_168 : tbL_law 168 = (.aload_n 0, 169, 0, 0, 0, 0, []) := rfl
set_option maxRecDepth 20000 in
theorem tL_law_169 : tbL_law 169 = (.iload_n 3, 170, 0, 0, 0, 0, []) := rfl
set_option maxRecDepth 20000 in
theorem tL_law_170 : tbL_law 170 = (.iconst 2, 171, 0, 0, 0, 2, []) := rfl
set_option maxRecDepth 20000 in
theorem tL_law_171 : tbL_law 171 = (.iadd, 172, 0, 0, 0, 0, []) := rfl
set_option maxRecDepth 20000 in
theorem tL_law_172 : tbL_law 172 = (.iaload, 173, 0, 0, 0, 0, []) := rfl
set_option maxRecDepth 20000 in
theorem tL_law_173 : tbL_law 173 = (.invokevirtual 17, 176, 104, 2, 7, 0, []) := rfl
set_option maxRecDepth 20000 in
theorem tL_law_176 : tbL_law 176 = (.if_icmp .eq 577, 179, 753, 0, 0, 0, []) := rfl
set_option maxRecDepth 20000 in
theorem tL_law_179 : tbL_law 179 = (.iconst 0, 180, 0, 0, 0, 0, []) := rfl
set_option maxRecDepth 20000 in
theorem tL_law_180 : tbL_law 180 = (.ireturn, 181, 0, 0, 0, 0, []) := rfl
set_option maxRecDepth 20000 in
theorem tL_law_181 : tbL_law 181 = (.aload_n 1, 182, 0, 0, 0, 0, []) := rfl
set_option maxRecDepth 20000 in
theorem tL_law_182 : tbL_law 182 = (.aload_n 0, 183, 0, 0, 0, 0, []) := rfl
set_option maxRecDepth 20000 in
theorem tL_law_183 : tbL_law 183 = (.iload_n 3, 184, 0, 0, 0, 0, []) := rfl
set_option maxRecDepth 20000 in
theorem tL_law_184 : tbL_law 184 = (.iconst 1, 185, 0, 0, 0, 1, []) := rfl
set_option maxRecDepth 20000 in
theorem tL_law_185 : tbL_law 185 = (.iadd, 186, 0, 0, 0, 0, []) := rfl
set_option maxRecDepth 20000 in
theorem tL_law_186 : tbL_law 186 = (.iaload, 187, 0, 0, 0, 0, []) := rfl
set_option maxRecDepth 20000 in
theorem tL_law_187 : tbL_law 187 = (.aload_n 0, 188, 0, 0, 0, 0, []) := rfl
set_option maxRecDepth 20000 in
theorem tL_law_188 : tbL_law 188 = (.iload_n 3, 189, 0, 0, 0, 0, []) := rfl
set_option maxRecDepth 20000 in
theorem tL_law_189 : tbL_law 189 = (.iconst 2, 190, 0, 0, 0, 2, []) := rfl
set_option maxRecDepth 20000 in
theorem tL_law_190 : tbL_law 190 = (.iadd, 191, 0, 0, 0, 0, []) := rfl
set_option maxRecDepth 20000 in
theorem tL_law_191 : tbL_law 191 = (.iaload, 192, 0, 0, 0, 0, []) := rfl
set_option maxRecDepth 20000 in
theorem tL_law_192 : tbL_law 192 = (.aload_n 0, 193, 0, 0, 0, 0, []) := rfl
set_option maxRecDepth 20000 in
theorem tL_law_193 : tbL_law 193 = (.iload_n 3, 194, 0, 0, 0, 0, []) := rfl
set_option maxRecDepth 20000 in
theorem tL_law_194 : tbL_law 194 = (.iconst 3, 195, 0, 0, 0, 3, []) := rfl
set_option maxRecDepth 20000 in
theorem tL_law_195 : tbL_law 195 = (.iadd, 196, 0, 0, 0, 0, []) := rfl
set_option maxRecDepth 20000 in
theorem tL_law_196 : tbL_law 196 = (.iaload, 197, 0, 0, 0, 0, []) := rfl
set_option maxRecDepth 20000 in
theorem tL_law_197 : tbL_law 197 = (.invokevirtual 18, 200, 67, 3, 6, 0, []) := rfl
set_option maxRecDepth 20000 in
theorem tL_law_200 : tbL_law 200 = (.aload_n 2, 201, 0, 0, 0, 0, []) := rfl
set_option maxRecDepth 20000 in
theorem tL_law_201 : tbL_law 201 = (.aload_n 0, 202, 0, 0, 0, 0, []) := rfl
set_option maxRecDepth 20000 in
theorem tL_law_202 : tbL_law 202 = (.iload_n 3, 203, 0, 0, 0, 0, []) := rfl
set_option maxRecDepth 20000 in
theorem tL_law_203 : tbL_law 203 = (.iconst 1, 204, 0, 0, 0, 1, []) := rfl
set_option maxRecDepth 20000 in
theorem tL_law_204 : tbL_law 204 = (.iadd, 205, 0, 0, 0, 0, []) := rfl
set_option maxRecDepth 20000 in
theorem tL_law_205 : tbL_law 205 = (.iaload, 206, 0, 0, 0, 0, []) := rfl
set_option maxRecDepth 20000 in
theorem tL_law_206 : tbL_law 206 = (.aload_n 0, 207, 0, 0, 0, 0, []) := rfl
set_option maxRecDepth 20000 in
theorem tL_law_207 : tbL_law 207 = (.iload_n 3, 208, 0, 0, 0, 0, []) := rfl
set_option maxRecDepth 20000 in
theorem tL_law_208 : tbL_law 208 = (.iconst 2, 209, 0, 0, 0, 2, []) := rfl
set_option maxRecDepth 20000 in
theorem tL_law_209 : tbL_law 209 = (.iadd, 210, 0, 0, 0, 0, []) := rfl
set_option maxRecDepth 20000 in
theorem tL_law_210 : tbL_law 210 = (.iaload, 211, 0, 0, 0, 0, []) := rfl
set_option maxRecDepth 20000 in
theorem tL_law_211 : tbL_law 211 = (.aload_n 0, 212, 0, 0, 0, 0, []) := rfl
set_option maxRecDepth 20000 in
theorem tL_law_212 : tbL_law 212 = (.iload_n 3, 213, 0, 0, 0, 0, []) := rfl
set_option maxRecDepth 20000 in
theorem tL_law_213 : tbL_law 213 = (.iconst 3, 214, 0, 0, 0, 3, []) := rfl
set_option maxRecDepth 20000 in
theorem tL_law_214 : tbL_law 214 = (.iadd, 215, 0, 0, 0, 0, []) := rfl
set_option maxRecDepth 20000 in
theorem tL_law_215 : tbL_law 215 = (.iaload, 216, 0, 0, 0, 0, []) := rfl
set_option maxRecDepth 20000 in
theorem tL_law_216 : tbL_law 216 = (.invokevirtual 22, 219, 105, 3, 7, 0, []) := rfl
set_option maxRecDepth 20000 in
theorem tL_law_219 : tbL_law 219 = (.if_icmp .eq 534, 222, 753, 0, 0, 0, []) := rfl
set_option maxRecDepth 20000 in
theorem tL_law_222 : tbL_law 222 = (.iconst 0, 223, 0, 0, 0, 0, []) := rfl
set_option maxRecDepth 20000 in
theorem tL_law_223 : tbL_law 223 = (.ireturn, 224, 0, 0, 0, 0, []) := rfl
set_option maxRecDepth 20000 in
theorem tL_law_224 : tbL_law 224 = (.aload_n 1, 225, 0, 0, 0, 0, []) := rfl
set_option maxRecDepth 20000 in
theorem tL_law_225 : tbL_law 225 = (.aload_n 0, 226, 0, 0, 0, 0, []) := rfl
set_option maxRecDepth 20000 in
theorem tL_law_226 : tbL_law 226 = (.iload_n 3, 227, 0, 0, 0, 0, []) := rfl
set_option maxRecDepth 20000 in
theorem tL_law_227 : tbL_law 227 = (.iconst 1, 228, 0, 0, 0, 1, []) := rfl
set_option maxRecDepth 20000 in
theorem tL_law_228 : tbL_law 228 = (.iadd, 229, 0, 0, 0, 0, []) := rfl
set_option maxRecDepth 20000 in
theorem tL_law_229 : tbL_law 229 = (.iaload, 230, 0, 0, 0, 0, []) := rfl
set_option maxRecDepth 20000 in
theorem tL_law_230 : tbL_law 230 = (.aload_n 0, 231, 0, 0, 0, 0, []) := rfl
set_option maxRecDepth 20000 in
theorem tL_law_231 : tbL_law 231 = (.iload_n 3, 232, 0, 0, 0, 0, []) := rfl
set_option maxRecDepth 20000 in
theorem tL_law_232 : tbL_law 232 = (.iconst 2, 233, 0, 0, 0, 2, []) := rfl
set_option maxRecDepth 20000 in
theorem tL_law_233 : tbL_law 233 = (.iadd, 234, 0, 0, 0, 0, []) := rfl
set_option maxRecDepth 20000 in
theorem tL_law_234 : tbL_law 234 = (.iaload, 235, 0, 0, 0, 0, []) := rfl
set_option maxRecDepth 20000 in
theorem tL_law_235 : tbL_law 235 = (.invokevirtual 23, 238, 68, 2, 6, 0, []) := rfl
set_option maxRecDepth 20000 in
theorem tL_law_238 : tbL_law 238 = (.aload_n 2, 239, 0, 0, 0, 0, []) := rfl
set_option maxRecDepth 20000 in
theorem tL_law_239 : tbL_law 239 = (.aload_n 0, 240, 0, 0, 0, 0, []) := rfl
set_option maxRecDepth 20000 in
theorem tL_law_240 : tbL_law 240 = (.iload_n 3, 241, 0, 0, 0, 0, []) := rfl
set_option maxRecDepth 20000 in
theorem tL_law_241 : tbL_law 241 = (.iconst 1, 242, 0, 0, 0, 1, []) := rfl
set_option maxRecDepth 20000 in
theorem tL_law_242 : tbL_law 242 = (.iadd, 243, 0, 0, 0, 0, []) := rfl
set_option maxRecDepth 20000 in
theorem tL_law_243 : tbL_law 243 = (.iaload, 244, 0, 0, 0, 0, []) := rfl
set_option maxRecDepth 20000 in
theorem tL_law_244 : tbL_law 244 = (.aload_n 0, 245, 0, 0, 0, 0, []) := rfl
set_option maxRecDepth 20000 in
theorem tL_law_245 : tbL_law 245 = (.iload_n 3, 246, 0, 0, 0, 0, []) := rfl
set_option maxRecDepth 20000 in
theorem tL_law_246 : tbL_law 246 = (.iconst 2, 247, 0, 0, 0, 2, []) := rfl
set_option maxRecDepth 20000 in
theorem tL_law_247 : tbL_law 247 = (.iadd, 248, 0, 0, 0, 0, []) := rfl
set_option maxRecDepth 20000 in
theorem tL_law_248 : tbL_law 248 = (.iaload, 249, 0, 0, 0, 0, []) := rfl
set_option maxRecDepth 20000 in
theorem tL_law_249 : tbL_law 249 = (.invokevirtual 26, 252, 109, 2, 7, 0, []) := rfl
set_option maxRecDepth 20000 in
theorem tL_law_252 : tbL_law 252 = (.if_icmp .eq 501, 255, 753, 0, 0, 0, []) := rfl
set_option maxRecDepth 20000 in
theorem tL_law_255 : tbL_law 255 = (.iconst 0, 256, 0, 0, 0, 0, []) := rfl
set_option maxRecDepth 20000 in
theorem tL_law_256 : tbL_law 256 = (.ireturn, 257, 0, 0, 0, 0, []) := rfl
set_option maxRecDepth 20000 in
theorem tL_law_257 : tbL_law 257 = (.aload_n 1, 258, 0, 0, 0, 0, []) := rfl
set_option maxRecDepth 20000 in
theorem tL_law_258 : tbL_law 258 = (.aload_n 0, 259, 0, 0, 0, 0, []) := rfl
set_option maxRecDepth 20000 in
theorem tL_law_259 : tbL_law 259 = (.iload_n 3, 260, 0, 0, 0, 0, []) := rfl
set_option maxRecDepth 20000 in
theorem tL_law_260 : tbL_law 260 = (.iconst 1, 261, 0, 0, 0, 1, []) := rfl
set_option maxRecDepth 20000 in
theorem tL_law_261 : tbL_law 261 = (.iadd, 262, 0, 0, 0, 0, []) := rfl
set_option maxRecDepth 20000 in
theorem tL_law_262 : tbL_law 262 = (.iaload, 263, 0, 0, 0, 0, []) := rfl
set_option maxRecDepth 20000 in
theorem tL_law_263 : tbL_law 263 = (.aload_n 0, 264, 0, 0, 0, 0, []) := rfl
set_option maxRecDepth 20000 in
theorem tL_law_264 : tbL_law 264 = (.iload_n 3, 265, 0, 0, 0, 0, []) := rfl
set_option maxRecDepth 20000 in
theorem tL_law_265 : tbL_law 265 = (.iconst 2, 266, 0, 0, 0, 2, []) := rfl
set_option maxRecDepth 20000 in
theorem tL_law_266 : tbL_law 266 = (.iadd, 267, 0, 0, 0, 0, []) := rfl
set_option maxRecDepth 20000 in
theorem tL_law_267 : tbL_law 267 = (.iaload, 268, 0, 0, 0, 0, []) := rfl
set_option maxRecDepth 20000 in
theorem tL_law_268 : tbL_law 268 = (.invokevirtual 27, 271, 69, 2, 6, 0, []) := rfl
set_option maxRecDepth 20000 in
theorem tL_law_271 : tbL_law 271 = (.aload_n 2, 272, 0, 0, 0, 0, []) := rfl
set_option maxRecDepth 20000 in
theorem tL_law_272 : tbL_law 272 = (.aload_n 0, 273, 0, 0, 0, 0, []) := rfl
set_option maxRecDepth 20000 in
theorem tL_law_273 : tbL_law 273 = (.iload_n 3, 274, 0, 0, 0, 0, []) := rfl
set_option maxRecDepth 20000 in
theorem tL_law_274 : tbL_law 274 = (.iconst 1, 275, 0, 0, 0, 1, []) := rfl
set_option maxRecDepth 20000 in
theorem tL_law_275 : tbL_law 275 = (.iadd, 276, 0, 0, 0, 0, []) := rfl
set_option maxRecDepth 20000 in
theorem tL_law_276 : tbL_law 276 = (.iaload, 277, 0, 0, 0, 0, []) := rfl
set_option maxRecDepth 20000 in
theorem tL_law_277 : tbL_law 277 = (.aload_n 0, 278, 0, 0, 0, 0, []) := rfl
set_option maxRecDepth 20000 in
theorem tL_law_278 : tbL_law 278 = (.iload_n 3, 279, 0, 0, 0, 0, []) := rfl
set_option maxRecDepth 20000 in
theorem tL_law_279 : tbL_law 279 = (.iconst 2, 280, 0, 0, 0, 2, []) := rfl
set_option maxRecDepth 20000 in
theorem tL_law_280 : tbL_law 280 = (.iadd, 281, 0, 0, 0, 0, []) := rfl
set_option maxRecDepth 20000 in
theorem tL_law_281 : tbL_law 281 = (.iaload, 282, 0, 0, 0, 0, []) := rfl
set_option maxRecDepth 20000 in
theorem tL_law_282 : tbL_law 282 = (.invokevirtual 30, 285, 110, 2, 7, 0, []) := rfl
set_option maxRecDepth 20000 in
theorem tL_law_285 : tbL_law 285 = (.if_icmp .eq 468, 288, 753, 0, 0, 0, []) := rfl
set_option maxRecDepth 20000 in
theorem tL_law_288 : tbL_law 288 = (.iconst 0, 289, 0, 0, 0, 0, []) := rfl
set_option maxRecDepth 20000 in
theorem tL_law_289 : tbL_law 289 = (.ireturn, 290, 0, 0, 0, 0, []) := rfl
set_option maxRecDepth 20000 in
theorem tL_law_290 : tbL_law 290 = (.aload_n 1, 291, 0, 0, 0, 0, []) := rfl
set_option maxRecDepth 20000 in
theorem tL_law_291 : tbL_law 291 = (.aload_n 0, 292, 0, 0, 0, 0, []) := rfl
set_option maxRecDepth 20000 in
theorem tL_law_292 : tbL_law 292 = (.iload_n 3, 293, 0, 0, 0, 0, []) := rfl
set_option maxRecDepth 20000 in
theorem tL_law_293 : tbL_law 293 = (.iconst 1, 294, 0, 0, 0, 1, []) := rfl
set_option maxRecDepth 20000 in
theorem tL_law_294 : tbL_law 294 = (.iadd, 295, 0, 0, 0, 0, []) := rfl
set_option maxRecDepth 20000 in
theorem tL_law_295 : tbL_law 295 = (.iaload, 296, 0, 0, 0, 0, []) := rfl
set_option maxRecDepth 20000 in
theorem tL_law_296 : tbL_law 296 = (.invokevirtual 31, 299, 70, 1, 6, 0, []) := rfl
set_option maxRecDepth 20000 in
theorem tL_law_299 : tbL_law 299 = (.aload_n 2, 300, 0, 0, 0, 0, []) := rfl
set_option maxRecDepth 20000 in
theorem tL_law_300 : tbL_law 300 = (.aload_n 0, 301, 0, 0, 0, 0, []) := rfl
set_option maxRecDepth 20000 in
theorem tL_law_301 : tbL_law 301 = (.iload_n 3, 302, 0, 0, 0, 0, []) := rfl
set_option maxRecDepth 20000 in
theorem tL_law_302 : tbL_law 302 = (.iconst 1, 303, 0, 0, 0, 1, []) := rfl
set_option maxRecDepth 20000 in
theorem tL_law_303 : tbL_law 303 = (.iadd, 304, 0, 0, 0, 0, []) := rfl
set_option maxRecDepth 20000 in
theorem tL_law_304 : tbL_law 304 = (.iaload, 305, 0, 0, 0, 0, []) := rfl
set_option maxRecDepth 20000 in
theorem tL_law_305 : tbL_law 305 = (.invokevirtual 35, 308, 111, 1, 7, 0, []) := rfl
set_option maxRecDepth 20000 in
theorem tL_law_308 : tbL_law 308 = (.if_icmp .eq 445, 311, 753, 0, 0, 0, []) := rfl
set_option maxRecDepth 20000 in
theorem tL_law_311 : tbL_law 311 = (.iconst 0, 312, 0, 0, 0, 0, []) := rfl
set_option maxRecDepth 20000 in
theorem tL_law_312 : tbL_law 312 = (.ireturn, 313, 0, 0, 0, 0, []) := rfl
set_option maxRecDepth 20000 in
theorem tL_law_313 : tbL_law 313 = (.aload_n 1, 314, 0, 0, 0, 0, []) := rfl
set_option maxRecDepth 20000 in
theorem tL_law_314 : tbL_law 314 = (.aload_n 0, 315, 0, 0, 0, 0, []) := rfl
set_option maxRecDepth 20000 in
theorem tL_law_315 : tbL_law 315 = (.iload_n 3, 316, 0, 0, 0, 0, []) := rfl
set_option maxRecDepth 20000 in
theorem tL_law_316 : tbL_law 316 = (.iconst 1, 317, 0, 0, 0, 1, []) := rfl
set_option maxRecDepth 20000 in
theorem tL_law_317 : tbL_law 317 = (.iadd, 318, 0, 0, 0, 0, []) := rfl
set_option maxRecDepth 20000 in
theorem tL_law_318 : tbL_law 318 = (.iaload, 319, 0, 0, 0, 0, []) := rfl
set_option maxRecDepth 20000 in
theorem tL_law_319 : tbL_law 319 = (.invokevirtual 36, 322, 71, 1, 6, 0, []) := rfl
set_option maxRecDepth 20000 in
theorem tL_law_322 : tbL_law 322 = (.aload_n 2, 323, 0, 0, 0, 0, []) := rfl
set_option maxRecDepth 20000 in
theorem tL_law_323 : tbL_law 323 = (.aload_n 0, 324, 0, 0, 0, 0, []) := rfl
set_option maxRecDepth 20000 in
theorem tL_law_324 : tbL_law 324 = (.iload_n 3, 325, 0, 0, 0, 0, []) := rfl
set_option maxRecDepth 20000 in
theorem tL_law_325 : tbL_law 325 = (.iconst 1, 326, 0, 0, 0, 1, []) := rfl
set_option maxRecDepth 20000 in
theorem tL_law_326 : tbL_law 326 = (.iadd, 327, 0, 0, 0, 0, []) := rfl
set_option maxRecDepth 20000 in
theorem tL_law_327 : tbL_law 327 = (.iaload, 328, 0, 0, 0, 0, []) := rfl
set_option maxRecDepth 20000 in
theorem tL_law_328 : tbL_law 328 = (.invokevirtual 39, 331, 112, 1, 7, 0, []) := rfl
set_option maxRecDepth 20000 in
theorem tL_law_331 : tbL_law 331 = (.if_icmp .eq 422, 334, 753, 0, 0, 0, []) := rfl
set_option maxRecDepth 20000 in
theorem tL_law_334 : tbL_law 334 = (.iconst 0, 335, 0, 0, 0, 0, []) := rfl
set_option maxRecDepth 20000 in
theorem tL_law_335 : tbL_law 335 = (.ireturn, 336, 0, 0, 0, 0, []) := rfl
set_option maxRecDepth 20000 in
theorem tL_law_336 : tbL_law 336 = (.aload_n 1, 337, 0, 0, 0, 0, []) := rfl
set_option maxRecDepth 20000 in
theorem tL_law_337 : tbL_law 337 = (.aload_n 0, 338, 0, 0, 0, 0, []) := rfl
set_option maxRecDepth 20000 in
theorem tL_law_338 : tbL_law 338 = (.iload_n 3, 339, 0, 0, 0, 0, []) := rfl
set_option maxRecDepth 20000 in
theorem tL_law_339 : tbL_law 339 = (.iconst 1, 340, 0, 0, 0, 1, []) := rfl
set_option maxRecDepth 20000 in
theorem tL_law_340 : tbL_law 340 = (.iadd, 341, 0, 0, 0, 0, []) := rfl
set_option maxRecDepth 20000 in
theorem tL_law_341 : tbL_law 341 = (.iaload, 342, 0, 0, 0, 0, []) := rfl
set_option maxRecDepth 20000 in
theorem tL_law_342 : tbL_law 342 = (.aload_n 0, 343, 0, 0, 0, 0, []) := rfl
set_option maxRecDepth 20000 in
theorem tL_law_343 : tbL_law 343 = (.iload_n 3, 344, 0, 0, 0, 0, []) := rfl
set_option maxRecDepth 20000 in
theorem tL_law_344 : tbL_law 344 = (.iconst 2, 345, 0, 0, 0, 2, []) := rfl
set_option maxRecDepth 20000 in
theorem tL_law_345 : tbL_law 345 = (.iadd, 346, 0, 0, 0, 0, []) := rfl
set_option maxRecDepth 20000 in
theorem tL_law_346 : tbL_law 346 = (.iaload, 347, 0, 0, 0, 0, []) := rfl
set_option maxRecDepth 20000 in
theorem tL_law_347 : tbL_law 347 = (.invokevirtual 40, 350, 72, 2, 6, 0, []) := rfl
set_option maxRecDepth 20000 in
theorem tL_law_350 : tbL_law 350 = (.aload_n 2, 351, 0, 0, 0, 0, []) := rfl
set_option maxRecDepth 20000 in
theorem tL_law_351 : tbL_law 351 = (.aload_n 0, 352, 0, 0, 0, 0, []) := rfl
set_option maxRecDepth 20000 in
theorem tL_law_352 : tbL_law 352 = (.iload_n 3, 353, 0, 0, 0, 0, []) := rfl
set_option maxRecDepth 20000 in
theorem tL_law_353 : tbL_law 353 = (.iconst 1, 354, 0, 0, 0, 1, []) := rfl
set_option maxRecDepth 20000 in
theorem tL_law_354 : tbL_law 354 = (.iadd, 355, 0, 0, 0, 0, []) := rfl
set_option maxRecDepth 20000 in
theorem tL_law_355 : tbL_law 355 = (.iaload, 356, 0, 0, 0, 0, []) := rfl
set_option maxRecDepth 20000 in
theorem tL_law_356 : tbL_law 356 = (.aload_n 0, 357, 0, 0, 0, 0, []) := rfl
set_option maxRecDepth 20000 in
theorem tL_law_357 : tbL_law 357 = (.iload_n 3, 358, 0, 0, 0, 0, []) := rfl
set_option maxRecDepth 20000 in
theorem tL_law_358 : tbL_law 358 = (.iconst 2, 359, 0, 0, 0, 2, []) := rfl
set_option maxRecDepth 20000 in
theorem tL_law_359 : tbL_law 359 = (.iadd, 360, 0, 0, 0, 0, []) := rfl
set_option maxRecDepth 20000 in
theorem tL_law_360 : tbL_law 360 = (.iaload, 361, 0, 0, 0, 0, []) := rfl
set_option maxRecDepth 20000 in
theorem tL_law_361 : tbL_law 361 = (.invokevirtual 43, 364, 122, 2, 7, 0, []) := rfl
set_option maxRecDepth 20000 in
theorem tL_law_364 : tbL_law 364 = (.if_icmp .eq 389, 367, 753, 0, 0, 0, []) := rfl
set_option maxRecDepth 20000 in
theorem tL_law_367 : tbL_law 367 = (.iconst 0, 368, 0, 0, 0, 0, []) := rfl
set_option maxRecDepth 20000 in
theorem tL_law_368 : tbL_law 368 = (.ireturn, 369, 0, 0, 0, 0, []) := rfl
set_option maxRecDepth 20000 in
theorem tL_law_369 : tbL_law 369 = (.aload_n 1, 370, 0, 0, 0, 0, []) := rfl
set_option maxRecDepth 20000 in
theorem tL_law_370 : tbL_law 370 = (.aload_n 0, 371, 0, 0, 0, 0, []) := rfl
set_option maxRecDepth 20000 in
theorem tL_law_371 : tbL_law 371 = (.iload_n 3, 372, 0, 0, 0, 0, []) := rfl
set_option maxRecDepth 20000 in
theorem tL_law_372 : tbL_law 372 = (.iconst 1, 373, 0, 0, 0, 1, []) := rfl
set_option maxRecDepth 20000 in
theorem tL_law_373 : tbL_law 373 = (.iadd, 374, 0, 0, 0, 0, []) := rfl
set_option maxRecDepth 20000 in
theorem tL_law_374 : tbL_law 374 = (.iaload, 375, 0, 0, 0, 0, []) := rfl
set_option maxRecDepth 20000 in
theorem tL_law_375 : tbL_law 375 = (.aload_n 0, 376, 0, 0, 0, 0, []) := rfl
set_option maxRecDepth 20000 in
theorem tL_law_376 : tbL_law 376 = (.iload_n 3, 377, 0, 0, 0, 0, []) := rfl
set_option maxRecDepth 20000 in
theorem tL_law_377 : tbL_law 377 = (.iconst 2, 378, 0, 0, 0, 2, []) := rfl
set_option maxRecDepth 20000 in
theorem tL_law_378 : tbL_law 378 = (.iadd, 379, 0, 0, 0, 0, []) := rfl
set_option maxRecDepth 20000 in
theorem tL_law_379 : tbL_law 379 = (.iaload, 380, 0, 0, 0, 0, []) := rfl
set_option maxRecDepth 20000 in
theorem tL_law_380 : tbL_law 380 = (.invokevirtual 44, 383, 73, 2, 6, 0, []) := rfl
set_option maxRecDepth 20000 in
theorem tL_law_383 : tbL_law 383 = (.aload_n 2, 384, 0, 0, 0, 0, []) := rfl
set_option maxRecDepth 20000 in
theorem tL_law_384 : tbL_law 384 = (.aload_n 0, 385, 0, 0, 0, 0, []) := rfl
set_option maxRecDepth 20000 in
theorem tL_law_385 : tbL_law 385 = (.iload_n 3, 386, 0, 0, 0, 0, []) := rfl
set_option maxRecDepth 20000 in
theorem tL_law_386 : tbL_law 386 = (.iconst 1, 387, 0, 0, 0, 1, []) := rfl
set_option maxRecDepth 20000 in
theorem tL_law_387 : tbL_law 387 = (.iadd, 388, 0, 0, 0, 0, []) := rfl
set_option maxRecDepth 20000 in
theorem tL_law_388 : tbL_law 388 = (.iaload, 389, 0, 0, 0, 0, []) := rfl
set_option maxRecDepth 20000 in
theorem tL_law_389 : tbL_law 389 = (.aload_n 0, 390, 0, 0, 0, 0, []) := rfl
set_option maxRecDepth 20000 in
theorem tL_law_390 : tbL_law 390 = (.iload_n 3, 391, 0, 0, 0, 0, []) := rfl
set_option maxRecDepth 20000 in
theorem tL_law_391 : tbL_law 391 = (.iconst 2, 392, 0, 0, 0, 2, []) := rfl
set_option maxRecDepth 20000 in
theorem tL_law_392 : tbL_law 392 = (.iadd, 393, 0, 0, 0, 0, []) := rfl
set_option maxRecDepth 20000 in
theorem tL_law_393 : tbL_law 393 = (.iaload, 394, 0, 0, 0, 0, []) := rfl
set_option maxRecDepth 20000 in
theorem tL_law_394 : tbL_law 394 = (.invokevirtual 47, 397, 123, 2, 7, 0, []) := rfl
set_option maxRecDepth 20000 in
theorem tL_law_397 : tbL_law 397 = (.if_icmp .eq 356, 400, 753, 0, 0, 0, []) := rfl
set_option maxRecDepth 20000 in
theorem tL_law_400 : tbL_law 400 = (.iconst 0, 401, 0, 0, 0, 0, []) := rfl
set_option maxRecDepth 20000 in
theorem tL_law_401 : tbL_law 401 = (.ireturn, 402, 0, 0, 0, 0, []) := rfl
set_option maxRecDepth 20000 in
theorem tL_law_402 : tbL_law 402 = (.aload_n 1, 403, 0, 0, 0, 0, []) := rfl
set_option maxRecDepth 20000 in
theorem tL_law_403 : tbL_law 403 = (.aload_n 0, 404, 0, 0, 0, 0, []) := rfl
set_option maxRecDepth 20000 in
theorem tL_law_404 : tbL_law 404 = (.iload_n 3, 405, 0, 0, 0, 0, []) := rfl
set_option maxRecDepth 20000 in
theorem tL_law_405 : tbL_law 405 = (.iconst 1, 406, 0, 0, 0, 1, []) := rfl
set_option maxRecDepth 20000 in
theorem tL_law_406 : tbL_law 406 = (.iadd, 407, 0, 0, 0, 0, []) := rfl
set_option maxRecDepth 20000 in
theorem tL_law_407 : tbL_law 407 = (.iaload, 408, 0, 0, 0, 0, []) := rfl
set_option maxRecDepth 20000 in
theorem tL_law_408 : tbL_law 408 = (.aload_n 0, 409, 0, 0, 0, 0, []) := rfl
set_option maxRecDepth 20000 in
theorem tL_law_409 : tbL_law 409 = (.iload_n 3, 410, 0, 0, 0, 0, []) := rfl
set_option maxRecDepth 20000 in
theorem tL_law_410 : tbL_law 410 = (.iconst 2, 411, 0, 0, 0, 2, []) := rfl
set_option maxRecDepth 20000 in
theorem tL_law_411 : tbL_law 411 = (.iadd, 412, 0, 0, 0, 0, []) := rfl
set_option maxRecDepth 20000 in
theorem tL_law_412 : tbL_law 412 = (.iaload, 413, 0, 0, 0, 0, []) := rfl
set_option maxRecDepth 20000 in
theorem tL_law_413 : tbL_law 413 = (.invokevirtual 48, 416, 74, 2, 6, 0, []) := rfl
set_option maxRecDepth 20000 in
theorem tL_law_416 : tbL_law 416 = (.aload_n 2, 417, 0, 0, 0, 0, []) := rfl
set_option maxRecDepth 20000 in
theorem tL_law_417 : tbL_law 417 = (.aload_n 0, 418, 0, 0, 0, 0, []) := rfl
set_option maxRecDepth 20000 in
theorem tL_law_418 : tbL_law 418 = (.iload_n 3, 419, 0, 0, 0, 0, []) := rfl
set_option maxRecDepth 20000 in
theorem tL_law_419 : tbL_law 419 = (.iconst 1, 420, 0, 0, 0, 1, []) := rfl
set_option maxRecDepth 20000 in
theorem tL_law_420 : tbL_law 420 = (.iadd, 421, 0, 0, 0, 0, []) := rfl
set_option maxRecDepth 20000 in
theorem tL_law_421 : tbL_law 421 = (.iaload, 422, 0, 0, 0, 0, []) := rfl
set_option maxRecDepth 20000 in
theorem tL_law_422 : tbL_law 422 = (.aload_n 0, 423, 0, 0, 0, 0, []) := rfl
set_option maxRecDepth 20000 in
theorem tL_law_423 : tbL_law 423 = (.iload_n 3, 424, 0, 0, 0, 0, []) := rfl
set_option maxRecDepth 20000 in
theorem tL_law_424 : tbL_law 424 = (.iconst 2, 425, 0, 0, 0, 2, []) := rfl
set_option maxRecDepth 20000 in
theorem tL_law_425 : tbL_law 425 = (.iadd, 426, 0, 0, 0, 0, []) := rfl
set_option maxRecDepth 20000 in
theorem tL_law_426 : tbL_law 426 = (.iaload, 427, 0, 0, 0, 0, []) := rfl
set_option maxRecDepth 20000 in
theorem tL_law_427 : tbL_law 427 = (.invokevirtual 51, 430, 124, 2, 7, 0, []) := rfl
set_option maxRecDepth 20000 in
theorem tL_law_430 : tbL_law 430 = (.if_icmp .eq 323, 433, 753, 0, 0, 0, []) := rfl
set_option maxRecDepth 20000 in
theorem tL_law_433 : tbL_law 433 = (.iconst 0, 434, 0, 0, 0, 0, []) := rfl
set_option maxRecDepth 20000 in
theorem tL_law_434 : tbL_law 434 = (.ireturn, 435, 0, 0, 0, 0, []) := rfl
set_option maxRecDepth 20000 in
theorem tL_law_435 : tbL_law 435 = (.aload_n 1, 436, 0, 0, 0, 0, []) := rfl
set_option maxRecDepth 20000 in
theorem tL_law_436 : tbL_law 436 = (.aload_n 0, 437, 0, 0, 0, 0, []) := rfl
set_option maxRecDepth 20000 in
theorem tL_law_437 : tbL_law 437 = (.iload_n 3, 438, 0, 0, 0, 0, []) := rfl
set_option maxRecDepth 20000 in
theorem tL_law_438 : tbL_law 438 = (.iconst 1, 439, 0, 0, 0, 1, []) := rfl
set_option maxRecDepth 20000 in
theorem tL_law_439 : tbL_law 439 = (.iadd, 440, 0, 0, 0, 0, []) := rfl
set_option maxRecDepth 20000 in
theorem tL_law_440 : tbL_law 440 = (.iaload, 441, 0, 0, 0, 0, []) := rfl
set_option maxRecDepth 20000 in
theorem tL_law_441 : tbL_law 441 = (.invokevirtual 52, 444, 75, 1, 6, 0, []) := rfl
set_option maxRecDepth 20000 in
theorem tL_law_444 : tbL_law 444 = (.aload_n 2, 445, 0, 0, 0, 0, []) := rfl
set_option maxRecDepth 20000 in
theorem tL_law_445 : tbL_law 445 = (.aload_n 0, 446, 0, 0, 0, 0, []) := rfl
set_option maxRecDepth 20000 in
theorem tL_law_446 : tbL_law 446 = (.iload_n 3, 447, 0, 0, 0, 0, []) := rfl
set_option maxRecDepth 20000 in
theorem tL_law_447 : tbL_law 447 = (.iconst 1, 448, 0, 0, 0, 1, []) := rfl
set_option maxRecDepth 20000 in
theorem tL_law_448 : tbL_law 448 = (.iadd, 449, 0, 0, 0, 0, []) := rfl
set_option maxRecDepth 20000 in
theorem tL_law_449 : tbL_law 449 = (.iaload, 450, 0, 0, 0, 0, []) := rfl
set_option maxRecDepth 20000 in
theorem tL_law_450 : tbL_law 450 = (.invokevirtual 55, 453, 126, 1, 7, 0, []) := rfl
set_option maxRecDepth 20000 in
theorem tL_law_453 : tbL_law 453 = (.if_icmp .eq 300, 456, 753, 0, 0, 0, []) := rfl
set_option maxRecDepth 20000 in
theorem tL_law_456 : tbL_law 456 = (.iconst 0, 457, 0, 0, 0, 0, []) := rfl
set_option maxRecDepth 20000 in
theorem tL_law_457 : tbL_law 457 = (.ireturn, 458, 0, 0, 0, 0, []) := rfl
set_option maxRecDepth 20000 in
theorem tL_law_458 : tbL_law 458 = (.aload_n 1, 459, 0, 0, 0, 0, []) := rfl
set_option maxRecDepth 20000 in
theorem tL_law_459 : tbL_law 459 = (.aload_n 0, 460, 0, 0, 0, 0, []) := rfl
set_option maxRecDepth 20000 in
theorem tL_law_460 : tbL_law 460 = (.iload_n 3, 461, 0, 0, 0, 0, []) := rfl
set_option maxRecDepth 20000 in
theorem tL_law_461 : tbL_law 461 = (.iconst 1, 462, 0, 0, 0, 1, []) := rfl
set_option maxRecDepth 20000 in
theorem tL_law_462 : tbL_law 462 = (.iadd, 463, 0, 0, 0, 0, []) := rfl
set_option maxRecDepth 20000 in
theorem tL_law_463 : tbL_law 463 = (.iaload, 464, 0, 0, 0, 0, []) := rfl
set_option maxRecDepth 20000 in
theorem tL_law_464 : tbL_law 464 = (.aload_n 0, 465, 0, 0, 0, 0, []) := rfl
set_option maxRecDepth 20000 in
theorem tL_law_465 : tbL_law 465 = (.iload_n 3, 466, 0, 0, 0, 0, []) := rfl
set_option maxRecDepth 20000 in
theorem tL_law_466 : tbL_law 466 = (.iconst 2, 467, 0, 0, 0, 2, []) := rfl
set_option maxRecDepth 20000 in
theorem tL_law_467 : tbL_law 467 = (.iadd, 468, 0, 0, 0, 0, []) := rfl
set_option maxRecDepth 20000 in
theorem tL_law_468 : tbL_law 468 = (.iaload, 469, 0, 0, 0, 0, []) := rfl
set_option maxRecDepth 20000 in
theorem tL_law_469 : tbL_law 469 = (.invokevirtual 56, 472, 76, 2, 6, 0, []) := rfl
set_option maxRecDepth 20000 in
theorem tL_law_472 : tbL_law 472 = (.aload_n 2, 473, 0, 0, 0, 0, []) := rfl
set_option maxRecDepth 20000 in
theorem tL_law_473 : tbL_law 473 = (.aload_n 0, 474, 0, 0, 0, 0, []) := rfl
set_option maxRecDepth 20000 in
theorem tL_law_474 : tbL_law 474 = (.iload_n 3, 475, 0, 0, 0, 0, []) := rfl
set_option maxRecDepth 20000 in
theorem tL_law_475 : tbL_law 475 = (.iconst 1, 476, 0, 0, 0, 1, []) := rfl
set_option maxRecDepth 20000 in
theorem tL_law_476 : tbL_law 476 = (.iadd, 477, 0, 0, 0, 0, []) := rfl
set_option maxRecDepth 20000 in
theorem tL_law_477 : tbL_law 477 = (.iaload, 478, 0, 0, 0, 0, []) := rfl
set_option maxRecDepth 20000 in
theorem tL_law_478 : tbL_law 478 = (.aload_n 0, 479, 0, 0, 0, 0, []) := rfl
set_option maxRecDepth 20000 in
theorem tL_law_479 : tbL_law 479 = (.iload_n 3, 480, 0, 0, 0, 0, []) := rfl
set_option maxRecDepth 20000 in
theorem tL_law_480 : tbL_law 480 = (.iconst 2, 481, 0, 0, 0, 2, []) := rfl
set_option maxRecDepth 20000 in
theorem tL_law_481 : tbL_law 481 = (.iadd, 482, 0, 0, 0, 0, []) := rfl
set_option maxRecDepth 20000 in
theorem tL_law_482 : tbL_law 482 = (.iaload, 483, 0, 0, 0, 0, []) := rfl
set_option maxRecDepth 20000 in
theorem tL_law_483 : tbL_law 483 = (.invokevirtual 59, 486, 128, 2, 7, 0, []) := rfl
set_option maxRecDepth 20000 in
theorem tL_law_486 : tbL_law 486 = (.if_icmp .eq 267, 489, 753, 0, 0, 0, []) := rfl
set_option maxRecDepth 20000 in
theorem tL_law_489 : tbL_law 489 = (.iconst 0, 490, 0, 0, 0, 0, []) := rfl
set_option maxRecDepth 20000 in
theorem tL_law_490 : tbL_law 490 = (.ireturn, 491, 0, 0, 0, 0, []) := rfl
set_option maxRecDepth 20000 in
theorem tL_law_491 : tbL_law 491 = (.aload_n 1, 492, 0, 0, 0, 0, []) := rfl
set_option maxRecDepth 20000 in
theorem tL_law_492 : tbL_law 492 = (.invokevirtual 60, 495, 77, 0, 6, 0, []) := rfl
set_option maxRecDepth 20000 in
theorem tL_law_495 : tbL_law 495 = (.aload_n 2, 496, 0, 0, 0, 0, []) := rfl
set_option maxRecDepth 20000 in
theorem tL_law_496 : tbL_law 496 = (.invokevirtual 64, 499, 129, 0, 7, 0, []) := rfl
set_option maxRecDepth 20000 in
theorem tL_law_499 : tbL_law 499 = (.if_icmp .eq 254, 502, 753, 0, 0, 0, []) := rfl
set_option maxRecDepth 20000 in
theorem tL_law_502 : tbL_law 502 = (.iconst 0, 503, 0, 0, 0, 0, []) := rfl
set_option maxRecDepth 20000 in
theorem tL_law_503 : tbL_law 503 = (.ireturn, 504, 0, 0, 0, 0, []) := rfl
set_option maxRecDepth 20000 in
theorem tL_law_504 : tbL_law 504 = (.aload_n 1, 505, 0, 0, 0, 0, []) := rfl
set_option maxRecDepth 20000 in
theorem tL_law_505 : tbL_law 505 = (.invokevirtual 65, 508, 78, 0, 6, 0, []) := rfl
set_option maxRecDepth 20000 in
theorem tL_law_508 : tbL_law 508 = (.aload_n 2, 509, 0, 0, 0, 0, []) := rfl
set_option maxRecDepth 20000 in
theorem tL_law_509 : tbL_law 509 = (.invokevirtual 68, 512, 130, 0, 7, 0, []) := rfl
set_option maxRecDepth 20000 in
theorem tL_law_512 : tbL_law 512 = (.if_icmp .eq 241, 515, 753, 0, 0, 0, []) := rfl
set_option maxRecDepth 20000 in
theorem tL_law_515 : tbL_law 515 = (.iconst 0, 516, 0, 0, 0, 0, []) := rfl
set_option maxRecDepth 20000 in
theorem tL_law_516 : tbL_law 516 = (.ireturn, 517, 0, 0, 0, 0, []) := rfl
set_option maxRecDepth 20000 in
theorem tL_law_517 : tbL_law 517 = (.aload_n 1, 518, 0, 0, 0, 0, []) := rfl
set_option maxRecDepth 20000 in
theorem tL_law_518 : tbL_law 518 = (.aload_n 0, 519, 0, 0, 0, 0, []) := rfl
set_option maxRecDepth 20000 in
theorem tL_law_519 : tbL_law 519 = (.iload_n 3, 520, 0, 0, 0, 0, []) := rfl
set_option maxRecDepth 20000 in
theorem tL_law_520 : tbL_law 520 = (.iconst 1, 521, 0, 0, 0, 1, []) := rfl
set_option maxRecDepth 20000 in
theorem tL_law_521 : tbL_law 521 = (.iadd, 522, 0, 0, 0, 0, []) := rfl
set_option maxRecDepth 20000 in
theorem tL_law_522 : tbL_law 522 = (.iaload, 523, 0, 0, 0, 0, []) := rfl
set_option maxRecDepth 20000 in
theorem tL_law_523 : tbL_law 523 = (.invokevirtual 69, 526, 79, 1, 6, 0, []) := rfl
set_option maxRecDepth 20000 in
theorem tL_law_526 : tbL_law 526 = (.aload_n 2, 527, 0, 0, 0, 0, []) := rfl
set_option maxRecDepth 20000 in
theorem tL_law_527 : tbL_law 527 = (.aload_n 0, 528, 0, 0, 0, 0, []) := rfl
set_option maxRecDepth 20000 in
theorem tL_law_528 : tbL_law 528 = (.iload_n 3, 529, 0, 0, 0, 0, []) := rfl
set_option maxRecDepth 20000 in
theorem tL_law_529 : tbL_law 529 = (.iconst 1, 530, 0, 0, 0, 1, []) := rfl
set_option maxRecDepth 20000 in
theorem tL_law_530 : tbL_law 530 = (.iadd, 531, 0, 0, 0, 0, []) := rfl
set_option maxRecDepth 20000 in
theorem tL_law_531 : tbL_law 531 = (.iaload, 532, 0, 0, 0, 0, []) := rfl
set_option maxRecDepth 20000 in
theorem tL_law_532 : tbL_law 532 = (.invokevirtual 72, 535, 132, 1, 7, 0, []) := rfl
set_option maxRecDepth 20000 in
theorem tL_law_535 : tbL_law 535 = (.if_icmp .eq 218, 538, 753, 0, 0, 0, []) := rfl
set_option maxRecDepth 20000 in
theorem tL_law_538 : tbL_law 538 = (.iconst 0, 539, 0, 0, 0, 0, []) := rfl
set_option maxRecDepth 20000 in
theorem tL_law_539 : tbL_law 539 = (.ireturn, 540, 0, 0, 0, 0, []) := rfl
set_option maxRecDepth 20000 in
theorem tL_law_540 : tbL_law 540 = (.aload_n 1, 541, 0, 0, 0, 0, []) := rfl
set_option maxRecDepth 20000 in
theorem tL_law_541 : tbL_law 541 = (.invokevirtual 73, 544, 80, 0, 6, 0, []) := rfl
set_option maxRecDepth 20000 in
theorem tL_law_544 : tbL_law 544 = (.aload_n 2, 545, 0, 0, 0, 0, []) := rfl
set_option maxRecDepth 20000 in
theorem tL_law_545 : tbL_law 545 = (.invokevirtual 76, 548, 133, 0, 7, 0, []) := rfl
set_option maxRecDepth 20000 in
theorem tL_law_548 : tbL_law 548 = (.if_icmp .eq 205, 551, 753, 0, 0, 0, []) := rfl
set_option maxRecDepth 20000 in
theorem tL_law_551 : tbL_law 551 = (.iconst 0, 552, 0, 0, 0, 0, []) := rfl
set_option maxRecDepth 20000 in
theorem tL_law_552 : tbL_law 552 = (.ireturn, 553, 0, 0, 0, 0, []) := rfl
set_option maxRecDepth 20000 in
theorem tL_law_553 : tbL_law 553 = (.aload_n 1, 554, 0, 0, 0, 0, []) := rfl
set_option maxRecDepth 20000 in
theorem tL_law_554 : tbL_law 554 = (.aload_n 0, 555, 0, 0, 0, 0, []) := rfl
set_option maxRecDepth 20000 in
theorem tL_law_555 : tbL_law 555 = (.iload_n 3, 556, 0, 0, 0, 0, []) := rfl
set_option maxRecDepth 20000 in
theorem tL_law_556 : tbL_law 556 = (.iconst 1, 557, 0, 0, 0, 1, []) := rfl
set_option maxRecDepth 20000 in
theorem tL_law_557 : tbL_law 557 = (.iadd, 558, 0, 0, 0, 0, []) := rfl
set_option maxRecDepth 20000 in
theorem tL_law_558 : tbL_law 558 = (.iaload, 559, 0, 0, 0, 0, []) := rfl
set_option maxRecDepth 20000 in
theorem tL_law_559 : tbL_law 559 = (.invokevirtual 77, 562, 81, 1, 6, 0, []) := rfl
set_option maxRecDepth 20000 in
theorem tL_law_562 : tbL_law 562 = (.aload_n 2, 563, 0, 0, 0, 0, []) := rfl
set_option maxRecDepth 20000 in
theorem tL_law_563 : tbL_law 563 = (.aload_n 0, 564, 0, 0, 0, 0, []) := rfl
set_option maxRecDepth 20000 in
theorem tL_law_564 : tbL_law 564 = (.iload_n 3, 565, 0, 0, 0, 0, []) := rfl
set_option maxRecDepth 20000 in
theorem tL_law_565 : tbL_law 565 = (.iconst 1, 566, 0, 0, 0, 1, []) := rfl
set_option maxRecDepth 20000 in
theorem tL_law_566 : tbL_law 566 = (.iadd, 567, 0, 0, 0, 0, []) := rfl
set_option maxRecDepth 20000 in
theorem tL_law_567 : tbL_law 567 = (.iaload, 568, 0, 0, 0, 0, []) := rfl
set_option maxRecDepth 20000 in
theorem tL_law_568 : tbL_law 568 = (.invokevirtual 80, 571, 134, 1, 7, 0, []) := rfl
set_option maxRecDepth 20000 in
theorem tL_law_571 : tbL_law 571 = (.if_icmp .eq 182, 574, 753, 0, 0, 0, []) := rfl
set_option maxRecDepth 20000 in
theorem tL_law_574 : tbL_law 574 = (.iconst 0, 575, 0, 0, 0, 0, []) := rfl
set_option maxRecDepth 20000 in
theorem tL_law_575 : tbL_law 575 = (.ireturn, 576, 0, 0, 0, 0, []) := rfl
set_option maxRecDepth 20000 in
theorem tL_law_576 : tbL_law 576 = (.aload_n 1, 577, 0, 0, 0, 0, []) := rfl
set_option maxRecDepth 20000 in
theorem tL_law_577 : tbL_law 577 = (.aload_n 0, 578, 0, 0, 0, 0, []) := rfl
set_option maxRecDepth 20000 in
theorem tL_law_578 : tbL_law 578 = (.iload_n 3, 579, 0, 0, 0, 0, []) := rfl
set_option maxRecDepth 20000 in
theorem tL_law_579 : tbL_law 579 = (.iconst 1, 580, 0, 0, 0, 1, []) := rfl
set_option maxRecDepth 20000 in
theorem tL_law_580 : tbL_law 580 = (.iadd, 581, 0, 0, 0, 0, []) := rfl
set_option maxRecDepth 20000 in
theorem tL_law_581 : tbL_law 581 = (.iaload, 582, 0, 0, 0, 0, []) := rfl
set_option maxRecDepth 20000 in
theorem tL_law_582 : tbL_law 582 = (.invokevirtual 81, 585, 82, 1, 6, 0, []) := rfl
set_option maxRecDepth 20000 in
theorem tL_law_585 : tbL_law 585 = (.aload_n 2, 586, 0, 0, 0, 0, []) := rfl
set_option maxRecDepth 20000 in
theorem tL_law_586 : tbL_law 586 = (.aload_n 0, 587, 0, 0, 0, 0, []) := rfl
set_option maxRecDepth 20000 in
theorem tL_law_587 : tbL_law 587 = (.iload_n 3, 588, 0, 0, 0, 0, []) := rfl
set_option maxRecDepth 20000 in
theorem tL_law_588 : tbL_law 588 = (.iconst 1, 589, 0, 0, 0, 1, []) := rfl
set_option maxRecDepth 20000 in
theorem tL_law_589 : tbL_law 589 = (.iadd, 590, 0, 0, 0, 0, []) := rfl
set_option maxRecDepth 20000 in
theorem tL_law_590 : tbL_law 590 = (.iaload, 591, 0, 0, 0, 0, []) := rfl
set_option maxRecDepth 20000 in
theorem tL_law_591 : tbL_law 591 = (.invokevirtual 84, 594, 135, 1, 7, 0, []) := rfl
set_option maxRecDepth 20000 in
theorem tL_law_594 : tbL_law 594 = (.if_icmp .eq 159, 597, 753, 0, 0, 0, []) := rfl
set_option maxRecDepth 20000 in
theorem tL_law_597 : tbL_law 597 = (.iconst 0, 598, 0, 0, 0, 0, []) := rfl
set_option maxRecDepth 20000 in
theorem tL_law_598 : tbL_law 598 = (.ireturn, 599, 0, 0, 0, 0, []) := rfl
set_option maxRecDepth 20000 in
theorem tL_law_599 : tbL_law 599 = (.aload_n 1, 600, 0, 0, 0, 0, []) := rfl
set_option maxRecDepth 20000 in
theorem tL_law_600 : tbL_law 600 = (.aload_n 0, 601, 0, 0, 0, 0, []) := rfl
set_option maxRecDepth 20000 in
theorem tL_law_601 : tbL_law 601 = (.iload_n 3, 602, 0, 0, 0, 0, []) := rfl
set_option maxRecDepth 20000 in
theorem tL_law_602 : tbL_law 602 = (.iconst 1, 603, 0, 0, 0, 1, []) := rfl
set_option maxRecDepth 20000 in
theorem tL_law_603 : tbL_law 603 = (.iadd, 604, 0, 0, 0, 0, []) := rfl
set_option maxRecDepth 20000 in
theorem tL_law_604 : tbL_law 604 = (.iaload, 605, 0, 0, 0, 0, []) := rfl
set_option maxRecDepth 20000 in
theorem tL_law_605 : tbL_law 605 = (.invokevirtual 85, 608, 83, 1, 6, 0, []) := rfl
set_option maxRecDepth 20000 in
theorem tL_law_608 : tbL_law 608 = (.aload_n 2, 609, 0, 0, 0, 0, []) := rfl
set_option maxRecDepth 20000 in
theorem tL_law_609 : tbL_law 609 = (.aload_n 0, 610, 0, 0, 0, 0, []) := rfl
set_option maxRecDepth 20000 in
theorem tL_law_610 : tbL_law 610 = (.iload_n 3, 611, 0, 0, 0, 0, []) := rfl
set_option maxRecDepth 20000 in
theorem tL_law_611 : tbL_law 611 = (.iconst 1, 612, 0, 0, 0, 1, []) := rfl
set_option maxRecDepth 20000 in
theorem tL_law_612 : tbL_law 612 = (.iadd, 613, 0, 0, 0, 0, []) := rfl
set_option maxRecDepth 20000 in
theorem tL_law_613 : tbL_law 613 = (.iaload, 614, 0, 0, 0, 0, []) := rfl
set_option maxRecDepth 20000 in
theorem tL_law_614 : tbL_law 614 = (.invokevirtual 88, 617, 137, 1, 7, 0, []) := rfl
set_option maxRecDepth 20000 in
theorem tL_law_617 : tbL_law 617 = (.if_icmp .eq 136, 620, 753, 0, 0, 0, []) := rfl
set_option maxRecDepth 20000 in
theorem tL_law_620 : tbL_law 620 = (.iconst 0, 621, 0, 0, 0, 0, []) := rfl
set_option maxRecDepth 20000 in
theorem tL_law_621 : tbL_law 621 = (.ireturn, 622, 0, 0, 0, 0, []) := rfl
set_option maxRecDepth 20000 in
theorem tL_law_622 : tbL_law 622 = (.aload_n 1, 623, 0, 0, 0, 0, []) := rfl
set_option maxRecDepth 20000 in
theorem tL_law_623 : tbL_law 623 = (.aload_n 0, 624, 0, 0, 0, 0, []) := rfl
set_option maxRecDepth 20000 in
theorem tL_law_624 : tbL_law 624 = (.iload_n 3, 625, 0, 0, 0, 0, []) := rfl
set_option maxRecDepth 20000 in
theorem tL_law_625 : tbL_law 625 = (.iconst 1, 626, 0, 0, 0, 1, []) := rfl
set_option maxRecDepth 20000 in
theorem tL_law_626 : tbL_law 626 = (.iadd, 627, 0, 0, 0, 0, []) := rfl
set_option maxRecDepth 20000 in
theorem tL_law_627 : tbL_law 627 = (.iaload, 628, 0, 0, 0, 0, []) := rfl
set_option maxRecDepth 20000 in
theorem tL_law_628 : tbL_law 628 = (.invokevirtual 89, 631, 84, 1, 6, 0, []) := rfl
set_option maxRecDepth 20000 in
theorem tL_law_631 : tbL_law 631 = (.aload_n 2, 632, 0, 0, 0, 0, []) := rfl
set_option maxRecDepth 20000 in
theorem tL_law_632 : tbL_law 632 = (.aload_n 0, 633, 0, 0, 0, 0, []) := rfl
set_option maxRecDepth 20000 in
theorem tL_law_633 : tbL_law 633 = (.iload_n 3, 634, 0, 0, 0, 0, []) := rfl
set_option maxRecDepth 20000 in
theorem tL_law_634 : tbL_law 634 = (.iconst 1, 635, 0, 0, 0, 1, []) := rfl
set_option maxRecDepth 20000 in
theorem tL_law_635 : tbL_law 635 = (.iadd, 636, 0, 0, 0, 0, []) := rfl
set_option maxRecDepth 20000 in
theorem tL_law_636 : tbL_law 636 = (.iaload, 637, 0, 0, 0, 0, []) := rfl
set_option maxRecDepth 20000 in
theorem tL_law_637 : tbL_law 637 = (.invokevirtual 92, 640, 140, 1, 7, 0, []) := rfl
set_option maxRecDepth 20000 in
theorem tL_law_640 : tbL_law 640 = (.if_icmp .eq 113, 643, 753, 0, 0, 0, []) := rfl
set_option maxRecDepth 20000 in
theorem tL_law_643 : tbL_law 643 = (.iconst 0, 644, 0, 0, 0, 0, []) := rfl
set_option maxRecDepth 20000 in
theorem tL_law_644 : tbL_law 644 = (.ireturn, 645, 0, 0, 0, 0, []) := rfl
set_option maxRecDepth 20000 in
theorem tL_law_645 : tbL_law 645 = (.aload_n 1, 646, 0, 0, 0, 0, []) := rfl
set_option maxRecDepth 20000 in
theorem tL_law_646 : tbL_law 646 = (.aload_n 0, 647, 0, 0, 0, 0, []) := rfl
set_option maxRecDepth 20000 in
theorem tL_law_647 : tbL_law 647 = (.iload_n 3, 648, 0, 0, 0, 0, []) := rfl
set_option maxRecDepth 20000 in
theorem tL_law_648 : tbL_law 648 = (.iconst 1, 649, 0, 0, 0, 1, []) := rfl
set_option maxRecDepth 20000 in
theorem tL_law_649 : tbL_law 649 = (.iadd, 650, 0, 0, 0, 0, []) := rfl
set_option maxRecDepth 20000 in
theorem tL_law_650 : tbL_law 650 = (.iaload, 651, 0, 0, 0, 0, []) := rfl
set_option maxRecDepth 20000 in
theorem tL_law_651 : tbL_law 651 = (.invokevirtual 93, 654, 85, 1, 6, 0, []) := rfl
set_option maxRecDepth 20000 in
theorem tL_law_654 : tbL_law 654 = (.aload_n 2, 655, 0, 0, 0, 0, []) := rfl
set_option maxRecDepth 20000 in
theorem tL_law_655 : tbL_law 655 = (.aload_n 0, 656, 0, 0, 0, 0, []) := rfl
set_option maxRecDepth 20000 in
theorem tL_law_656 : tbL_law 656 = (.iload_n 3, 657, 0, 0, 0, 0, []) := rfl
set_option maxRecDepth 20000 in
theorem tL_law_657 : tbL_law 657 = (.iconst 1, 658, 0, 0, 0, 1, []) := rfl
set_option maxRecDepth 20000 in
theorem tL_law_658 : tbL_law 658 = (.iadd, 659, 0, 0, 0, 0, []) := rfl
set_option maxRecDepth 20000 in
theorem tL_law_659 : tbL_law 659 = (.iaload, 660, 0, 0, 0, 0, []) := rfl
set_option maxRecDepth 20000 in
theorem tL_law_660 : tbL_law 660 = (.invokevirtual 96, 663, 142, 1, 7, 0, []) := rfl
set_option maxRecDepth 20000 in
theorem tL_law_663 : tbL_law 663 = (.if_icmp .eq 90, 666, 753, 0, 0, 0, []) := rfl
set_option maxRecDepth 20000 in
theorem tL_law_666 : tbL_law 666 = (.iconst 0, 667, 0, 0, 0, 0, []) := rfl
set_option maxRecDepth 20000 in
theorem tL_law_667 : tbL_law 667 = (.ireturn, 668, 0, 0, 0, 0, []) := rfl
set_option maxRecDepth 20000 in
theorem tL_law_668 : tbL_law 668 = (.aload_n 1, 669, 0, 0, 0, 0, []) := rfl
set_option maxRecDepth 20000 in
theorem tL_law_669 : tbL_law 669 = (.invokevirtual 97, 672, 86, 0, 6, 0, []) := rfl
set_option maxRecDepth 20000 in
theorem tL_law_672 : tbL_law 672 = (.aload_n 2, 673, 0, 0, 0, 0, []) := rfl
set_option maxRecDepth 20000 in
theorem tL_law_673 : tbL_law 673 = (.invokevirtual 100, 676, 143, 0, 7, 0, []) := rfl
set_option maxRecDepth 20000 in
theorem tL_law_676 : tbL_law 676 = (.if_icmp .eq 77, 679, 753, 0, 0, 0, []) := rfl
set_option maxRecDepth 20000 in
theorem tL_law_679 : tbL_law 679 = (.iconst 0, 680, 0, 0, 0, 0, []) := rfl
set_option maxRecDepth 20000 in
theorem tL_law_680 : tbL_law 680 = (.ireturn, 681, 0, 0, 0, 0, []) := rfl
set_option maxRecDepth 20000 in
theorem tL_law_681 : tbL_law 681 = (.aload_n 1, 682, 0, 0, 0, 0, []) := rfl
set_option maxRecDepth 20000 in
theorem tL_law_682 : tbL_law 682 = (.aload_n 0, 683, 0, 0, 0, 0, []) := rfl
set_option maxRecDepth 20000 in
theorem tL_law_683 : tbL_law 683 = (.iload_n 3, 684, 0, 0, 0, 0, []) := rfl
set_option maxRecDepth 20000 in
theorem tL_law_684 : tbL_law 684 = (.iconst 1, 685, 0, 0, 0, 1, []) := rfl
set_option maxRecDepth 20000 in
theorem tL_law_685 : tbL_law 685 = (.iadd, 686, 0, 0, 0, 0, []) := rfl
set_option maxRecDepth 20000 in
theorem tL_law_686 : tbL_law 686 = (.iaload, 687, 0, 0, 0, 0, []) := rfl
set_option maxRecDepth 20000 in
theorem tL_law_687 : tbL_law 687 = (.invokevirtual 101, 690, 87, 1, 6, 0, []) := rfl
set_option maxRecDepth 20000 in
theorem tL_law_690 : tbL_law 690 = (.aload_n 2, 691, 0, 0, 0, 0, []) := rfl
set_option maxRecDepth 20000 in
theorem tL_law_691 : tbL_law 691 = (.aload_n 0, 692, 0, 0, 0, 0, []) := rfl
set_option maxRecDepth 20000 in
theorem tL_law_692 : tbL_law 692 = (.iload_n 3, 693, 0, 0, 0, 0, []) := rfl
set_option maxRecDepth 20000 in
theorem tL_law_693 : tbL_law 693 = (.iconst 1, 694, 0, 0, 0, 1, []) := rfl
set_option maxRecDepth 20000 in
theorem tL_law_694 : tbL_law 694 = (.iadd, 695, 0, 0, 0, 0, []) := rfl
set_option maxRecDepth 20000 in
theorem tL_law_695 : tbL_law 695 = (.iaload, 696, 0, 0, 0, 0, []) := rfl
set_option maxRecDepth 20000 in
theorem tL_law_696 : tbL_law 696 = (.invokevirtual 104, 699, 144, 1, 7, 0, []) := rfl
set_option maxRecDepth 20000 in
theorem tL_law_699 : tbL_law 699 = (.if_icmp .eq 54, 702, 753, 0, 0, 0, []) := rfl
set_option maxRecDepth 20000 in
theorem tL_law_702 : tbL_law 702 = (.iconst 0, 703, 0, 0, 0, 0, []) := rfl
set_option maxRecDepth 20000 in
theorem tL_law_703 : tbL_law 703 = (.ireturn, 704, 0, 0, 0, 0, []) := rfl
set_option maxRecDepth 20000 in
theorem tL_law_704 : tbL_law 704 = (.aload_n 1, 705, 0, 0, 0, 0, []) := rfl
set_option maxRecDepth 20000 in
theorem tL_law_705 : tbL_law 705 = (.invokevirtual 105, 708, 88, 0, 6, 0, []) := rfl
set_option maxRecDepth 20000 in
theorem tL_law_708 : tbL_law 708 = (.aload_n 2, 709, 0, 0, 0, 0, []) := rfl
set_option maxRecDepth 20000 in
theorem tL_law_709 : tbL_law 709 = (.invokevirtual 108, 712, 145, 0, 7, 0, []) := rfl
set_option maxRecDepth 20000 in
theorem tL_law_712 : tbL_law 712 = (.if_icmp .eq 41, 715, 753, 0, 0, 0, []) := rfl
set_option maxRecDepth 20000 in
theorem tL_law_715 : tbL_law 715 = (.iconst 0, 716, 0, 0, 0, 0, []) := rfl
set_option maxRecDepth 20000 in
theorem tL_law_716 : tbL_law 716 = (.ireturn, 717, 0, 0, 0, 0, []) := rfl
set_option maxRecDepth 20000 in
theorem tL_law_717 : tbL_law 717 = (.aload_n 1, 718, 0, 0, 0, 0, []) := rfl
set_option maxRecDepth 20000 in
theorem tL_law_718 : tbL_law 718 = (.aload_n 0, 719, 0, 0, 0, 0, []) := rfl
set_option maxRecDepth 20000 in
theorem tL_law_719 : tbL_law 719 = (.iload_n 3, 720, 0, 0, 0, 0, []) := rfl
set_option maxRecDepth 20000 in
theorem tL_law_720 : tbL_law 720 = (.iconst 1, 721, 0, 0, 0, 1, []) := rfl
set_option maxRecDepth 20000 in
theorem tL_law_721 : tbL_law 721 = (.iadd, 722, 0, 0, 0, 0, []) := rfl
set_option maxRecDepth 20000 in
theorem tL_law_722 : tbL_law 722 = (.iaload, 723, 0, 0, 0, 0, []) := rfl
set_option maxRecDepth 20000 in
theorem tL_law_723 : tbL_law 723 = (.invokevirtual 109, 726, 89, 1, 6, 0, []) := rfl
set_option maxRecDepth 20000 in
theorem tL_law_726 : tbL_law 726 = (.aload_n 2, 727, 0, 0, 0, 0, []) := rfl
set_option maxRecDepth 20000 in
theorem tL_law_727 : tbL_law 727 = (.aload_n 0, 728, 0, 0, 0, 0, []) := rfl
set_option maxRecDepth 20000 in
theorem tL_law_728 : tbL_law 728 = (.iload_n 3, 729, 0, 0, 0, 0, []) := rfl
set_option maxRecDepth 20000 in
theorem tL_law_729 : tbL_law 729 = (.iconst 1, 730, 0, 0, 0, 1, []) := rfl
set_option maxRecDepth 20000 in
theorem tL_law_730 : tbL_law 730 = (.iadd, 731, 0, 0, 0, 0, []) := rfl
set_option maxRecDepth 20000 in
theorem tL_law_731 : tbL_law 731 = (.iaload, 732, 0, 0, 0, 0, []) := rfl
set_option maxRecDepth 20000 in
theorem tL_law_732 : tbL_law 732 = (.invokevirtual 112, 735, 154, 1, 7, 0, []) := rfl
set_option maxRecDepth 20000 in
theorem tL_law_735 : tbL_law 735 = (.if_icmp .eq 18, 738, 753, 0, 0, 0, []) := rfl
set_option maxRecDepth 20000 in
theorem tL_law_738 : tbL_law 738 = (.iconst 0, 739, 0, 0, 0, 0, []) := rfl
set_option maxRecDepth 20000 in
theorem tL_law_739 : tbL_law 739 = (.ireturn, 740, 0, 0, 0, 0, []) := rfl
set_option maxRecDepth 20000 in
theorem tL_law_740 : tbL_law 740 = (.aload_n 1, 741, 0, 0, 0, 0, []) := rfl
set_option maxRecDepth 20000 in
theorem tL_law_741 : tbL_law 741 = (.invokevirtual 113, 744, 90, 0, 6, 0, []) := rfl
set_option maxRecDepth 20000 in
theorem tL_law_744 : tbL_law 744 = (.aload_n 2, 745, 0, 0, 0, 0, []) := rfl
set_option maxRecDepth 20000 in
theorem tL_law_745 : tbL_law 745 = (.invokevirtual 116, 748, 155, 0, 7, 0, []) := rfl
set_option maxRecDepth 20000 in
theorem tL_law_748 : tbL_law 748 = (.if_icmp .eq 5, 751, 753, 0, 0, 0, []) := rfl
set_option maxRecDepth 20000 in
theorem tL_law_751 : tbL_law 751 = (.iconst 0, 752, 0, 0, 0, 0, []) := rfl
set_option maxRecDepth 20000 in
theorem tL_law_752 : tbL_law 752 = (.ireturn, 753, 0, 0, 0, 0, []) := rfl
set_option maxRecDepth 20000 in
theorem tL_law_753 : tbL_law 753 = (.iinc 3 4, 756, 0, 0, 0, 4, []) := rfl
set_option maxRecDepth 20000 in
theorem tL_law_756 : tbL_law 756 = (.goto (-738), 759, 18, 0, 0, 0, []) := rfl
set_option maxRecDepth 20000 in
theorem tL_law_759 : tbL_law 759 = (.iconst 1, 760, 0, 0, 0, 1, []) := rfl
set_option maxRecDepth 20000 in
theorem tL_law_760 : tbL_law 760 = (.ireturn, 761, 0, 0, 0, 0, []) := rfl
