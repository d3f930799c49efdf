/-! the instructions of the program, a row each (written by wip/whole/gen12.py) -/
theorem k0_0 : az_cd 0 0 = some (0, .new 7, 3, 8, 5, 0, [], [55, 56, 42]) := rfl
theorem k0_1 : az_cd 0 1 = some (3, .dup, 1, 0, 0, 0, [], []) := rfl
theorem k0_2 : az_cd 0 2 = some (4, .invokespecial 9, 3, 93, 0, 0, [], [57, 58, 42, 59]) := rfl
theorem k0_3 : az_cd 0 3 = some (7, .astore_n 1, 1, 0, 0, 0, [], []) := rfl
theorem k0_4 : az_cd 0 4 = some (8, .new 10, 3, 9, 10, 0, [], [745, 746, 51]) := rfl
theorem k0_5 : az_cd 0 5 = some (11, .dup, 1, 0, 0, 0, [], []) := rfl
theorem k0_6 : az_cd 0 6 = some (12, .invokespecial 12, 3, 127, 0, 0, [], [747, 748, 51, 749]) := rfl
theorem k0_7 : az_cd 0 7 = some (15, .astore_n 2, 1, 0, 0, 0, [], []) := rfl
theorem k0_8 : az_cd 0 8 = some (16, .iconst 0, 1, 0, 0, 0, [], []) := rfl
theorem k0_9 : az_cd 0 9 = some (17, .istore_n 3, 1, 0, 0, 0, [], []) := rfl
theorem k0_10 : az_cd 0 10 = some (18, .iload_n 3, 1, 0, 0, 0, [], []) := rfl
theorem k0_11 : az_cd 0 11 = some (19, .aload_n 0, 1, 0, 0, 0, [], []) := rfl
theorem k0_12 : az_cd 0 12 = some (20, .arraylength, 1, 0, 0, 0, [], []) := rfl
theorem k0_13 : az_cd 0 13 = some (21, .iconst 3, 1, 0, 0, 3, [], []) := rfl
theorem k0_14 : az_cd 0 14 = some (22, .isub, 1, 0, 0, 0, [], []) := rfl
theorem k0_15 : az_cd 0 15 = some (23, .if_icmp .gt 699, 3, 410, 0, 0, [], []) := rfl
theorem k0_16 : az_cd 0 16 = some (26, .aload_n 0, 1, 0, 0, 0, [], []) := rfl
theorem k0_17 : az_cd 0 17 = some (27, .iload_n 3, 1, 0, 0, 0, [], []) := rfl
theorem k0_18 : az_cd 0 18 = some (28, .iaload, 1, 0, 0, 0, [], []) := rfl
theorem k0_19 : az_cd 0 19 = some (29, .bipush 31, 2, 0, 0, 31, [], []) := rfl
theorem k0_20 : az_cd 0 20 = some (31, .iand, 1, 0, 0, 0, [], []) := rfl
theorem k0_21 : az_cd 0 21 = some (32, .tableswitch 684 0 25 #[120, 153, 176, 189, 202, 215, 228, 241, 254, 293, 306, 329, 354, 367, 380, 393, 406, 429, 452, 485, 518, 551, 584, 607, 648, 661], 120, 408, 0, 0, [22, 49, 66, 73, 80, 87, 94, 101, 108, 133, 140, 157, 176, 183, 190, 197, 204, 221, 238, 265, 292, 319, 346, 363, 384, 391], []) := rfl
theorem k0_22 : az_cd 0 22 = some (152, .aload_n 1, 1, 0, 0, 0, [], []) := rfl
theorem k0_23 : az_cd 0 23 = some (153, .aload_n 0, 1, 0, 0, 0, [], []) := rfl
theorem k0_24 : az_cd 0 24 = some (154, .iload_n 3, 1, 0, 0, 0, [], []) := rfl
theorem k0_25 : az_cd 0 25 = some (155, .iconst 1, 1, 0, 0, 1, [], []) := rfl
theorem k0_26 : az_cd 0 26 = some (156, .iadd, 1, 0, 0, 0, [], []) := rfl
theorem k0_27 : az_cd 0 27 = some (157, .iaload, 1, 0, 0, 0, [], []) := rfl
theorem k0_28 : az_cd 0 28 = some (158, .aload_n 0, 1, 0, 0, 0, [], []) := rfl
theorem k0_29 : az_cd 0 29 = some (159, .iload_n 3, 1, 0, 0, 0, [], []) := rfl
theorem k0_30 : az_cd 0 30 = some (160, .iconst 2, 1, 0, 0, 2, [], []) := rfl
theorem k0_31 : az_cd 0 31 = some (161, .iadd, 1, 0, 0, 0, [], []) := rfl
theorem k0_32 : az_cd 0 32 = some (162, .iaload, 1, 0, 0, 0, [], []) := rfl
theorem k0_33 : az_cd 0 33 = some (163, .invokevirtual 13, 3, 94, 2, 0, [], [244, 245, 42, 247, 246]) := rfl
theorem k0_34 : az_cd 0 34 = some (166, .aload_n 2, 1, 0, 0, 0, [], []) := rfl
theorem k0_35 : az_cd 0 35 = some (167, .aload_n 0, 1, 0, 0, 0, [], []) := rfl
theorem k0_36 : az_cd 0 36 = some (168, .iload_n 3, 1, 0, 0, 0, [], []) := rfl
theorem k0_37 : az_cd 0 37 = some (169, .iconst 1, 1, 0, 0, 1, [], []) := rfl
theorem k0_38 : az_cd 0 38 = some (170, .iadd, 1, 0, 0, 0, [], []) := rfl
theorem k0_39 : az_cd 0 39 = some (171, .iaload, 1, 0, 0, 0, [], []) := rfl
theorem k0_40 : az_cd 0 40 = some (172, .aload_n 0, 1, 0, 0, 0, [], []) := rfl
theorem k0_41 : az_cd 0 41 = some (173, .iload_n 3, 1, 0, 0, 0, [], []) := rfl
theorem k0_42 : az_cd 0 42 = some (174, .iconst 2, 1, 0, 0, 2, [], []) := rfl
theorem k0_43 : az_cd 0 43 = some (175, .iadd, 1, 0, 0, 0, [], []) := rfl
theorem k0_44 : az_cd 0 44 = some (176, .iaload, 1, 0, 0, 0, [], []) := rfl
theorem k0_45 : az_cd 0 45 = some (177, .invokevirtual 17, 3, 146, 2, 0, [], [782, 783, 51, 785, 784]) := rfl
theorem k0_46 : az_cd 0 46 = some (180, .if_icmp .eq 536, 3, 408, 0, 0, [], []) := rfl
theorem k0_47 : az_cd 0 47 = some (183, .iconst 0, 1, 0, 0, 0, [], []) := rfl
theorem k0_48 : az_cd 0 48 = some (184, .ireturn, 1, 0, 0, 0, [], []) := rfl
theorem k0_49 : az_cd 0 49 = some (185, .aload_n 1, 1, 0, 0, 0, [], []) := rfl
theorem k0_50 : az_cd 0 50 = some (186, .aload_n 0, 1, 0, 0, 0, [], []) := rfl
theorem k0_51 : az_cd 0 51 = some (187, .iload_n 3, 1, 0, 0, 0, [], []) := rfl
theorem k0_52 : az_cd 0 52 = some (188, .iconst 1, 1, 0, 0, 1, [], []) := rfl
theorem k0_53 : az_cd 0 53 = some (189, .iadd, 1, 0, 0, 0, [], []) := rfl
theorem k0_54 : az_cd 0 54 = some (190, .iaload, 1, 0, 0, 0, [], []) := rfl
theorem k0_55 : az_cd 0 55 = some (191, .invokevirtual 18, 3, 95, 1, 0, [], [310, 311, 42, 313, 312]) := rfl
theorem k0_56 : az_cd 0 56 = some (194, .aload_n 2, 1, 0, 0, 0, [], []) := rfl
theorem k0_57 : az_cd 0 57 = some (195, .aload_n 0, 1, 0, 0, 0, [], []) := rfl
theorem k0_58 : az_cd 0 58 = some (196, .iload_n 3, 1, 0, 0, 0, [], []) := rfl
theorem k0_59 : az_cd 0 59 = some (197, .iconst 1, 1, 0, 0, 1, [], []) := rfl
theorem k0_60 : az_cd 0 60 = some (198, .iadd, 1, 0, 0, 0, [], []) := rfl
theorem k0_61 : az_cd 0 61 = some (199, .iaload, 1, 0, 0, 0, [], []) := rfl
theorem k0_62 : az_cd 0 62 = some (200, .invokevirtual 22, 3, 147, 1, 0, [], [807, 808, 51, 810, 809]) := rfl
theorem k0_63 : az_cd 0 63 = some (203, .if_icmp .eq 513, 3, 408, 0, 0, [], []) := rfl
theorem k0_64 : az_cd 0 64 = some (206, .iconst 0, 1, 0, 0, 0, [], []) := rfl
theorem k0_65 : az_cd 0 65 = some (207, .ireturn, 1, 0, 0, 0, [], []) := rfl
theorem k0_66 : az_cd 0 66 = some (208, .aload_n 1, 1, 0, 0, 0, [], []) := rfl
theorem k0_67 : az_cd 0 67 = some (209, .invokevirtual 23, 3, 97, 0, 0, [], [314, 315, 42, 317, 316]) := rfl
theorem k0_68 : az_cd 0 68 = some (212, .aload_n 2, 1, 0, 0, 0, [], []) := rfl
theorem k0_69 : az_cd 0 69 = some (213, .invokevirtual 27, 3, 148, 0, 0, [], [811, 812, 51, 814, 813]) := rfl
theorem k0_70 : az_cd 0 70 = some (216, .if_icmp .eq 500, 3, 408, 0, 0, [], []) := rfl
theorem k0_71 : az_cd 0 71 = some (219, .iconst 0, 1, 0, 0, 0, [], []) := rfl
theorem k0_72 : az_cd 0 72 = some (220, .ireturn, 1, 0, 0, 0, [], []) := rfl
theorem k0_73 : az_cd 0 73 = some (221, .aload_n 1, 1, 0, 0, 0, [], []) := rfl
theorem k0_74 : az_cd 0 74 = some (222, .invokevirtual 28, 3, 98, 0, 0, [], [349, 350, 42, 352, 351]) := rfl
theorem k0_75 : az_cd 0 75 = some (225, .aload_n 2, 1, 0, 0, 0, [], []) := rfl
theorem k0_76 : az_cd 0 76 = some (226, .invokevirtual 31, 3, 149, 0, 0, [], [831, 832, 51, 834, 833]) := rfl
theorem k0_77 : az_cd 0 77 = some (229, .if_icmp .eq 487, 3, 408, 0, 0, [], []) := rfl
theorem k0_78 : az_cd 0 78 = some (232, .iconst 0, 1, 0, 0, 0, [], []) := rfl
theorem k0_79 : az_cd 0 79 = some (233, .ireturn, 1, 0, 0, 0, [], []) := rfl
theorem k0_80 : az_cd 0 80 = some (234, .aload_n 1, 1, 0, 0, 0, [], []) := rfl
theorem k0_81 : az_cd 0 81 = some (235, .invokevirtual 32, 3, 99, 0, 0, [], [357, 358, 42, 360, 359]) := rfl
theorem k0_82 : az_cd 0 82 = some (238, .aload_n 2, 1, 0, 0, 0, [], []) := rfl
theorem k0_83 : az_cd 0 83 = some (239, .invokevirtual 35, 3, 157, 0, 0, [], [839, 840, 51, 842, 841]) := rfl
theorem k0_84 : az_cd 0 84 = some (242, .if_icmp .eq 474, 3, 408, 0, 0, [], []) := rfl
theorem k0_85 : az_cd 0 85 = some (245, .iconst 0, 1, 0, 0, 0, [], []) := rfl
theorem k0_86 : az_cd 0 86 = some (246, .ireturn, 1, 0, 0, 0, [], []) := rfl
theorem k0_87 : az_cd 0 87 = some (247, .aload_n 1, 1, 0, 0, 0, [], []) := rfl
theorem k0_88 : az_cd 0 88 = some (248, .invokevirtual 36, 3, 100, 0, 0, [], [378, 379, 42, 381, 380]) := rfl
theorem k0_89 : az_cd 0 89 = some (251, .aload_n 2, 1, 0, 0, 0, [], []) := rfl
theorem k0_90 : az_cd 0 90 = some (252, .invokevirtual 39, 3, 158, 0, 0, [], [851, 852, 51, 854, 853]) := rfl
theorem k0_91 : az_cd 0 91 = some (255, .if_icmp .eq 461, 3, 408, 0, 0, [], []) := rfl
theorem k0_92 : az_cd 0 92 = some (258, .iconst 0, 1, 0, 0, 0, [], []) := rfl
theorem k0_93 : az_cd 0 93 = some (259, .ireturn, 1, 0, 0, 0, [], []) := rfl
theorem k0_94 : az_cd 0 94 = some (260, .aload_n 1, 1, 0, 0, 0, [], []) := rfl
theorem k0_95 : az_cd 0 95 = some (261, .invokevirtual 40, 3, 101, 0, 0, [], [496, 497, 42, 499, 498]) := rfl
theorem k0_96 : az_cd 0 96 = some (264, .aload_n 2, 1, 0, 0, 0, [], []) := rfl
theorem k0_97 : az_cd 0 97 = some (265, .invokevirtual 43, 3, 159, 0, 0, [], [914, 915, 51, 917, 916]) := rfl
theorem k0_98 : az_cd 0 98 = some (268, .if_icmp .eq 448, 3, 408, 0, 0, [], []) := rfl
theorem k0_99 : az_cd 0 99 = some (271, .iconst 0, 1, 0, 0, 0, [], []) := rfl
theorem k0_100 : az_cd 0 100 = some (272, .ireturn, 1, 0, 0, 0, [], []) := rfl
theorem k0_101 : az_cd 0 101 = some (273, .aload_n 1, 1, 0, 0, 0, [], []) := rfl
theorem k0_102 : az_cd 0 102 = some (274, .invokevirtual 44, 3, 102, 0, 0, [], [500, 501, 42, 503, 502]) := rfl
theorem k0_103 : az_cd 0 103 = some (277, .aload_n 2, 1, 0, 0, 0, [], []) := rfl
theorem k0_104 : az_cd 0 104 = some (278, .invokevirtual 47, 3, 160, 0, 0, [], [918, 919, 51, 921, 920]) := rfl
theorem k0_105 : az_cd 0 105 = some (281, .if_icmp .eq 435, 3, 408, 0, 0, [], []) := rfl
theorem k0_106 : az_cd 0 106 = some (284, .iconst 0, 1, 0, 0, 0, [], []) := rfl
theorem k0_107 : az_cd 0 107 = some (285, .ireturn, 1, 0, 0, 0, [], []) := rfl
theorem k0_108 : az_cd 0 108 = some (286, .aload_n 1, 1, 0, 0, 0, [], []) := rfl
theorem k0_109 : az_cd 0 109 = some (287, .aload_n 0, 1, 0, 0, 0, [], []) := rfl
theorem k0_110 : az_cd 0 110 = some (288, .iload_n 3, 1, 0, 0, 0, [], []) := rfl
theorem k0_111 : az_cd 0 111 = some (289, .iconst 1, 1, 0, 0, 1, [], []) := rfl
theorem k0_112 : az_cd 0 112 = some (290, .iadd, 1, 0, 0, 0, [], []) := rfl
theorem k0_113 : az_cd 0 113 = some (291, .iaload, 1, 0, 0, 0, [], []) := rfl
theorem k0_114 : az_cd 0 114 = some (292, .ifCond .eq 7, 3, 117, 0, 0, [], []) := rfl
theorem k0_115 : az_cd 0 115 = some (295, .iconst 1, 1, 0, 0, 1, [], []) := rfl
theorem k0_116 : az_cd 0 116 = some (296, .goto 4, 3, 118, 0, 0, [], []) := rfl
theorem k0_117 : az_cd 0 117 = some (299, .iconst 0, 1, 0, 0, 0, [], []) := rfl
theorem k0_118 : az_cd 0 118 = some (300, .invokevirtual 48, 3, 103, 1, 0, [], [506, 507, 42, 509, 508]) := rfl
theorem k0_119 : az_cd 0 119 = some (303, .aload_n 2, 1, 0, 0, 0, [], []) := rfl
theorem k0_120 : az_cd 0 120 = some (304, .aload_n 0, 1, 0, 0, 0, [], []) := rfl
theorem k0_121 : az_cd 0 121 = some (305, .iload_n 3, 1, 0, 0, 0, [], []) := rfl
theorem k0_122 : az_cd 0 122 = some (306, .iconst 1, 1, 0, 0, 1, [], []) := rfl
theorem k0_123 : az_cd 0 123 = some (307, .iadd, 1, 0, 0, 0, [], []) := rfl
theorem k0_124 : az_cd 0 124 = some (308, .iaload, 1, 0, 0, 0, [], []) := rfl
theorem k0_125 : az_cd 0 125 = some (309, .ifCond .eq 7, 3, 128, 0, 0, [], []) := rfl
theorem k0_126 : az_cd 0 126 = some (312, .iconst 1, 1, 0, 0, 1, [], []) := rfl
theorem k0_127 : az_cd 0 127 = some (313, .goto 4, 3, 129, 0, 0, [], []) := rfl
theorem k0_128 : az_cd 0 128 = some (316, .iconst 0, 1, 0, 0, 0, [], []) := rfl
theorem k0_129 : az_cd 0 129 = some (317, .invokevirtual 52, 3, 162, 1, 0, [], [922, 923, 51, 925, 924]) := rfl
theorem k0_130 : az_cd 0 130 = some (320, .if_icmp .eq 396, 3, 408, 0, 0, [], []) := rfl
theorem k0_131 : az_cd 0 131 = some (323, .iconst 0, 1, 0, 0, 0, [], []) := rfl
theorem k0_132 : az_cd 0 132 = some (324, .ireturn, 1, 0, 0, 0, [], []) := rfl
theorem k0_133 : az_cd 0 133 = some (325, .aload_n 1, 1, 0, 0, 0, [], []) := rfl
theorem k0_134 : az_cd 0 134 = some (326, .invokevirtual 53, 3, 104, 0, 0, [], [524, 525, 42, 527, 526]) := rfl
theorem k0_135 : az_cd 0 135 = some (329, .aload_n 2, 1, 0, 0, 0, [], []) := rfl
theorem k0_136 : az_cd 0 136 = some (330, .invokevirtual 56, 3, 164, 0, 0, [], [930, 931, 51, 933, 932]) := rfl
theorem k0_137 : az_cd 0 137 = some (333, .if_icmp .eq 383, 3, 408, 0, 0, [], []) := rfl
theorem k0_138 : az_cd 0 138 = some (336, .iconst 0, 1, 0, 0, 0, [], []) := rfl
theorem k0_139 : az_cd 0 139 = some (337, .ireturn, 1, 0, 0, 0, [], []) := rfl
theorem k0_140 : az_cd 0 140 = some (338, .aload_n 1, 1, 0, 0, 0, [], []) := rfl
theorem k0_141 : az_cd 0 141 = some (339, .aload_n 0, 1, 0, 0, 0, [], []) := rfl
theorem k0_142 : az_cd 0 142 = some (340, .iload_n 3, 1, 0, 0, 0, [], []) := rfl
theorem k0_143 : az_cd 0 143 = some (341, .iconst 1, 1, 0, 0, 1, [], []) := rfl
theorem k0_144 : az_cd 0 144 = some (342, .iadd, 1, 0, 0, 0, [], []) := rfl
theorem k0_145 : az_cd 0 145 = some (343, .iaload, 1, 0, 0, 0, [], []) := rfl
theorem k0_146 : az_cd 0 146 = some (344, .invokevirtual 57, 3, 105, 1, 0, [], [536, 537, 42, 539, 538]) := rfl
theorem k0_147 : az_cd 0 147 = some (347, .aload_n 2, 1, 0, 0, 0, [], []) := rfl
theorem k0_148 : az_cd 0 148 = some (348, .aload_n 0, 1, 0, 0, 0, [], []) := rfl
theorem k0_149 : az_cd 0 149 = some (349, .iload_n 3, 1, 0, 0, 0, [], []) := rfl
theorem k0_150 : az_cd 0 150 = some (350, .iconst 1, 1, 0, 0, 1, [], []) := rfl
theorem k0_151 : az_cd 0 151 = some (351, .iadd, 1, 0, 0, 0, [], []) := rfl
theorem k0_152 : az_cd 0 152 = some (352, .iaload, 1, 0, 0, 0, [], []) := rfl
theorem k0_153 : az_cd 0 153 = some (353, .invokevirtual 60, 3, 165, 1, 0, [], [938, 939, 51, 941, 940]) := rfl
theorem k0_154 : az_cd 0 154 = some (356, .if_icmp .eq 360, 3, 408, 0, 0, [], []) := rfl
theorem k0_155 : az_cd 0 155 = some (359, .iconst 0, 1, 0, 0, 0, [], []) := rfl
theorem k0_156 : az_cd 0 156 = some (360, .ireturn, 1, 0, 0, 0, [], []) := rfl
theorem k0_157 : az_cd 0 157 = some (361, .aload_n 1, 1, 0, 0, 0, [], []) := rfl
theorem k0_158 : az_cd 0 158 = some (362, .aload_n 0, 1, 0, 0, 0, [], []) := rfl
theorem k0_159 : az_cd 0 159 = some (363, .iload_n 3, 1, 0, 0, 0, [], []) := rfl
theorem k0_160 : az_cd 0 160 = some (364, .iconst 1, 1, 0, 0, 1, [], []) := rfl
theorem k0_161 : az_cd 0 161 = some (365, .iadd, 1, 0, 0, 0, [], []) := rfl
theorem k0_162 : az_cd 0 162 = some (366, .iaload, 1, 0, 0, 0, [], []) := rfl
theorem k0_163 : az_cd 0 163 = some (367, .i2c, 1, 0, 0, 0, [], []) := rfl
theorem k0_164 : az_cd 0 164 = some (368, .invokevirtual 61, 3, 106, 1, 0, [], [552, 553, 42, 555, 554]) := rfl
theorem k0_165 : az_cd 0 165 = some (371, .aload_n 2, 1, 0, 0, 0, [], []) := rfl
theorem k0_166 : az_cd 0 166 = some (372, .aload_n 0, 1, 0, 0, 0, [], []) := rfl
theorem k0_167 : az_cd 0 167 = some (373, .iload_n 3, 1, 0, 0, 0, [], []) := rfl
theorem k0_168 : az_cd 0 168 = some (374, .iconst 1, 1, 0, 0, 1, [], []) := rfl
theorem k0_169 : az_cd 0 169 = some (375, .iadd, 1, 0, 0, 0, [], []) := rfl
theorem k0_170 : az_cd 0 170 = some (376, .iaload, 1, 0, 0, 0, [], []) := rfl
theorem k0_171 : az_cd 0 171 = some (377, .i2c, 1, 0, 0, 0, [], []) := rfl
theorem k0_172 : az_cd 0 172 = some (378, .invokevirtual 65, 3, 166, 1, 0, [], [942, 943, 51, 945, 944]) := rfl
theorem k0_173 : az_cd 0 173 = some (381, .if_icmp .eq 335, 3, 408, 0, 0, [], []) := rfl
theorem k0_174 : az_cd 0 174 = some (384, .iconst 0, 1, 0, 0, 0, [], []) := rfl
theorem k0_175 : az_cd 0 175 = some (385, .ireturn, 1, 0, 0, 0, [], []) := rfl
theorem k0_176 : az_cd 0 176 = some (386, .aload_n 1, 1, 0, 0, 0, [], []) := rfl
theorem k0_177 : az_cd 0 177 = some (387, .invokevirtual 66, 3, 107, 0, 0, [], [568, 569, 42, 571, 570]) := rfl
theorem k0_178 : az_cd 0 178 = some (390, .aload_n 2, 1, 0, 0, 0, [], []) := rfl
theorem k0_179 : az_cd 0 179 = some (391, .invokevirtual 69, 3, 167, 0, 0, [], [946, 947, 51, 949, 948]) := rfl
theorem k0_180 : az_cd 0 180 = some (394, .if_icmp .eq 322, 3, 408, 0, 0, [], []) := rfl
theorem k0_181 : az_cd 0 181 = some (397, .iconst 0, 1, 0, 0, 0, [], []) := rfl
theorem k0_182 : az_cd 0 182 = some (398, .ireturn, 1, 0, 0, 0, [], []) := rfl
theorem k0_183 : az_cd 0 183 = some (399, .aload_n 1, 1, 0, 0, 0, [], []) := rfl
theorem k0_184 : az_cd 0 184 = some (400, .invokevirtual 70, 3, 108, 0, 0, [], [576, 577, 42, 579, 578]) := rfl
theorem k0_185 : az_cd 0 185 = some (403, .aload_n 2, 1, 0, 0, 0, [], []) := rfl
theorem k0_186 : az_cd 0 186 = some (404, .invokevirtual 73, 3, 172, 0, 0, [], [950, 951, 51, 953, 952]) := rfl
theorem k0_187 : az_cd 0 187 = some (407, .if_icmp .eq 309, 3, 408, 0, 0, [], []) := rfl
theorem k0_188 : az_cd 0 188 = some (410, .iconst 0, 1, 0, 0, 0, [], []) := rfl
theorem k0_189 : az_cd 0 189 = some (411, .ireturn, 1, 0, 0, 0, [], []) := rfl
theorem k0_190 : az_cd 0 190 = some (412, .aload_n 1, 1, 0, 0, 0, [], []) := rfl
theorem k0_191 : az_cd 0 191 = some (413, .invokevirtual 74, 3, 109, 0, 0, [], [588, 589, 42, 591, 590]) := rfl
theorem k0_192 : az_cd 0 192 = some (416, .aload_n 2, 1, 0, 0, 0, [], []) := rfl
theorem k0_193 : az_cd 0 193 = some (417, .invokevirtual 77, 3, 173, 0, 0, [], [954, 955, 51, 957, 956]) := rfl
theorem k0_194 : az_cd 0 194 = some (420, .if_icmp .eq 296, 3, 408, 0, 0, [], []) := rfl
theorem k0_195 : az_cd 0 195 = some (423, .iconst 0, 1, 0, 0, 0, [], []) := rfl
theorem k0_196 : az_cd 0 196 = some (424, .ireturn, 1, 0, 0, 0, [], []) := rfl
theorem k0_197 : az_cd 0 197 = some (425, .aload_n 1, 1, 0, 0, 0, [], []) := rfl
theorem k0_198 : az_cd 0 198 = some (426, .invokevirtual 78, 3, 110, 0, 0, [], [593, 594, 42, 596, 595]) := rfl
theorem k0_199 : az_cd 0 199 = some (429, .aload_n 2, 1, 0, 0, 0, [], []) := rfl
theorem k0_200 : az_cd 0 200 = some (430, .invokevirtual 81, 3, 174, 0, 0, [], [958, 959, 51, 961, 960]) := rfl
set_option maxRecDepth 100000 in
theorem k0_201 : az_cd 0 201 = some (433, .if_icmp .eq 283, 3, 408, 0, 0, [], []) := rfl
set_option maxRecDepth 100000 in
theorem k0_202 : az_cd 0 202 = some (436, .iconst 0, 1, 0, 0, 0, [], []) := rfl
set_option maxRecDepth 100000 in
theorem k0_203 : az_cd 0 203 = some (437, .ireturn, 1, 0, 0, 0, [], []) := rfl
set_option maxRecDepth 100000 in
theorem k0_204 : az_cd 0 204 = some (438, .aload_n 1, 1, 0, 0, 0, [], []) := rfl
set_option maxRecDepth 100000 in
theorem k0_205 : az_cd 0 205 = some (439, .aload_n 0, 1, 0, 0, 0, [], []) := rfl
set_option maxRecDepth 100000 in
theorem k0_206 : az_cd 0 206 = some (440, .iload_n 3, 1, 0, 0, 0, [], []) := rfl
set_option maxRecDepth 100000 in
theorem k0_207 : az_cd 0 207 = some (441, .iconst 1, 1, 0, 0, 1, [], []) := rfl
set_option maxRecDepth 100000 in
theorem k0_208 : az_cd 0 208 = some (442, .iadd, 1, 0, 0, 0, [], []) := rfl
set_option maxRecDepth 100000 in
theorem k0_209 : az_cd 0 209 = some (443, .iaload, 1, 0, 0, 0, [], []) := rfl
set_option maxRecDepth 100000 in
theorem k0_210 : az_cd 0 210 = some (444, .invokevirtual 82, 3, 111, 1, 0, [], [597, 598, 42, 600, 599]) := rfl
set_option maxRecDepth 100000 in
theorem k0_211 : az_cd 0 211 = some (447, .aload_n 2, 1, 0, 0, 0, [], []) := rfl
set_option maxRecDepth 100000 in
theorem k0_212 : az_cd 0 212 = some (448, .aload_n 0, 1, 0, 0, 0, [], []) := rfl
set_option maxRecDepth 100000 in
theorem k0_213 : az_cd 0 213 = some (449, .iload_n 3, 1, 0, 0, 0, [], []) := rfl
set_option maxRecDepth 100000 in
theorem k0_214 : az_cd 0 214 = some (450, .iconst 1, 1, 0, 0, 1, [], []) := rfl
set_option maxRecDepth 100000 in
theorem k0_215 : az_cd 0 215 = some (451, .iadd, 1, 0, 0, 0, [], []) := rfl
set_option maxRecDepth 100000 in
theorem k0_216 : az_cd 0 216 = some (452, .iaload, 1, 0, 0, 0, [], []) := rfl
set_option maxRecDepth 100000 in
theorem k0_217 : az_cd 0 217 = some (453, .invokevirtual 85, 3, 176, 1, 0, [], [962, 963, 51, 965, 964]) := rfl
set_option maxRecDepth 100000 in
theorem k0_218 : az_cd 0 218 = some (456, .if_icmp .eq 260, 3, 408, 0, 0, [], []) := rfl
set_option maxRecDepth 100000 in
theorem k0_219 : az_cd 0 219 = some (459, .iconst 0, 1, 0, 0, 0, [], []) := rfl
set_option maxRecDepth 100000 in
theorem k0_220 : az_cd 0 220 = some (460, .ireturn, 1, 0, 0, 0, [], []) := rfl
set_option maxRecDepth 100000 in
theorem k0_221 : az_cd 0 221 = some (461, .aload_n 1, 1, 0, 0, 0, [], []) := rfl
set_option maxRecDepth 100000 in
theorem k0_222 : az_cd 0 222 = some (462, .aload_n 0, 1, 0, 0, 0, [], []) := rfl
set_option maxRecDepth 100000 in
theorem k0_223 : az_cd 0 223 = some (463, .iload_n 3, 1, 0, 0, 0, [], []) := rfl
set_option maxRecDepth 100000 in
theorem k0_224 : az_cd 0 224 = some (464, .iconst 1, 1, 0, 0, 1, [], []) := rfl
set_option maxRecDepth 100000 in
theorem k0_225 : az_cd 0 225 = some (465, .iadd, 1, 0, 0, 0, [], []) := rfl
set_option maxRecDepth 100000 in
theorem k0_226 : az_cd 0 226 = some (466, .iaload, 1, 0, 0, 0, [], []) := rfl
set_option maxRecDepth 100000 in
theorem k0_227 : az_cd 0 227 = some (467, .invokevirtual 86, 3, 112, 1, 0, [], [609, 610, 42, 612, 611]) := rfl
set_option maxRecDepth 100000 in
theorem k0_228 : az_cd 0 228 = some (470, .aload_n 2, 1, 0, 0, 0, [], []) := rfl
set_option maxRecDepth 100000 in
theorem k0_229 : az_cd 0 229 = some (471, .aload_n 0, 1, 0, 0, 0, [], []) := rfl
set_option maxRecDepth 100000 in
theorem k0_230 : az_cd 0 230 = some (472, .iload_n 3, 1, 0, 0, 0, [], []) := rfl
set_option maxRecDepth 100000 in
theorem k0_231 : az_cd 0 231 = some (473, .iconst 1, 1, 0, 0, 1, [], []) := rfl
set_option maxRecDepth 100000 in
theorem k0_232 : az_cd 0 232 = some (474, .iadd, 1, 0, 0, 0, [], []) := rfl
set_option maxRecDepth 100000 in
theorem k0_233 : az_cd 0 233 = some (475, .iaload, 1, 0, 0, 0, [], []) := rfl
set_option maxRecDepth 100000 in
theorem k0_234 : az_cd 0 234 = some (476, .invokevirtual 89, 3, 177, 1, 0, [], [970, 971, 51, 973, 972]) := rfl
set_option maxRecDepth 100000 in
theorem k0_235 : az_cd 0 235 = some (479, .if_icmp .eq 237, 3, 408, 0, 0, [], []) := rfl
set_option maxRecDepth 100000 in
theorem k0_236 : az_cd 0 236 = some (482, .iconst 0, 1, 0, 0, 0, [], []) := rfl
set_option maxRecDepth 100000 in
theorem k0_237 : az_cd 0 237 = some (483, .ireturn, 1, 0, 0, 0, [], []) := rfl
set_option maxRecDepth 100000 in
theorem k0_238 : az_cd 0 238 = some (484, .aload_n 1, 1, 0, 0, 0, [], []) := rfl
set_option maxRecDepth 100000 in
theorem k0_239 : az_cd 0 239 = some (485, .aload_n 0, 1, 0, 0, 0, [], []) := rfl
set_option maxRecDepth 100000 in
theorem k0_240 : az_cd 0 240 = some (486, .iload_n 3, 1, 0, 0, 0, [], []) := rfl
set_option maxRecDepth 100000 in
theorem k0_241 : az_cd 0 241 = some (487, .iconst 1, 1, 0, 0, 1, [], []) := rfl
set_option maxRecDepth 100000 in
theorem k0_242 : az_cd 0 242 = some (488, .iadd, 1, 0, 0, 0, [], []) := rfl
set_option maxRecDepth 100000 in
theorem k0_243 : az_cd 0 243 = some (489, .iaload, 1, 0, 0, 0, [], []) := rfl
set_option maxRecDepth 100000 in
theorem k0_244 : az_cd 0 244 = some (490, .aload_n 0, 1, 0, 0, 0, [], []) := rfl
set_option maxRecDepth 100000 in
theorem k0_245 : az_cd 0 245 = some (491, .iload_n 3, 1, 0, 0, 0, [], []) := rfl
set_option maxRecDepth 100000 in
theorem k0_246 : az_cd 0 246 = some (492, .iconst 2, 1, 0, 0, 2, [], []) := rfl
set_option maxRecDepth 100000 in
theorem k0_247 : az_cd 0 247 = some (493, .iadd, 1, 0, 0, 0, [], []) := rfl
set_option maxRecDepth 100000 in
theorem k0_248 : az_cd 0 248 = some (494, .iaload, 1, 0, 0, 0, [], []) := rfl
set_option maxRecDepth 100000 in
theorem k0_249 : az_cd 0 249 = some (495, .invokevirtual 90, 3, 113, 2, 0, [], [618, 619, 42, 621, 620]) := rfl
set_option maxRecDepth 100000 in
theorem k0_250 : az_cd 0 250 = some (498, .aload_n 2, 1, 0, 0, 0, [], []) := rfl
set_option maxRecDepth 100000 in
theorem k0_251 : az_cd 0 251 = some (499, .aload_n 0, 1, 0, 0, 0, [], []) := rfl
set_option maxRecDepth 100000 in
theorem k0_252 : az_cd 0 252 = some (500, .iload_n 3, 1, 0, 0, 0, [], []) := rfl
set_option maxRecDepth 100000 in
theorem k0_253 : az_cd 0 253 = some (501, .iconst 1, 1, 0, 0, 1, [], []) := rfl
set_option maxRecDepth 100000 in
theorem k0_254 : az_cd 0 254 = some (502, .iadd, 1, 0, 0, 0, [], []) := rfl
set_option maxRecDepth 100000 in
theorem k0_255 : az_cd 0 255 = some (503, .iaload, 1, 0, 0, 0, [], []) := rfl
set_option maxRecDepth 100000 in
theorem k0_256 : az_cd 0 256 = some (504, .aload_n 0, 1, 0, 0, 0, [], []) := rfl
set_option maxRecDepth 100000 in
theorem k0_257 : az_cd 0 257 = some (505, .iload_n 3, 1, 0, 0, 0, [], []) := rfl
set_option maxRecDepth 100000 in
theorem k0_258 : az_cd 0 258 = some (506, .iconst 2, 1, 0, 0, 2, [], []) := rfl
set_option maxRecDepth 100000 in
theorem k0_259 : az_cd 0 259 = some (507, .iadd, 1, 0, 0, 0, [], []) := rfl
set_option maxRecDepth 100000 in
theorem k0_260 : az_cd 0 260 = some (508, .iaload, 1, 0, 0, 0, [], []) := rfl
set_option maxRecDepth 100000 in
theorem k0_261 : az_cd 0 261 = some (509, .invokevirtual 93, 3, 178, 2, 0, [], [974, 975, 51, 977, 976]) := rfl
set_option maxRecDepth 100000 in
theorem k0_262 : az_cd 0 262 = some (512, .if_icmp .eq 204, 3, 408, 0, 0, [], []) := rfl
set_option maxRecDepth 100000 in
theorem k0_263 : az_cd 0 263 = some (515, .iconst 0, 1, 0, 0, 0, [], []) := rfl
set_option maxRecDepth 100000 in
theorem k0_264 : az_cd 0 264 = some (516, .ireturn, 1, 0, 0, 0, [], []) := rfl
set_option maxRecDepth 100000 in
theorem k0_265 : az_cd 0 265 = some (517, .aload_n 1, 1, 0, 0, 0, [], []) := rfl
set_option maxRecDepth 100000 in
theorem k0_266 : az_cd 0 266 = some (518, .aload_n 0, 1, 0, 0, 0, [], []) := rfl
set_option maxRecDepth 100000 in
theorem k0_267 : az_cd 0 267 = some (519, .iload_n 3, 1, 0, 0, 0, [], []) := rfl
set_option maxRecDepth 100000 in
theorem k0_268 : az_cd 0 268 = some (520, .iconst 1, 1, 0, 0, 1, [], []) := rfl
set_option maxRecDepth 100000 in
theorem k0_269 : az_cd 0 269 = some (521, .iadd, 1, 0, 0, 0, [], []) := rfl
set_option maxRecDepth 100000 in
theorem k0_270 : az_cd 0 270 = some (522, .iaload, 1, 0, 0, 0, [], []) := rfl
set_option maxRecDepth 100000 in
theorem k0_271 : az_cd 0 271 = some (523, .aload_n 0, 1, 0, 0, 0, [], []) := rfl
set_option maxRecDepth 100000 in
theorem k0_272 : az_cd 0 272 = some (524, .iload_n 3, 1, 0, 0, 0, [], []) := rfl
set_option maxRecDepth 100000 in
theorem k0_273 : az_cd 0 273 = some (525, .iconst 2, 1, 0, 0, 2, [], []) := rfl
set_option maxRecDepth 100000 in
theorem k0_274 : az_cd 0 274 = some (526, .iadd, 1, 0, 0, 0, [], []) := rfl
set_option maxRecDepth 100000 in
theorem k0_275 : az_cd 0 275 = some (527, .iaload, 1, 0, 0, 0, [], []) := rfl
set_option maxRecDepth 100000 in
theorem k0_276 : az_cd 0 276 = some (528, .invokevirtual 94, 3, 114, 2, 0, [], [629, 630, 42, 632, 631]) := rfl
set_option maxRecDepth 100000 in
theorem k0_277 : az_cd 0 277 = some (531, .aload_n 2, 1, 0, 0, 0, [], []) := rfl
set_option maxRecDepth 100000 in
theorem k0_278 : az_cd 0 278 = some (532, .aload_n 0, 1, 0, 0, 0, [], []) := rfl
set_option maxRecDepth 100000 in
theorem k0_279 : az_cd 0 279 = some (533, .iload_n 3, 1, 0, 0, 0, [], []) := rfl
set_option maxRecDepth 100000 in
theorem k0_280 : az_cd 0 280 = some (534, .iconst 1, 1, 0, 0, 1, [], []) := rfl
set_option maxRecDepth 100000 in
theorem k0_281 : az_cd 0 281 = some (535, .iadd, 1, 0, 0, 0, [], []) := rfl
set_option maxRecDepth 100000 in
theorem k0_282 : az_cd 0 282 = some (536, .iaload, 1, 0, 0, 0, [], []) := rfl
set_option maxRecDepth 100000 in
theorem k0_283 : az_cd 0 283 = some (537, .aload_n 0, 1, 0, 0, 0, [], []) := rfl
set_option maxRecDepth 100000 in
theorem k0_284 : az_cd 0 284 = some (538, .iload_n 3, 1, 0, 0, 0, [], []) := rfl
set_option maxRecDepth 100000 in
theorem k0_285 : az_cd 0 285 = some (539, .iconst 2, 1, 0, 0, 2, [], []) := rfl
set_option maxRecDepth 100000 in
theorem k0_286 : az_cd 0 286 = some (540, .iadd, 1, 0, 0, 0, [], []) := rfl
set_option maxRecDepth 100000 in
theorem k0_287 : az_cd 0 287 = some (541, .iaload, 1, 0, 0, 0, [], []) := rfl
set_option maxRecDepth 100000 in
theorem k0_288 : az_cd 0 288 = some (542, .invokevirtual 97, 3, 179, 2, 0, [], [978, 979, 51, 981, 980]) := rfl
set_option maxRecDepth 100000 in
theorem k0_289 : az_cd 0 289 = some (545, .if_icmp .eq 171, 3, 408, 0, 0, [], []) := rfl
set_option maxRecDepth 100000 in
theorem k0_290 : az_cd 0 290 = some (548, .iconst 0, 1, 0, 0, 0, [], []) := rfl
set_option maxRecDepth 100000 in
theorem k0_291 : az_cd 0 291 = some (549, .ireturn, 1, 0, 0, 0, [], []) := rfl
set_option maxRecDepth 100000 in
theorem k0_292 : az_cd 0 292 = some (550, .aload_n 1, 1, 0, 0, 0, [], []) := rfl
set_option maxRecDepth 100000 in
theorem k0_293 : az_cd 0 293 = some (551, .aload_n 0, 1, 0, 0, 0, [], []) := rfl
set_option maxRecDepth 100000 in
theorem k0_294 : az_cd 0 294 = some (552, .iload_n 3, 1, 0, 0, 0, [], []) := rfl
set_option maxRecDepth 100000 in
theorem k0_295 : az_cd 0 295 = some (553, .iconst 1, 1, 0, 0, 1, [], []) := rfl
set_option maxRecDepth 100000 in
theorem k0_296 : az_cd 0 296 = some (554, .iadd, 1, 0, 0, 0, [], []) := rfl
set_option maxRecDepth 100000 in
theorem k0_297 : az_cd 0 297 = some (555, .iaload, 1, 0, 0, 0, [], []) := rfl
set_option maxRecDepth 100000 in
theorem k0_298 : az_cd 0 298 = some (556, .aload_n 0, 1, 0, 0, 0, [], []) := rfl
set_option maxRecDepth 100000 in
theorem k0_299 : az_cd 0 299 = some (557, .iload_n 3, 1, 0, 0, 0, [], []) := rfl
set_option maxRecDepth 100000 in
theorem k0_300 : az_cd 0 300 = some (558, .iconst 2, 1, 0, 0, 2, [], []) := rfl
set_option maxRecDepth 100000 in
theorem k0_301 : az_cd 0 301 = some (559, .iadd, 1, 0, 0, 0, [], []) := rfl
set_option maxRecDepth 100000 in
theorem k0_302 : az_cd 0 302 = some (560, .iaload, 1, 0, 0, 0, [], []) := rfl
set_option maxRecDepth 100000 in
theorem k0_303 : az_cd 0 303 = some (561, .invokevirtual 98, 3, 115, 2, 0, [], [650, 651, 42, 653, 652]) := rfl
set_option maxRecDepth 100000 in
theorem k0_304 : az_cd 0 304 = some (564, .aload_n 2, 1, 0, 0, 0, [], []) := rfl
set_option maxRecDepth 100000 in
theorem k0_305 : az_cd 0 305 = some (565, .aload_n 0, 1, 0, 0, 0, [], []) := rfl
set_option maxRecDepth 100000 in
theorem k0_306 : az_cd 0 306 = some (566, .iload_n 3, 1, 0, 0, 0, [], []) := rfl
set_option maxRecDepth 100000 in
theorem k0_307 : az_cd 0 307 = some (567, .iconst 1, 1, 0, 0, 1, [], []) := rfl
set_option maxRecDepth 100000 in
theorem k0_308 : az_cd 0 308 = some (568, .iadd, 1, 0, 0, 0, [], []) := rfl
set_option maxRecDepth 100000 in
theorem k0_309 : az_cd 0 309 = some (569, .iaload, 1, 0, 0, 0, [], []) := rfl
set_option maxRecDepth 100000 in
theorem k0_310 : az_cd 0 310 = some (570, .aload_n 0, 1, 0, 0, 0, [], []) := rfl
set_option maxRecDepth 100000 in
theorem k0_311 : az_cd 0 311 = some (571, .iload_n 3, 1, 0, 0, 0, [], []) := rfl
set_option maxRecDepth 100000 in
theorem k0_312 : az_cd 0 312 = some (572, .iconst 2, 1, 0, 0, 2, [], []) := rfl
set_option maxRecDepth 100000 in
theorem k0_313 : az_cd 0 313 = some (573, .iadd, 1, 0, 0, 0, [], []) := rfl
set_option maxRecDepth 100000 in
theorem k0_314 : az_cd 0 314 = some (574, .iaload, 1, 0, 0, 0, [], []) := rfl
set_option maxRecDepth 100000 in
theorem k0_315 : az_cd 0 315 = some (575, .invokevirtual 101, 3, 181, 2, 0, [], [986, 987, 51, 989, 988]) := rfl
set_option maxRecDepth 100000 in
theorem k0_316 : az_cd 0 316 = some (578, .if_icmp .eq 138, 3, 408, 0, 0, [], []) := rfl
set_option maxRecDepth 100000 in
theorem k0_317 : az_cd 0 317 = some (581, .iconst 0, 1, 0, 0, 0, [], []) := rfl
set_option maxRecDepth 100000 in
theorem k0_318 : az_cd 0 318 = some (582, .ireturn, 1, 0, 0, 0, [], []) := rfl
set_option maxRecDepth 100000 in
theorem k0_319 : az_cd 0 319 = some (583, .aload_n 1, 1, 0, 0, 0, [], []) := rfl
set_option maxRecDepth 100000 in
theorem k0_320 : az_cd 0 320 = some (584, .aload_n 0, 1, 0, 0, 0, [], []) := rfl
set_option maxRecDepth 100000 in
theorem k0_321 : az_cd 0 321 = some (585, .iload_n 3, 1, 0, 0, 0, [], []) := rfl
set_option maxRecDepth 100000 in
theorem k0_322 : az_cd 0 322 = some (586, .iconst 1, 1, 0, 0, 1, [], []) := rfl
set_option maxRecDepth 100000 in
theorem k0_323 : az_cd 0 323 = some (587, .iadd, 1, 0, 0, 0, [], []) := rfl
set_option maxRecDepth 100000 in
theorem k0_324 : az_cd 0 324 = some (588, .iaload, 1, 0, 0, 0, [], []) := rfl
set_option maxRecDepth 100000 in
theorem k0_325 : az_cd 0 325 = some (589, .aload_n 0, 1, 0, 0, 0, [], []) := rfl
set_option maxRecDepth 100000 in
theorem k0_326 : az_cd 0 326 = some (590, .iload_n 3, 1, 0, 0, 0, [], []) := rfl
set_option maxRecDepth 100000 in
theorem k0_327 : az_cd 0 327 = some (591, .iconst 2, 1, 0, 0, 2, [], []) := rfl
set_option maxRecDepth 100000 in
theorem k0_328 : az_cd 0 328 = some (592, .iadd, 1, 0, 0, 0, [], []) := rfl
set_option maxRecDepth 100000 in
theorem k0_329 : az_cd 0 329 = some (593, .iaload, 1, 0, 0, 0, [], []) := rfl
set_option maxRecDepth 100000 in
theorem k0_330 : az_cd 0 330 = some (594, .invokevirtual 102, 3, 116, 2, 0, [], [668, 669, 42, 671, 670]) := rfl
set_option maxRecDepth 100000 in
theorem k0_331 : az_cd 0 331 = some (597, .aload_n 2, 1, 0, 0, 0, [], []) := rfl
set_option maxRecDepth 100000 in
theorem k0_332 : az_cd 0 332 = some (598, .aload_n 0, 1, 0, 0, 0, [], []) := rfl
set_option maxRecDepth 100000 in
theorem k0_333 : az_cd 0 333 = some (599, .iload_n 3, 1, 0, 0, 0, [], []) := rfl
set_option maxRecDepth 100000 in
theorem k0_334 : az_cd 0 334 = some (600, .iconst 1, 1, 0, 0, 1, [], []) := rfl
set_option maxRecDepth 100000 in
theorem k0_335 : az_cd 0 335 = some (601, .iadd, 1, 0, 0, 0, [], []) := rfl
set_option maxRecDepth 100000 in
theorem k0_336 : az_cd 0 336 = some (602, .iaload, 1, 0, 0, 0, [], []) := rfl
set_option maxRecDepth 100000 in
theorem k0_337 : az_cd 0 337 = some (603, .aload_n 0, 1, 0, 0, 0, [], []) := rfl
set_option maxRecDepth 100000 in
theorem k0_338 : az_cd 0 338 = some (604, .iload_n 3, 1, 0, 0, 0, [], []) := rfl
set_option maxRecDepth 100000 in
theorem k0_339 : az_cd 0 339 = some (605, .iconst 2, 1, 0, 0, 2, [], []) := rfl
set_option maxRecDepth 100000 in
theorem k0_340 : az_cd 0 340 = some (606, .iadd, 1, 0, 0, 0, [], []) := rfl
set_option maxRecDepth 100000 in
theorem k0_341 : az_cd 0 341 = some (607, .iaload, 1, 0, 0, 0, [], []) := rfl
set_option maxRecDepth 100000 in
theorem k0_342 : az_cd 0 342 = some (608, .invokevirtual 105, 3, 182, 2, 0, [], [994, 995, 51, 997, 996]) := rfl
set_option maxRecDepth 100000 in
theorem k0_343 : az_cd 0 343 = some (611, .if_icmp .eq 105, 3, 408, 0, 0, [], []) := rfl
set_option maxRecDepth 100000 in
theorem k0_344 : az_cd 0 344 = some (614, .iconst 0, 1, 0, 0, 0, [], []) := rfl
set_option maxRecDepth 100000 in
theorem k0_345 : az_cd 0 345 = some (615, .ireturn, 1, 0, 0, 0, [], []) := rfl
set_option maxRecDepth 100000 in
theorem k0_346 : az_cd 0 346 = some (616, .aload_n 1, 1, 0, 0, 0, [], []) := rfl
set_option maxRecDepth 100000 in
theorem k0_347 : az_cd 0 347 = some (617, .aload_n 0, 1, 0, 0, 0, [], []) := rfl
set_option maxRecDepth 100000 in
theorem k0_348 : az_cd 0 348 = some (618, .iload_n 3, 1, 0, 0, 0, [], []) := rfl
set_option maxRecDepth 100000 in
theorem k0_349 : az_cd 0 349 = some (619, .iconst 1, 1, 0, 0, 1, [], []) := rfl
set_option maxRecDepth 100000 in
theorem k0_350 : az_cd 0 350 = some (620, .iadd, 1, 0, 0, 0, [], []) := rfl
set_option maxRecDepth 100000 in
theorem k0_351 : az_cd 0 351 = some (621, .iaload, 1, 0, 0, 0, [], []) := rfl
set_option maxRecDepth 100000 in
theorem k0_352 : az_cd 0 352 = some (622, .invokevirtual 106, 3, 117, 1, 0, [], [677, 678, 42, 680, 679]) := rfl
set_option maxRecDepth 100000 in
theorem k0_353 : az_cd 0 353 = some (625, .aload_n 2, 1, 0, 0, 0, [], []) := rfl
set_option maxRecDepth 100000 in
theorem k0_354 : az_cd 0 354 = some (626, .aload_n 0, 1, 0, 0, 0, [], []) := rfl
set_option maxRecDepth 100000 in
theorem k0_355 : az_cd 0 355 = some (627, .iload_n 3, 1, 0, 0, 0, [], []) := rfl
set_option maxRecDepth 100000 in
theorem k0_356 : az_cd 0 356 = some (628, .iconst 1, 1, 0, 0, 1, [], []) := rfl
set_option maxRecDepth 100000 in
theorem k0_357 : az_cd 0 357 = some (629, .iadd, 1, 0, 0, 0, [], []) := rfl
set_option maxRecDepth 100000 in
theorem k0_358 : az_cd 0 358 = some (630, .iaload, 1, 0, 0, 0, [], []) := rfl
set_option maxRecDepth 100000 in
theorem k0_359 : az_cd 0 359 = some (631, .invokevirtual 109, 3, 183, 1, 0, [], [998, 999, 51, 1001, 1000]) := rfl
set_option maxRecDepth 100000 in
theorem k0_360 : az_cd 0 360 = some (634, .if_icmp .eq 82, 3, 408, 0, 0, [], []) := rfl
set_option maxRecDepth 100000 in
theorem k0_361 : az_cd 0 361 = some (637, .iconst 0, 1, 0, 0, 0, [], []) := rfl
set_option maxRecDepth 100000 in
theorem k0_362 : az_cd 0 362 = some (638, .ireturn, 1, 0, 0, 0, [], []) := rfl
set_option maxRecDepth 100000 in
theorem k0_363 : az_cd 0 363 = some (639, .aload_n 1, 1, 0, 0, 0, [], []) := rfl
set_option maxRecDepth 100000 in
theorem k0_364 : az_cd 0 364 = some (640, .invokevirtual 110, 3, 118, 0, 0, [], [686, 687, 42, 689, 688]) := rfl
set_option maxRecDepth 100000 in
theorem k0_365 : az_cd 0 365 = some (643, .dstore 4, 2, 0, 0, 0, [], []) := rfl
set_option maxRecDepth 100000 in
theorem k0_366 : az_cd 0 366 = some (645, .aload_n 2, 1, 0, 0, 0, [], []) := rfl
set_option maxRecDepth 100000 in
theorem k0_367 : az_cd 0 367 = some (646, .invokevirtual 114, 3, 186, 0, 0, [], [1002, 1003, 51, 1005, 1004]) := rfl
set_option maxRecDepth 100000 in
theorem k0_368 : az_cd 0 368 = some (649, .dstore 6, 2, 0, 0, 0, [], []) := rfl
set_option maxRecDepth 100000 in
theorem k0_369 : az_cd 0 369 = some (651, .dload 4, 2, 0, 0, 0, [], []) := rfl
set_option maxRecDepth 100000 in
theorem k0_370 : az_cd 0 370 = some (653, .dload 6, 2, 0, 0, 0, [], []) := rfl
set_option maxRecDepth 100000 in
theorem k0_371 : az_cd 0 371 = some (655, .dcmp .l, 1, 0, 0, 0, [], []) := rfl
set_option maxRecDepth 100000 in
theorem k0_372 : az_cd 0 372 = some (656, .ifCond .eq 21, 3, 383, 0, 0, [], []) := rfl
set_option maxRecDepth 100000 in
theorem k0_373 : az_cd 0 373 = some (659, .dload 4, 2, 0, 0, 0, [], []) := rfl
set_option maxRecDepth 100000 in
theorem k0_374 : az_cd 0 374 = some (661, .dload 4, 2, 0, 0, 0, [], []) := rfl
set_option maxRecDepth 100000 in
theorem k0_375 : az_cd 0 375 = some (663, .dcmp .l, 1, 0, 0, 0, [], []) := rfl
set_option maxRecDepth 100000 in
theorem k0_376 : az_cd 0 376 = some (664, .ifCond .eq 11, 3, 381, 0, 0, [], []) := rfl
set_option maxRecDepth 100000 in
theorem k0_377 : az_cd 0 377 = some (667, .dload 6, 2, 0, 0, 0, [], []) := rfl
set_option maxRecDepth 100000 in
theorem k0_378 : az_cd 0 378 = some (669, .dload 6, 2, 0, 0, 0, [], []) := rfl
set_option maxRecDepth 100000 in
theorem k0_379 : az_cd 0 379 = some (671, .dcmp .l, 1, 0, 0, 0, [], []) := rfl
set_option maxRecDepth 100000 in
theorem k0_380 : az_cd 0 380 = some (672, .ifCond .ne 5, 3, 383, 0, 0, [], []) := rfl
set_option maxRecDepth 100000 in
theorem k0_381 : az_cd 0 381 = some (675, .iconst 0, 1, 0, 0, 0, [], []) := rfl
set_option maxRecDepth 100000 in
theorem k0_382 : az_cd 0 382 = some (676, .ireturn, 1, 0, 0, 0, [], []) := rfl
set_option maxRecDepth 100000 in
theorem k0_383 : az_cd 0 383 = some (677, .goto 39, 3, 408, 0, 0, [], []) := rfl
set_option maxRecDepth 100000 in
theorem k0_384 : az_cd 0 384 = some (680, .aload_n 1, 1, 0, 0, 0, [], []) := rfl
set_option maxRecDepth 100000 in
theorem k0_385 : az_cd 0 385 = some (681, .invokevirtual 115, 3, 119, 0, 0, [], [699, 700, 42, 702, 701]) := rfl
set_option maxRecDepth 100000 in
theorem k0_386 : az_cd 0 386 = some (684, .aload_n 2, 1, 0, 0, 0, [], []) := rfl
set_option maxRecDepth 100000 in
theorem k0_387 : az_cd 0 387 = some (685, .invokevirtual 118, 3, 187, 0, 0, [], [1015, 1016, 51, 1018, 1017]) := rfl
set_option maxRecDepth 100000 in
theorem k0_388 : az_cd 0 388 = some (688, .if_icmp .eq 28, 3, 408, 0, 0, [], []) := rfl
set_option maxRecDepth 100000 in
theorem k0_389 : az_cd 0 389 = some (691, .iconst 0, 1, 0, 0, 0, [], []) := rfl
set_option maxRecDepth 100000 in
theorem k0_390 : az_cd 0 390 = some (692, .ireturn, 1, 0, 0, 0, [], []) := rfl
set_option maxRecDepth 100000 in
theorem k0_391 : az_cd 0 391 = some (693, .aload_n 1, 1, 0, 0, 0, [], []) := rfl
set_option maxRecDepth 100000 in
theorem k0_392 : az_cd 0 392 = some (694, .aload_n 0, 1, 0, 0, 0, [], []) := rfl
set_option maxRecDepth 100000 in
theorem k0_393 : az_cd 0 393 = some (695, .iload_n 3, 1, 0, 0, 0, [], []) := rfl
set_option maxRecDepth 100000 in
theorem k0_394 : az_cd 0 394 = some (696, .iconst 1, 1, 0, 0, 1, [], []) := rfl
set_option maxRecDepth 100000 in
theorem k0_395 : az_cd 0 395 = some (697, .iadd, 1, 0, 0, 0, [], []) := rfl
set_option maxRecDepth 100000 in
theorem k0_396 : az_cd 0 396 = some (698, .iaload, 1, 0, 0, 0, [], []) := rfl
set_option maxRecDepth 100000 in
theorem k0_397 : az_cd 0 397 = some (699, .invokevirtual 119, 3, 120, 1, 0, [], [708, 709, 42, 711, 710]) := rfl
set_option maxRecDepth 100000 in
theorem k0_398 : az_cd 0 398 = some (702, .aload_n 2, 1, 0, 0, 0, [], []) := rfl
set_option maxRecDepth 100000 in
theorem k0_399 : az_cd 0 399 = some (703, .aload_n 0, 1, 0, 0, 0, [], []) := rfl
set_option maxRecDepth 100000 in
theorem k0_400 : az_cd 0 400 = some (704, .iload_n 3, 1, 0, 0, 0, [], []) := rfl
set_option maxRecDepth 100000 in
theorem k0_401 : az_cd 0 401 = some (705, .iconst 1, 1, 0, 0, 1, [], []) := rfl
set_option maxRecDepth 100000 in
theorem k0_402 : az_cd 0 402 = some (706, .iadd, 1, 0, 0, 0, [], []) := rfl
set_option maxRecDepth 100000 in
theorem k0_403 : az_cd 0 403 = some (707, .iaload, 1, 0, 0, 0, [], []) := rfl
set_option maxRecDepth 100000 in
theorem k0_404 : az_cd 0 404 = some (708, .invokevirtual 122, 3, 191, 1, 0, [], [1029, 1030, 51, 1032, 1031]) := rfl
set_option maxRecDepth 100000 in
theorem k0_405 : az_cd 0 405 = some (711, .if_icmp .eq 5, 3, 408, 0, 0, [], []) := rfl
set_option maxRecDepth 100000 in
theorem k0_406 : az_cd 0 406 = some (714, .iconst 0, 1, 0, 0, 0, [], []) := rfl
set_option maxRecDepth 100000 in
theorem k0_407 : az_cd 0 407 = some (715, .ireturn, 1, 0, 0, 0, [], []) := rfl
set_option maxRecDepth 100000 in
theorem k0_408 : az_cd 0 408 = some (716, .iinc 3 3, 3, 0, 0, 3, [], []) := rfl
set_option maxRecDepth 100000 in
theorem k0_409 : az_cd 0 409 = some (719, .goto (-701), 3, 10, 0, 0, [], []) := rfl
set_option maxRecDepth 100000 in
theorem k0_410 : az_cd 0 410 = some (722, .iconst 1, 1, 0, 0, 1, [], []) := rfl
set_option maxRecDepth 100000 in
theorem k0_411 : az_cd 0 411 = some (723, .ireturn, 1, 0, 0, 0, [], []) := rfl
theorem k1_0 : az_cd 1 0 = some (0, .aload_n 0, 1, 0, 0, 0, [], []) := rfl
theorem k1_1 : az_cd 1 1 = some (1, .invokespecial 3, 3, 196, 0, 2, [], [74, 61, 62]) := rfl
theorem k1_2 : az_cd 1 2 = some (4, .aload_n 0, 1, 0, 0, 0, [], []) := rfl
theorem k1_3 : az_cd 1 3 = some (5, .bipush 24, 2, 0, 0, 24, [], []) := rfl
theorem k1_4 : az_cd 1 4 = some (7, .newarray .int, 2, 0, 0, 0, [], [91]) := rfl
theorem k1_5 : az_cd 1 5 = some (9, .putfield 9, 3, 0, 0, 0, [], [81]) := rfl
theorem k1_6 : az_cd 1 6 = some (12, .aload_n 0, 1, 0, 0, 0, [], []) := rfl
theorem k1_7 : az_cd 1 7 = some (13, .bipush 24, 2, 0, 0, 24, [], []) := rfl
theorem k1_8 : az_cd 1 8 = some (15, .newarray .int, 2, 0, 0, 0, [], [91]) := rfl
theorem k1_9 : az_cd 1 9 = some (17, .putfield 15, 3, 0, 1, 0, [], [82]) := rfl
theorem k1_10 : az_cd 1 10 = some (20, .aload_n 0, 1, 0, 0, 0, [], []) := rfl
theorem k1_11 : az_cd 1 11 = some (21, .bipush 24, 2, 0, 0, 24, [], []) := rfl
theorem k1_12 : az_cd 1 12 = some (23, .newarray .int, 2, 0, 0, 0, [], [91]) := rfl
theorem k1_13 : az_cd 1 13 = some (25, .putfield 18, 3, 0, 2, 0, [], [83]) := rfl
theorem k1_14 : az_cd 1 14 = some (28, .aload_n 0, 1, 0, 0, 0, [], []) := rfl
theorem k1_15 : az_cd 1 15 = some (29, .getfield 15, 3, 0, 1, 0, [], [82]) := rfl
theorem k1_16 : az_cd 1 16 = some (32, .iconst 0, 1, 0, 0, 0, [], []) := rfl
theorem k1_17 : az_cd 1 17 = some (33, .invokestatic 21, 3, 2, 1, 0, [], [75, 76, 44, 77]) := rfl
theorem k1_18 : az_cd 1 18 = some (36, .invokestatic 25, 3, 124, 2, 1, [], [78, 79, 42, 80]) := rfl
theorem k1_19 : az_cd 1 19 = some (39, .return_, 1, 0, 0, 0, [], []) := rfl
theorem k2_0 : az_cd 2 0 = some (0, .iload_n 0, 1, 0, 0, 0, [], []) := rfl
theorem k2_1 : az_cd 2 1 = some (1, .bipush 37, 2, 0, 0, 37, [], []) := rfl
theorem k2_2 : az_cd 2 2 = some (3, .imul, 1, 0, 0, 0, [], []) := rfl
theorem k2_3 : az_cd 2 3 = some (4, .bipush 11, 2, 0, 0, 11, [], []) := rfl
theorem k2_4 : az_cd 2 4 = some (6, .iadd, 1, 0, 0, 0, [], []) := rfl
theorem k2_5 : az_cd 2 5 = some (7, .bipush 101, 2, 0, 0, 101, [], []) := rfl
theorem k2_6 : az_cd 2 6 = some (9, .irem, 1, 0, 0, 0, [], []) := rfl
theorem k2_7 : az_cd 2 7 = some (10, .ireturn, 1, 0, 0, 0, [], []) := rfl
theorem k3_0 : az_cd 3 0 = some (0, .iload_n 1, 1, 0, 0, 0, [], []) := rfl
theorem k3_1 : az_cd 3 1 = some (1, .invokestatic 29, 3, 122, 1, 1, [], [428, 429, 42, 430]) := rfl
theorem k3_2 : az_cd 3 2 = some (4, .ifCond .ne 4, 3, 4, 0, 0, [], []) := rfl
theorem k3_3 : az_cd 3 3 = some (7, .return_, 1, 0, 0, 0, [], []) := rfl
theorem k3_4 : az_cd 3 4 = some (8, .iload_n 2, 1, 0, 0, 0, [], []) := rfl
theorem k3_5 : az_cd 3 5 = some (9, .invokestatic 21, 3, 2, 1, 0, [], [75, 76, 44, 77]) := rfl
theorem k3_6 : az_cd 3 6 = some (12, .istore 4, 2, 0, 0, 0, [], []) := rfl
theorem k3_7 : az_cd 3 7 = some (14, .aload_n 0, 1, 0, 0, 0, [], []) := rfl
theorem k3_8 : az_cd 3 8 = some (15, .getfield 9, 3, 0, 0, 0, [], [81]) := rfl
theorem k3_9 : az_cd 3 9 = some (18, .iload_n 1, 1, 0, 0, 0, [], []) := rfl
theorem k3_10 : az_cd 3 10 = some (19, .iload_n 2, 1, 0, 0, 0, [], []) := rfl
theorem k3_11 : az_cd 3 11 = some (20, .iastore, 1, 0, 0, 0, [], []) := rfl
theorem k3_12 : az_cd 3 12 = some (21, .aload_n 0, 1, 0, 0, 0, [], []) := rfl
theorem k3_13 : az_cd 3 13 = some (22, .getfield 15, 3, 0, 1, 0, [], [82]) := rfl
theorem k3_14 : az_cd 3 14 = some (25, .iload_n 1, 1, 0, 0, 0, [], []) := rfl
theorem k3_15 : az_cd 3 15 = some (26, .iload_n 3, 1, 0, 0, 0, [], []) := rfl
theorem k3_16 : az_cd 3 16 = some (27, .ifCond .eq 13, 3, 23, 0, 0, [], []) := rfl
theorem k3_17 : az_cd 3 17 = some (30, .iload 4, 2, 0, 0, 0, [], []) := rfl
theorem k3_18 : az_cd 3 18 = some (32, .iconst 1, 1, 0, 0, 1, [], []) := rfl
theorem k3_19 : az_cd 3 19 = some (33, .iadd, 1, 0, 0, 0, [], []) := rfl
theorem k3_20 : az_cd 3 20 = some (34, .bipush 101, 2, 0, 0, 101, [], []) := rfl
theorem k3_21 : az_cd 3 21 = some (36, .irem, 1, 0, 0, 0, [], []) := rfl
theorem k3_22 : az_cd 3 22 = some (37, .goto 5, 3, 24, 0, 0, [], []) := rfl
theorem k3_23 : az_cd 3 23 = some (40, .iload 4, 2, 0, 0, 0, [], []) := rfl
theorem k3_24 : az_cd 3 24 = some (42, .iastore, 1, 0, 0, 0, [], []) := rfl
theorem k3_25 : az_cd 3 25 = some (43, .aload_n 0, 1, 0, 0, 0, [], []) := rfl
theorem k3_26 : az_cd 3 26 = some (44, .getfield 18, 3, 0, 2, 0, [], [83]) := rfl
theorem k3_27 : az_cd 3 27 = some (47, .iload_n 1, 1, 0, 0, 0, [], []) := rfl
theorem k3_28 : az_cd 3 28 = some (48, .dup2, 1, 0, 0, 0, [], []) := rfl
theorem k3_29 : az_cd 3 29 = some (49, .iaload, 1, 0, 0, 0, [], []) := rfl
theorem k3_30 : az_cd 3 30 = some (50, .iconst 1, 1, 0, 0, 1, [], []) := rfl
theorem k3_31 : az_cd 3 31 = some (51, .iadd, 1, 0, 0, 0, [], []) := rfl
theorem k3_32 : az_cd 3 32 = some (52, .iastore, 1, 0, 0, 0, [], []) := rfl
theorem k3_33 : az_cd 3 33 = some (53, .return_, 1, 0, 0, 0, [], []) := rfl
theorem k4_0 : az_cd 4 0 = some (0, .iload_n 1, 1, 0, 0, 0, [], []) := rfl
theorem k4_1 : az_cd 4 1 = some (1, .invokestatic 29, 3, 122, 1, 1, [], [428, 429, 42, 430]) := rfl
theorem k4_2 : az_cd 4 2 = some (4, .ifCond .eq 12, 3, 8, 0, 0, [], []) := rfl
theorem k4_3 : az_cd 4 3 = some (7, .aload_n 0, 1, 0, 0, 0, [], []) := rfl
theorem k4_4 : az_cd 4 4 = some (8, .getfield 9, 3, 0, 0, 0, [], [81]) := rfl
theorem k4_5 : az_cd 4 5 = some (11, .iload_n 1, 1, 0, 0, 0, [], []) := rfl
theorem k4_6 : az_cd 4 6 = some (12, .iaload, 1, 0, 0, 0, [], []) := rfl
theorem k4_7 : az_cd 4 7 = some (13, .goto 5, 3, 9, 0, 0, [], []) := rfl
theorem k4_8 : az_cd 4 8 = some (16, .bipush (-5), 2, 0, 0, (-5), [], []) := rfl
theorem k4_9 : az_cd 4 9 = some (18, .ireturn, 1, 0, 0, 0, [], []) := rfl
theorem k5_0 : az_cd 5 0 = some (0, .iload_n 1, 1, 0, 0, 0, [], []) := rfl
theorem k5_1 : az_cd 5 1 = some (1, .invokestatic 29, 3, 122, 1, 1, [], [428, 429, 42, 430]) := rfl
theorem k5_2 : az_cd 5 2 = some (4, .ifCond .eq 12, 3, 8, 0, 0, [], []) := rfl
theorem k5_3 : az_cd 5 3 = some (7, .aload_n 0, 1, 0, 0, 0, [], []) := rfl
theorem k5_4 : az_cd 5 4 = some (8, .getfield 15, 3, 0, 1, 0, [], [82]) := rfl
theorem k5_5 : az_cd 5 5 = some (11, .iload_n 1, 1, 0, 0, 0, [], []) := rfl
theorem k5_6 : az_cd 5 6 = some (12, .iaload, 1, 0, 0, 0, [], []) := rfl
theorem k5_7 : az_cd 5 7 = some (13, .goto 5, 3, 9, 0, 0, [], []) := rfl
theorem k5_8 : az_cd 5 8 = some (16, .bipush (-5), 2, 0, 0, (-5), [], []) := rfl
theorem k5_9 : az_cd 5 9 = some (18, .ireturn, 1, 0, 0, 0, [], []) := rfl
theorem k6_0 : az_cd 6 0 = some (0, .iload_n 1, 1, 0, 0, 0, [], []) := rfl
theorem k6_1 : az_cd 6 1 = some (1, .invokestatic 29, 3, 122, 1, 1, [], [428, 429, 42, 430]) := rfl
theorem k6_2 : az_cd 6 2 = some (4, .ifCond .eq 12, 3, 8, 0, 0, [], []) := rfl
theorem k6_3 : az_cd 6 3 = some (7, .aload_n 0, 1, 0, 0, 0, [], []) := rfl
theorem k6_4 : az_cd 6 4 = some (8, .getfield 18, 3, 0, 2, 0, [], [83]) := rfl
theorem k6_5 : az_cd 6 5 = some (11, .iload_n 1, 1, 0, 0, 0, [], []) := rfl
theorem k6_6 : az_cd 6 6 = some (12, .iaload, 1, 0, 0, 0, [], []) := rfl
theorem k6_7 : az_cd 6 7 = some (13, .goto 4, 3, 9, 0, 0, [], []) := rfl
theorem k6_8 : az_cd 6 8 = some (16, .iconst 0, 1, 0, 0, 0, [], []) := rfl
theorem k6_9 : az_cd 6 9 = some (17, .ireturn, 1, 0, 0, 0, [], []) := rfl
theorem k7_0 : az_cd 7 0 = some (0, .iload_n 1, 1, 0, 0, 0, [], []) := rfl
theorem k7_1 : az_cd 7 1 = some (1, .invokestatic 29, 3, 122, 1, 1, [], [428, 429, 42, 430]) := rfl
theorem k7_2 : az_cd 7 2 = some (4, .ifCond .eq 25, 3, 15, 0, 0, [], []) := rfl
theorem k7_3 : az_cd 7 3 = some (7, .aload_n 0, 1, 0, 0, 0, [], []) := rfl
theorem k7_4 : az_cd 7 4 = some (8, .getfield 15, 3, 0, 1, 0, [], [82]) := rfl
theorem k7_5 : az_cd 7 5 = some (11, .iload_n 1, 1, 0, 0, 0, [], []) := rfl
theorem k7_6 : az_cd 7 6 = some (12, .iaload, 1, 0, 0, 0, [], []) := rfl
theorem k7_7 : az_cd 7 7 = some (13, .aload_n 0, 1, 0, 0, 0, [], []) := rfl
theorem k7_8 : az_cd 7 8 = some (14, .getfield 9, 3, 0, 0, 0, [], [81]) := rfl
theorem k7_9 : az_cd 7 9 = some (17, .iload_n 1, 1, 0, 0, 0, [], []) := rfl
theorem k7_10 : az_cd 7 10 = some (18, .iaload, 1, 0, 0, 0, [], []) := rfl
theorem k7_11 : az_cd 7 11 = some (19, .invokestatic 21, 3, 2, 1, 0, [], [75, 76, 44, 77]) := rfl
theorem k7_12 : az_cd 7 12 = some (22, .if_icmp .eq 7, 3, 15, 0, 0, [], []) := rfl
theorem k7_13 : az_cd 7 13 = some (25, .iconst 1, 1, 0, 0, 1, [], []) := rfl
theorem k7_14 : az_cd 7 14 = some (26, .goto 4, 3, 16, 0, 0, [], []) := rfl
theorem k7_15 : az_cd 7 15 = some (29, .iconst 0, 1, 0, 0, 0, [], []) := rfl
theorem k7_16 : az_cd 7 16 = some (30, .ireturn, 1, 0, 0, 0, [], []) := rfl
theorem k8_0 : az_cd 8 0 = some (0, .iconst 0, 1, 0, 0, 0, [], []) := rfl
theorem k8_1 : az_cd 8 1 = some (1, .istore_n 1, 1, 0, 0, 0, [], []) := rfl
theorem k8_2 : az_cd 8 2 = some (2, .iconst 0, 1, 0, 0, 0, [], []) := rfl
theorem k8_3 : az_cd 8 3 = some (3, .istore_n 2, 1, 0, 0, 0, [], []) := rfl
theorem k8_4 : az_cd 8 4 = some (4, .iload_n 2, 1, 0, 0, 0, [], []) := rfl
theorem k8_5 : az_cd 8 5 = some (5, .bipush 24, 2, 0, 0, 24, [], []) := rfl
theorem k8_6 : az_cd 8 6 = some (7, .if_icmp .ge 20, 3, 14, 0, 0, [], []) := rfl
theorem k8_7 : az_cd 8 7 = some (10, .aload_n 0, 1, 0, 0, 0, [], []) := rfl
theorem k8_8 : az_cd 8 8 = some (11, .iload_n 2, 1, 0, 0, 0, [], []) := rfl
theorem k8_9 : az_cd 8 9 = some (12, .invokevirtual 33, 3, 7, 1, 0, [], [731, 639, 44, 641, 640]) := rfl
theorem k8_10 : az_cd 8 10 = some (15, .ifCond .eq 6, 3, 12, 0, 0, [], []) := rfl
theorem k8_11 : az_cd 8 11 = some (18, .iinc 1 1, 3, 0, 0, 1, [], []) := rfl
theorem k8_12 : az_cd 8 12 = some (21, .iinc 2 1, 3, 0, 0, 1, [], []) := rfl
theorem k8_13 : az_cd 8 13 = some (24, .goto (-20), 3, 4, 0, 0, [], []) := rfl
theorem k8_14 : az_cd 8 14 = some (27, .iload_n 1, 1, 0, 0, 0, [], []) := rfl
theorem k8_15 : az_cd 8 15 = some (28, .ireturn, 1, 0, 0, 0, [], []) := rfl
theorem k9_0 : az_cd 9 0 = some (0, .iconst 0, 1, 0, 0, 0, [], []) := rfl
theorem k9_1 : az_cd 9 1 = some (1, .istore_n 1, 1, 0, 0, 0, [], []) := rfl
theorem k9_2 : az_cd 9 2 = some (2, .iconst 0, 1, 0, 0, 0, [], []) := rfl
theorem k9_3 : az_cd 9 3 = some (3, .istore_n 2, 1, 0, 0, 0, [], []) := rfl
theorem k9_4 : az_cd 9 4 = some (4, .iload_n 2, 1, 0, 0, 0, [], []) := rfl
theorem k9_5 : az_cd 9 5 = some (5, .bipush 24, 2, 0, 0, 24, [], []) := rfl
theorem k9_6 : az_cd 9 6 = some (7, .if_icmp .ge 30, 3, 22, 0, 0, [], []) := rfl
theorem k9_7 : az_cd 9 7 = some (10, .aload_n 0, 1, 0, 0, 0, [], []) := rfl
theorem k9_8 : az_cd 9 8 = some (11, .getfield 18, 3, 0, 2, 0, [], [83]) := rfl
theorem k9_9 : az_cd 9 9 = some (14, .iload_n 2, 1, 0, 0, 0, [], []) := rfl
theorem k9_10 : az_cd 9 10 = some (15, .iaload, 1, 0, 0, 0, [], []) := rfl
theorem k9_11 : az_cd 9 11 = some (16, .iload_n 1, 1, 0, 0, 0, [], []) := rfl
theorem k9_12 : az_cd 9 12 = some (17, .if_icmp .le 12, 3, 18, 0, 0, [], []) := rfl
theorem k9_13 : az_cd 9 13 = some (20, .aload_n 0, 1, 0, 0, 0, [], []) := rfl
theorem k9_14 : az_cd 9 14 = some (21, .getfield 18, 3, 0, 2, 0, [], [83]) := rfl
theorem k9_15 : az_cd 9 15 = some (24, .iload_n 2, 1, 0, 0, 0, [], []) := rfl
theorem k9_16 : az_cd 9 16 = some (25, .iaload, 1, 0, 0, 0, [], []) := rfl
theorem k9_17 : az_cd 9 17 = some (26, .goto 4, 3, 19, 0, 0, [], []) := rfl
theorem k9_18 : az_cd 9 18 = some (29, .iload_n 1, 1, 0, 0, 0, [], []) := rfl
theorem k9_19 : az_cd 9 19 = some (30, .istore_n 1, 1, 0, 0, 0, [], []) := rfl
theorem k9_20 : az_cd 9 20 = some (31, .iinc 2 1, 3, 0, 0, 1, [], []) := rfl
theorem k9_21 : az_cd 9 21 = some (34, .goto (-30), 3, 4, 0, 0, [], []) := rfl
theorem k9_22 : az_cd 9 22 = some (37, .iload_n 1, 1, 0, 0, 0, [], []) := rfl
theorem k9_23 : az_cd 9 23 = some (38, .ireturn, 1, 0, 0, 0, [], []) := rfl
theorem k10_0 : az_cd 10 0 = some (0, .iconst 0, 1, 0, 0, 0, [], []) := rfl
theorem k10_1 : az_cd 10 1 = some (1, .istore_n 1, 1, 0, 0, 0, [], []) := rfl
theorem k10_2 : az_cd 10 2 = some (2, .iconst 0, 1, 0, 0, 0, [], []) := rfl
theorem k10_3 : az_cd 10 3 = some (3, .istore_n 2, 1, 0, 0, 0, [], []) := rfl
theorem k10_4 : az_cd 10 4 = some (4, .iload_n 2, 1, 0, 0, 0, [], []) := rfl
theorem k10_5 : az_cd 10 5 = some (5, .bipush 24, 2, 0, 0, 24, [], []) := rfl
theorem k10_6 : az_cd 10 6 = some (7, .if_icmp .ge 18, 3, 16, 0, 0, [], []) := rfl
theorem k10_7 : az_cd 10 7 = some (10, .iload_n 1, 1, 0, 0, 0, [], []) := rfl
theorem k10_8 : az_cd 10 8 = some (11, .aload_n 0, 1, 0, 0, 0, [], []) := rfl
theorem k10_9 : az_cd 10 9 = some (12, .getfield 18, 3, 0, 2, 0, [], [83]) := rfl
theorem k10_10 : az_cd 10 10 = some (15, .iload_n 2, 1, 0, 0, 0, [], []) := rfl
theorem k10_11 : az_cd 10 11 = some (16, .iaload, 1, 0, 0, 0, [], []) := rfl
theorem k10_12 : az_cd 10 12 = some (17, .iadd, 1, 0, 0, 0, [], []) := rfl
theorem k10_13 : az_cd 10 13 = some (18, .istore_n 1, 1, 0, 0, 0, [], []) := rfl
theorem k10_14 : az_cd 10 14 = some (19, .iinc 2 1, 3, 0, 0, 1, [], []) := rfl
theorem k10_15 : az_cd 10 15 = some (22, .goto (-18), 3, 4, 0, 0, [], []) := rfl
theorem k10_16 : az_cd 10 16 = some (25, .iload_n 1, 1, 0, 0, 0, [], []) := rfl
theorem k10_17 : az_cd 10 17 = some (26, .ireturn, 1, 0, 0, 0, [], []) := rfl
theorem k11_0 : az_cd 11 0 = some (0, .aload_n 1, 1, 0, 0, 0, [], []) := rfl
theorem k11_1 : az_cd 11 1 = some (1, .getfield 9, 3, 0, 0, 0, [], [81]) := rfl
theorem k11_2 : az_cd 11 2 = some (4, .aload_n 0, 1, 0, 0, 0, [], []) := rfl
theorem k11_3 : az_cd 11 3 = some (5, .getfield 9, 3, 0, 0, 0, [], [81]) := rfl
theorem k11_4 : az_cd 11 4 = some (8, .invokestatic 36, 3, 125, 2, 1, [], [279, 280, 42, 281]) := rfl
theorem k11_5 : az_cd 11 5 = some (11, .aload_n 1, 1, 0, 0, 0, [], []) := rfl
theorem k11_6 : az_cd 11 6 = some (12, .getfield 15, 3, 0, 1, 0, [], [82]) := rfl
theorem k11_7 : az_cd 11 7 = some (15, .aload_n 0, 1, 0, 0, 0, [], []) := rfl
theorem k11_8 : az_cd 11 8 = some (16, .getfield 15, 3, 0, 1, 0, [], [82]) := rfl
theorem k11_9 : az_cd 11 9 = some (19, .invokestatic 36, 3, 125, 2, 1, [], [279, 280, 42, 281]) := rfl
theorem k11_10 : az_cd 11 10 = some (22, .aload_n 1, 1, 0, 0, 0, [], []) := rfl
theorem k11_11 : az_cd 11 11 = some (23, .getfield 18, 3, 0, 2, 0, [], [83]) := rfl
theorem k11_12 : az_cd 11 12 = some (26, .aload_n 0, 1, 0, 0, 0, [], []) := rfl
theorem k11_13 : az_cd 11 13 = some (27, .getfield 18, 3, 0, 2, 0, [], [83]) := rfl
theorem k11_14 : az_cd 11 14 = some (30, .invokestatic 36, 3, 125, 2, 1, [], [279, 280, 42, 281]) := rfl
theorem k11_15 : az_cd 11 15 = some (33, .return_, 1, 0, 0, 0, [], []) := rfl
theorem k12_0 : az_cd 12 0 = some (0, .aload_n 0, 1, 0, 0, 0, [], []) := rfl
theorem k12_1 : az_cd 12 1 = some (1, .invokespecial 3, 3, 196, 0, 2, [], [114, 61, 62]) := rfl
theorem k12_2 : az_cd 12 2 = some (4, .aload_n 0, 1, 0, 0, 0, [], []) := rfl
theorem k12_3 : az_cd 12 3 = some (5, .bipush 8, 2, 0, 0, 8, [], []) := rfl
theorem k12_4 : az_cd 12 4 = some (7, .newarray .int, 2, 0, 0, 0, [], [91]) := rfl
theorem k12_5 : az_cd 12 5 = some (9, .putfield 9, 3, 1, 0, 0, [], [116]) := rfl
theorem k12_6 : az_cd 12 6 = some (12, .aload_n 0, 1, 0, 0, 0, [], []) := rfl
theorem k12_7 : az_cd 12 7 = some (13, .getfield 9, 3, 1, 0, 0, [], [116]) := rfl
theorem k12_8 : az_cd 12 8 = some (16, .iconst (-1), 1, 0, 0, (-1), [], []) := rfl
theorem k12_9 : az_cd 12 9 = some (17, .invokestatic 15, 3, 124, 2, 1, [], [115, 79, 42, 80]) := rfl
theorem k12_10 : az_cd 12 10 = some (20, .return_, 1, 0, 0, 0, [], []) := rfl
theorem k13_0 : az_cd 13 0 = some (0, .iload_n 1, 1, 0, 0, 0, [], []) := rfl
theorem k13_1 : az_cd 13 1 = some (1, .invokestatic 19, 3, 121, 1, 1, [], [263, 249, 42, 250]) := rfl
theorem k13_2 : az_cd 13 2 = some (4, .ifCond .eq 12, 3, 8, 0, 0, [], []) := rfl
theorem k13_3 : az_cd 13 3 = some (7, .aload_n 0, 1, 0, 0, 0, [], []) := rfl
theorem k13_4 : az_cd 13 4 = some (8, .getfield 9, 3, 1, 0, 0, [], [116]) := rfl
theorem k13_5 : az_cd 13 5 = some (11, .iload_n 1, 1, 0, 0, 0, [], []) := rfl
theorem k13_6 : az_cd 13 6 = some (12, .iaload, 1, 0, 0, 0, [], []) := rfl
theorem k13_7 : az_cd 13 7 = some (13, .goto 4, 3, 9, 0, 0, [], []) := rfl
theorem k13_8 : az_cd 13 8 = some (16, .iconst (-1), 1, 0, 0, (-1), [], []) := rfl
theorem k13_9 : az_cd 13 9 = some (17, .ireturn, 1, 0, 0, 0, [], []) := rfl
theorem k14_0 : az_cd 14 0 = some (0, .aload_n 0, 1, 0, 0, 0, [], []) := rfl
theorem k14_1 : az_cd 14 1 = some (1, .iload_n 1, 1, 0, 0, 0, [], []) := rfl
theorem k14_2 : az_cd 14 2 = some (2, .invokevirtual 23, 3, 13, 1, 0, [], [473, 260, 46, 262, 261]) := rfl
theorem k14_3 : az_cd 14 3 = some (5, .iconst (-1), 1, 0, 0, (-1), [], []) := rfl
theorem k14_4 : az_cd 14 4 = some (6, .if_icmp .eq 7, 3, 7, 0, 0, [], []) := rfl
theorem k14_5 : az_cd 14 5 = some (9, .iconst 1, 1, 0, 0, 1, [], []) := rfl
theorem k14_6 : az_cd 14 6 = some (10, .goto 4, 3, 8, 0, 0, [], []) := rfl
theorem k14_7 : az_cd 14 7 = some (13, .iconst 0, 1, 0, 0, 0, [], []) := rfl
theorem k14_8 : az_cd 14 8 = some (14, .ireturn, 1, 0, 0, 0, [], []) := rfl
theorem k15_0 : az_cd 15 0 = some (0, .iload_n 1, 1, 0, 0, 0, [], []) := rfl
theorem k15_1 : az_cd 15 1 = some (1, .invokestatic 19, 3, 121, 1, 1, [], [263, 249, 42, 250]) := rfl
theorem k15_2 : az_cd 15 2 = some (4, .ifCond .eq 10, 3, 8, 0, 0, [], []) := rfl
theorem k15_3 : az_cd 15 3 = some (7, .aload_n 0, 1, 0, 0, 0, [], []) := rfl
theorem k15_4 : az_cd 15 4 = some (8, .getfield 9, 3, 1, 0, 0, [], [116]) := rfl
theorem k15_5 : az_cd 15 5 = some (11, .iload_n 1, 1, 0, 0, 0, [], []) := rfl
theorem k15_6 : az_cd 15 6 = some (12, .iload_n 2, 1, 0, 0, 0, [], []) := rfl
theorem k15_7 : az_cd 15 7 = some (13, .iastore, 1, 0, 0, 0, [], []) := rfl
theorem k15_8 : az_cd 15 8 = some (14, .return_, 1, 0, 0, 0, [], []) := rfl
theorem k16_0 : az_cd 16 0 = some (0, .aload_n 0, 1, 0, 0, 0, [], []) := rfl
theorem k16_1 : az_cd 16 1 = some (1, .getfield 9, 3, 1, 0, 0, [], [116]) := rfl
theorem k16_2 : az_cd 16 2 = some (4, .iconst (-1), 1, 0, 0, (-1), [], []) := rfl
theorem k16_3 : az_cd 16 3 = some (5, .invokestatic 15, 3, 124, 2, 1, [], [115, 79, 42, 80]) := rfl
theorem k16_4 : az_cd 16 4 = some (8, .return_, 1, 0, 0, 0, [], []) := rfl
theorem k17_0 : az_cd 17 0 = some (0, .iconst 0, 1, 0, 0, 0, [], []) := rfl
theorem k17_1 : az_cd 17 1 = some (1, .istore_n 1, 1, 0, 0, 0, [], []) := rfl
theorem k17_2 : az_cd 17 2 = some (2, .iconst 0, 1, 0, 0, 0, [], []) := rfl
theorem k17_3 : az_cd 17 3 = some (3, .istore_n 2, 1, 0, 0, 0, [], []) := rfl
theorem k17_4 : az_cd 17 4 = some (4, .iload_n 2, 1, 0, 0, 0, [], []) := rfl
theorem k17_5 : az_cd 17 5 = some (5, .bipush 8, 2, 0, 0, 8, [], []) := rfl
theorem k17_6 : az_cd 17 6 = some (7, .if_icmp .ge 22, 3, 16, 0, 0, [], []) := rfl
theorem k17_7 : az_cd 17 7 = some (10, .aload_n 0, 1, 0, 0, 0, [], []) := rfl
theorem k17_8 : az_cd 17 8 = some (11, .getfield 9, 3, 1, 0, 0, [], [116]) := rfl
theorem k17_9 : az_cd 17 9 = some (14, .iload_n 2, 1, 0, 0, 0, [], []) := rfl
theorem k17_10 : az_cd 17 10 = some (15, .iaload, 1, 0, 0, 0, [], []) := rfl
theorem k17_11 : az_cd 17 11 = some (16, .iconst (-1), 1, 0, 0, (-1), [], []) := rfl
theorem k17_12 : az_cd 17 12 = some (17, .if_icmp .eq 6, 3, 14, 0, 0, [], []) := rfl
theorem k17_13 : az_cd 17 13 = some (20, .iinc 1 1, 3, 0, 0, 1, [], []) := rfl
theorem k17_14 : az_cd 17 14 = some (23, .iinc 2 1, 3, 0, 0, 1, [], []) := rfl
theorem k17_15 : az_cd 17 15 = some (26, .goto (-22), 3, 4, 0, 0, [], []) := rfl
theorem k17_16 : az_cd 17 16 = some (29, .iload_n 1, 1, 0, 0, 0, [], []) := rfl
theorem k17_17 : az_cd 17 17 = some (30, .ireturn, 1, 0, 0, 0, [], []) := rfl
theorem k18_0 : az_cd 18 0 = some (0, .iconst 0, 1, 0, 0, 0, [], []) := rfl
theorem k18_1 : az_cd 18 1 = some (1, .istore_n 1, 1, 0, 0, 0, [], []) := rfl
theorem k18_2 : az_cd 18 2 = some (2, .iconst 0, 1, 0, 0, 0, [], []) := rfl
theorem k18_3 : az_cd 18 3 = some (3, .istore_n 2, 1, 0, 0, 0, [], []) := rfl
theorem k18_4 : az_cd 18 4 = some (4, .iload_n 2, 1, 0, 0, 0, [], []) := rfl
theorem k18_5 : az_cd 18 5 = some (5, .bipush 8, 2, 0, 0, 8, [], []) := rfl
theorem k18_6 : az_cd 18 6 = some (7, .if_icmp .ge 21, 3, 15, 0, 0, [], []) := rfl
theorem k18_7 : az_cd 18 7 = some (10, .aload_n 0, 1, 0, 0, 0, [], []) := rfl
theorem k18_8 : az_cd 18 8 = some (11, .getfield 9, 3, 1, 0, 0, [], [116]) := rfl
theorem k18_9 : az_cd 18 9 = some (14, .iload_n 2, 1, 0, 0, 0, [], []) := rfl
theorem k18_10 : az_cd 18 10 = some (15, .iaload, 1, 0, 0, 0, [], []) := rfl
theorem k18_11 : az_cd 18 11 = some (16, .ifCond .lt 6, 3, 13, 0, 0, [], []) := rfl
theorem k18_12 : az_cd 18 12 = some (19, .iinc 1 1, 3, 0, 0, 1, [], []) := rfl
theorem k18_13 : az_cd 18 13 = some (22, .iinc 2 1, 3, 0, 0, 1, [], []) := rfl
theorem k18_14 : az_cd 18 14 = some (25, .goto (-21), 3, 4, 0, 0, [], []) := rfl
theorem k18_15 : az_cd 18 15 = some (28, .iload_n 1, 1, 0, 0, 0, [], []) := rfl
theorem k18_16 : az_cd 18 16 = some (29, .ireturn, 1, 0, 0, 0, [], []) := rfl
theorem k19_0 : az_cd 19 0 = some (0, .iconst 0, 1, 0, 0, 0, [], []) := rfl
theorem k19_1 : az_cd 19 1 = some (1, .istore_n 2, 1, 0, 0, 0, [], []) := rfl
theorem k19_2 : az_cd 19 2 = some (2, .iconst 0, 1, 0, 0, 0, [], []) := rfl
theorem k19_3 : az_cd 19 3 = some (3, .istore_n 3, 1, 0, 0, 0, [], []) := rfl
theorem k19_4 : az_cd 19 4 = some (4, .iload_n 3, 1, 0, 0, 0, [], []) := rfl
theorem k19_5 : az_cd 19 5 = some (5, .bipush 8, 2, 0, 0, 8, [], []) := rfl
theorem k19_6 : az_cd 19 6 = some (7, .if_icmp .ge 28, 3, 20, 0, 0, [], []) := rfl
theorem k19_7 : az_cd 19 7 = some (10, .aload_n 0, 1, 0, 0, 0, [], []) := rfl
theorem k19_8 : az_cd 19 8 = some (11, .getfield 9, 3, 1, 0, 0, [], [116]) := rfl
theorem k19_9 : az_cd 19 9 = some (14, .iload_n 3, 1, 0, 0, 0, [], []) := rfl
theorem k19_10 : az_cd 19 10 = some (15, .iaload, 1, 0, 0, 0, [], []) := rfl
theorem k19_11 : az_cd 19 11 = some (16, .ifCond .lt 13, 3, 18, 0, 0, [], []) := rfl
theorem k19_12 : az_cd 19 12 = some (19, .iload_n 2, 1, 0, 0, 0, [], []) := rfl
theorem k19_13 : az_cd 19 13 = some (20, .iload_n 1, 1, 0, 0, 0, [], []) := rfl
theorem k19_14 : az_cd 19 14 = some (21, .if_icmp .ne 5, 3, 17, 0, 0, [], []) := rfl
theorem k19_15 : az_cd 19 15 = some (24, .iload_n 3, 1, 0, 0, 0, [], []) := rfl
theorem k19_16 : az_cd 19 16 = some (25, .ireturn, 1, 0, 0, 0, [], []) := rfl
theorem k19_17 : az_cd 19 17 = some (26, .iinc 2 1, 3, 0, 0, 1, [], []) := rfl
theorem k19_18 : az_cd 19 18 = some (29, .iinc 3 1, 3, 0, 0, 1, [], []) := rfl
theorem k19_19 : az_cd 19 19 = some (32, .goto (-28), 3, 4, 0, 0, [], []) := rfl
theorem k19_20 : az_cd 19 20 = some (35, .bipush (-5), 2, 0, 0, (-5), [], []) := rfl
theorem k19_21 : az_cd 19 21 = some (37, .ireturn, 1, 0, 0, 0, [], []) := rfl
theorem k20_0 : az_cd 20 0 = some (0, .aload_n 1, 1, 0, 0, 0, [], []) := rfl
theorem k20_1 : az_cd 20 1 = some (1, .getfield 9, 3, 1, 0, 0, [], [116]) := rfl
theorem k20_2 : az_cd 20 2 = some (4, .aload_n 0, 1, 0, 0, 0, [], []) := rfl
theorem k20_3 : az_cd 20 3 = some (5, .getfield 9, 3, 1, 0, 0, [], [116]) := rfl
theorem k20_4 : az_cd 20 4 = some (8, .invokestatic 27, 3, 125, 2, 1, [], [291, 280, 42, 281]) := rfl
theorem k20_5 : az_cd 20 5 = some (11, .return_, 1, 0, 0, 0, [], []) := rfl
theorem k21_0 : az_cd 21 0 = some (0, .aload_n 0, 1, 0, 0, 0, [], []) := rfl
theorem k21_1 : az_cd 21 1 = some (1, .invokespecial 3, 3, 196, 0, 2, [], [97, 61, 62]) := rfl
theorem k21_2 : az_cd 21 2 = some (4, .aload_n 0, 1, 0, 0, 0, [], []) := rfl
theorem k21_3 : az_cd 21 3 = some (5, .bipush 8, 2, 0, 0, 8, [], []) := rfl
theorem k21_4 : az_cd 21 4 = some (7, .newarray .int, 2, 0, 0, 0, [], [91]) := rfl
theorem k21_5 : az_cd 21 5 = some (9, .putfield 9, 3, 2, 2, 0, [], [101]) := rfl
theorem k21_6 : az_cd 21 6 = some (12, .aload_n 0, 1, 0, 0, 0, [], []) := rfl
theorem k21_7 : az_cd 21 7 = some (13, .iload_n 1, 1, 0, 0, 0, [], []) := rfl
theorem k21_8 : az_cd 21 8 = some (14, .putfield 15, 3, 2, 0, 0, [], [99]) := rfl
theorem k21_9 : az_cd 21 9 = some (17, .aload_n 0, 1, 0, 0, 0, [], []) := rfl
theorem k21_10 : az_cd 21 10 = some (18, .iconst 0, 1, 0, 0, 0, [], []) := rfl
theorem k21_11 : az_cd 21 11 = some (19, .putfield 19, 3, 2, 1, 0, [], [100]) := rfl
theorem k21_12 : az_cd 21 12 = some (22, .aload_n 0, 1, 0, 0, 0, [], []) := rfl
theorem k21_13 : az_cd 21 13 = some (23, .getfield 9, 3, 2, 2, 0, [], [101]) := rfl
theorem k21_14 : az_cd 21 14 = some (26, .bipush (-5), 2, 0, 0, (-5), [], []) := rfl
theorem k21_15 : az_cd 21 15 = some (28, .invokestatic 23, 3, 124, 2, 1, [], [98, 79, 42, 80]) := rfl
theorem k21_16 : az_cd 21 16 = some (31, .return_, 1, 0, 0, 0, [], []) := rfl
theorem k22_0 : az_cd 22 0 = some (0, .aload_n 0, 1, 0, 0, 0, [], []) := rfl
theorem k22_1 : az_cd 22 1 = some (1, .getfield 15, 3, 2, 0, 0, [], [99]) := rfl
theorem k22_2 : az_cd 22 2 = some (4, .ireturn, 1, 0, 0, 0, [], []) := rfl
theorem k23_0 : az_cd 23 0 = some (0, .aload_n 0, 1, 0, 0, 0, [], []) := rfl
theorem k23_1 : az_cd 23 1 = some (1, .getfield 19, 3, 2, 1, 0, [], [100]) := rfl
theorem k23_2 : az_cd 23 2 = some (4, .ireturn, 1, 0, 0, 0, [], []) := rfl
theorem k24_0 : az_cd 24 0 = some (0, .aload_n 0, 1, 0, 0, 0, [], []) := rfl
theorem k24_1 : az_cd 24 1 = some (1, .iload_n 1, 1, 0, 0, 0, [], []) := rfl
theorem k24_2 : az_cd 24 2 = some (2, .putfield 15, 3, 2, 0, 0, [], [99]) := rfl
theorem k24_3 : az_cd 24 3 = some (5, .aload_n 0, 1, 0, 0, 0, [], []) := rfl
theorem k24_4 : az_cd 24 4 = some (6, .iload_n 2, 1, 0, 0, 0, [], []) := rfl
theorem k24_5 : az_cd 24 5 = some (7, .putfield 19, 3, 2, 1, 0, [], [100]) := rfl
theorem k24_6 : az_cd 24 6 = some (10, .return_, 1, 0, 0, 0, [], []) := rfl
theorem k25_0 : az_cd 25 0 = some (0, .iload_n 1, 1, 0, 0, 0, [], []) := rfl
theorem k25_1 : az_cd 25 1 = some (1, .invokestatic 27, 3, 121, 1, 1, [], [482, 249, 42, 250]) := rfl
theorem k25_2 : az_cd 25 2 = some (4, .ifCond .eq 12, 3, 8, 0, 0, [], []) := rfl
theorem k25_3 : az_cd 25 3 = some (7, .aload_n 0, 1, 0, 0, 0, [], []) := rfl
theorem k25_4 : az_cd 25 4 = some (8, .getfield 9, 3, 2, 2, 0, [], [101]) := rfl
theorem k25_5 : az_cd 25 5 = some (11, .iload_n 1, 1, 0, 0, 0, [], []) := rfl
theorem k25_6 : az_cd 25 6 = some (12, .iaload, 1, 0, 0, 0, [], []) := rfl
theorem k25_7 : az_cd 25 7 = some (13, .goto 5, 3, 9, 0, 0, [], []) := rfl
theorem k25_8 : az_cd 25 8 = some (16, .bipush (-5), 2, 0, 0, (-5), [], []) := rfl
theorem k25_9 : az_cd 25 9 = some (18, .ireturn, 1, 0, 0, 0, [], []) := rfl
theorem k26_0 : az_cd 26 0 = some (0, .iload_n 1, 1, 0, 0, 0, [], []) := rfl
theorem k26_1 : az_cd 26 1 = some (1, .invokestatic 27, 3, 121, 1, 1, [], [482, 249, 42, 250]) := rfl
theorem k26_2 : az_cd 26 2 = some (4, .ifCond .eq 10, 3, 8, 0, 0, [], []) := rfl
theorem k26_3 : az_cd 26 3 = some (7, .aload_n 0, 1, 0, 0, 0, [], []) := rfl
theorem k26_4 : az_cd 26 4 = some (8, .getfield 9, 3, 2, 2, 0, [], [101]) := rfl
theorem k26_5 : az_cd 26 5 = some (11, .iload_n 1, 1, 0, 0, 0, [], []) := rfl
theorem k26_6 : az_cd 26 6 = some (12, .iload_n 2, 1, 0, 0, 0, [], []) := rfl
theorem k26_7 : az_cd 26 7 = some (13, .iastore, 1, 0, 0, 0, [], []) := rfl
theorem k26_8 : az_cd 26 8 = some (14, .return_, 1, 0, 0, 0, [], []) := rfl
theorem k27_0 : az_cd 27 0 = some (0, .iconst 0, 1, 0, 0, 0, [], []) := rfl
theorem k27_1 : az_cd 27 1 = some (1, .istore_n 2, 1, 0, 0, 0, [], []) := rfl
theorem k27_2 : az_cd 27 2 = some (2, .iload_n 2, 1, 0, 0, 0, [], []) := rfl
theorem k27_3 : az_cd 27 3 = some (3, .bipush 8, 2, 0, 0, 8, [], []) := rfl
theorem k27_4 : az_cd 27 4 = some (5, .if_icmp .ge 21, 3, 15, 0, 0, [], []) := rfl
theorem k27_5 : az_cd 27 5 = some (8, .aload_n 0, 1, 0, 0, 0, [], []) := rfl
theorem k27_6 : az_cd 27 6 = some (9, .getfield 9, 3, 2, 2, 0, [], [101]) := rfl
theorem k27_7 : az_cd 27 7 = some (12, .iload_n 2, 1, 0, 0, 0, [], []) := rfl
theorem k27_8 : az_cd 27 8 = some (13, .iaload, 1, 0, 0, 0, [], []) := rfl
theorem k27_9 : az_cd 27 9 = some (14, .iload_n 1, 1, 0, 0, 0, [], []) := rfl
theorem k27_10 : az_cd 27 10 = some (15, .if_icmp .ne 5, 3, 13, 0, 0, [], []) := rfl
theorem k27_11 : az_cd 27 11 = some (18, .iload_n 2, 1, 0, 0, 0, [], []) := rfl
theorem k27_12 : az_cd 27 12 = some (19, .ireturn, 1, 0, 0, 0, [], []) := rfl
theorem k27_13 : az_cd 27 13 = some (20, .iinc 2 1, 3, 0, 0, 1, [], []) := rfl
theorem k27_14 : az_cd 27 14 = some (23, .goto (-21), 3, 2, 0, 0, [], []) := rfl
theorem k27_15 : az_cd 27 15 = some (26, .bipush (-5), 2, 0, 0, (-5), [], []) := rfl
theorem k27_16 : az_cd 27 16 = some (28, .ireturn, 1, 0, 0, 0, [], []) := rfl
theorem k28_0 : az_cd 28 0 = some (0, .iconst 0, 1, 0, 0, 0, [], []) := rfl
theorem k28_1 : az_cd 28 1 = some (1, .istore_n 1, 1, 0, 0, 0, [], []) := rfl
theorem k28_2 : az_cd 28 2 = some (2, .iconst 0, 1, 0, 0, 0, [], []) := rfl
theorem k28_3 : az_cd 28 3 = some (3, .istore_n 2, 1, 0, 0, 0, [], []) := rfl
theorem k28_4 : az_cd 28 4 = some (4, .iload_n 2, 1, 0, 0, 0, [], []) := rfl
theorem k28_5 : az_cd 28 5 = some (5, .bipush 8, 2, 0, 0, 8, [], []) := rfl
theorem k28_6 : az_cd 28 6 = some (7, .if_icmp .ge 26, 3, 21, 0, 0, [], []) := rfl
theorem k28_7 : az_cd 28 7 = some (10, .aload_n 0, 1, 0, 0, 0, [], []) := rfl
theorem k28_8 : az_cd 28 8 = some (11, .getfield 9, 3, 2, 2, 0, [], [101]) := rfl
theorem k28_9 : az_cd 28 9 = some (14, .iload_n 2, 1, 0, 0, 0, [], []) := rfl
theorem k28_10 : az_cd 28 10 = some (15, .iaload, 1, 0, 0, 0, [], []) := rfl
theorem k28_11 : az_cd 28 11 = some (16, .bipush (-5), 2, 0, 0, (-5), [], []) := rfl
theorem k28_12 : az_cd 28 12 = some (18, .if_icmp .eq 9, 3, 19, 0, 0, [], []) := rfl
theorem k28_13 : az_cd 28 13 = some (21, .iload_n 1, 1, 0, 0, 0, [], []) := rfl
theorem k28_14 : az_cd 28 14 = some (22, .iconst 1, 1, 0, 0, 1, [], []) := rfl
theorem k28_15 : az_cd 28 15 = some (23, .iload_n 2, 1, 0, 0, 0, [], []) := rfl
theorem k28_16 : az_cd 28 16 = some (24, .ishl, 1, 0, 0, 0, [], []) := rfl
theorem k28_17 : az_cd 28 17 = some (25, .ior, 1, 0, 0, 0, [], []) := rfl
theorem k28_18 : az_cd 28 18 = some (26, .istore_n 1, 1, 0, 0, 0, [], []) := rfl
theorem k28_19 : az_cd 28 19 = some (27, .iinc 2 1, 3, 0, 0, 1, [], []) := rfl
theorem k28_20 : az_cd 28 20 = some (30, .goto (-26), 3, 4, 0, 0, [], []) := rfl
theorem k28_21 : az_cd 28 21 = some (33, .iload_n 1, 1, 0, 0, 0, [], []) := rfl
theorem k28_22 : az_cd 28 22 = some (34, .ireturn, 1, 0, 0, 0, [], []) := rfl
theorem k29_0 : az_cd 29 0 = some (0, .aload_n 0, 1, 0, 0, 0, [], []) := rfl
theorem k29_1 : az_cd 29 1 = some (1, .invokevirtual 31, 3, 28, 0, 0, [], [716, 664, 45, 666, 665]) := rfl
theorem k29_2 : az_cd 29 2 = some (4, .invokestatic 35, 3, 194, 1, 0, [], [717, 718, 54, 719]) := rfl
theorem k29_3 : az_cd 29 3 = some (7, .ireturn, 1, 0, 0, 0, [], []) := rfl
theorem k30_0 : az_cd 30 0 = some (0, .aload_n 0, 1, 0, 0, 0, [], []) := rfl
theorem k30_1 : az_cd 30 1 = some (1, .aload_n 1, 1, 0, 0, 0, [], []) := rfl
theorem k30_2 : az_cd 30 2 = some (2, .getfield 15, 3, 2, 0, 0, [], [99]) := rfl
theorem k30_3 : az_cd 30 3 = some (5, .putfield 15, 3, 2, 0, 0, [], [99]) := rfl
theorem k30_4 : az_cd 30 4 = some (8, .aload_n 0, 1, 0, 0, 0, [], []) := rfl
theorem k30_5 : az_cd 30 5 = some (9, .aload_n 1, 1, 0, 0, 0, [], []) := rfl
theorem k30_6 : az_cd 30 6 = some (10, .getfield 19, 3, 2, 1, 0, [], [100]) := rfl
theorem k30_7 : az_cd 30 7 = some (13, .putfield 19, 3, 2, 1, 0, [], [100]) := rfl
theorem k30_8 : az_cd 30 8 = some (16, .aload_n 1, 1, 0, 0, 0, [], []) := rfl
theorem k30_9 : az_cd 30 9 = some (17, .getfield 9, 3, 2, 2, 0, [], [101]) := rfl
theorem k30_10 : az_cd 30 10 = some (20, .aload_n 0, 1, 0, 0, 0, [], []) := rfl
theorem k30_11 : az_cd 30 11 = some (21, .getfield 9, 3, 2, 2, 0, [], [101]) := rfl
theorem k30_12 : az_cd 30 12 = some (24, .invokestatic 41, 3, 125, 2, 1, [], [286, 280, 42, 281]) := rfl
theorem k30_13 : az_cd 30 13 = some (27, .return_, 1, 0, 0, 0, [], []) := rfl
theorem k31_0 : az_cd 31 0 = some (0, .aload_n 0, 1, 0, 0, 0, [], []) := rfl
theorem k31_1 : az_cd 31 1 = some (1, .invokespecial 3, 3, 196, 0, 2, [], [191, 61, 62]) := rfl
theorem k31_2 : az_cd 31 2 = some (4, .aload_n 0, 1, 0, 0, 0, [], []) := rfl
theorem k31_3 : az_cd 31 3 = some (5, .iconst 4, 1, 0, 0, 4, [], []) := rfl
theorem k31_4 : az_cd 31 4 = some (6, .anewarray 9, 3, 6, 4, 0, [], [192, 193]) := rfl
theorem k31_5 : az_cd 31 5 = some (9, .putfield 11, 3, 3, 0, 0, [], [195]) := rfl
theorem k31_6 : az_cd 31 6 = some (12, .aload_n 0, 1, 0, 0, 0, [], []) := rfl
theorem k31_7 : az_cd 31 7 = some (13, .iconst 0, 1, 0, 0, 0, [], []) := rfl
theorem k31_8 : az_cd 31 8 = some (14, .putfield 17, 3, 3, 1, 0, [], [196]) := rfl
theorem k31_9 : az_cd 31 9 = some (17, .aload_n 0, 1, 0, 0, 0, [], []) := rfl
theorem k31_10 : az_cd 31 10 = some (18, .iconst 0, 1, 0, 0, 0, [], []) := rfl
theorem k31_11 : az_cd 31 11 = some (19, .putfield 21, 3, 3, 2, 0, [], [197]) := rfl
theorem k31_12 : az_cd 31 12 = some (22, .iconst 0, 1, 0, 0, 0, [], []) := rfl
theorem k31_13 : az_cd 31 13 = some (23, .istore_n 1, 1, 0, 0, 0, [], []) := rfl
theorem k31_14 : az_cd 31 14 = some (24, .iload_n 1, 1, 0, 0, 0, [], []) := rfl
theorem k31_15 : az_cd 31 15 = some (25, .iconst 4, 1, 0, 0, 4, [], []) := rfl
theorem k31_16 : az_cd 31 16 = some (26, .if_icmp .ge 22, 3, 26, 0, 0, [], []) := rfl
theorem k31_17 : az_cd 31 17 = some (29, .aload_n 0, 1, 0, 0, 0, [], []) := rfl
theorem k31_18 : az_cd 31 18 = some (30, .getfield 11, 3, 3, 0, 0, [], [195]) := rfl
theorem k31_19 : az_cd 31 19 = some (33, .iload_n 1, 1, 0, 0, 0, [], []) := rfl
theorem k31_20 : az_cd 31 20 = some (34, .new 9, 3, 6, 9, 0, [], [192, 64, 43]) := rfl
theorem k31_21 : az_cd 31 21 = some (37, .dup, 1, 0, 0, 0, [], []) := rfl
theorem k31_22 : az_cd 31 22 = some (38, .invokespecial 24, 3, 59, 0, 0, [], [194, 66, 43, 67]) := rfl
theorem k31_23 : az_cd 31 23 = some (41, .aastore, 1, 0, 0, 0, [], []) := rfl
theorem k31_24 : az_cd 31 24 = some (42, .iinc 1 1, 3, 0, 0, 1, [], []) := rfl
theorem k31_25 : az_cd 31 25 = some (45, .goto (-21), 3, 14, 0, 0, [], []) := rfl
theorem k31_26 : az_cd 31 26 = some (48, .return_, 1, 0, 0, 0, [], []) := rfl
theorem k32_0 : az_cd 32 0 = some (0, .aload_n 0, 1, 0, 0, 0, [], []) := rfl
theorem k32_1 : az_cd 32 1 = some (1, .getfield 21, 3, 3, 2, 0, [], [197]) := rfl
theorem k32_2 : az_cd 32 2 = some (4, .ireturn, 1, 0, 0, 0, [], []) := rfl
theorem k33_0 : az_cd 33 0 = some (0, .aload_n 0, 1, 0, 0, 0, [], []) := rfl
theorem k33_1 : az_cd 33 1 = some (1, .getfield 11, 3, 3, 0, 0, [], [195]) := rfl
theorem k33_2 : az_cd 33 2 = some (4, .aload_n 0, 1, 0, 0, 0, [], []) := rfl
theorem k33_3 : az_cd 33 3 = some (5, .getfield 17, 3, 3, 1, 0, [], [196]) := rfl
theorem k33_4 : az_cd 33 4 = some (8, .aload_n 0, 1, 0, 0, 0, [], []) := rfl
theorem k33_5 : az_cd 33 5 = some (9, .getfield 21, 3, 3, 2, 0, [], [197]) := rfl
theorem k33_6 : az_cd 33 6 = some (12, .iadd, 1, 0, 0, 0, [], []) := rfl
theorem k33_7 : az_cd 33 7 = some (13, .iconst 4, 1, 0, 0, 4, [], []) := rfl
theorem k33_8 : az_cd 33 8 = some (14, .invokestatic 25, 3, 195, 2, 0, [], [268, 269, 52, 270]) := rfl
theorem k33_9 : az_cd 33 9 = some (17, .aaload, 1, 0, 0, 0, [], []) := rfl
theorem k33_10 : az_cd 33 10 = some (18, .aload_n 1, 1, 0, 0, 0, [], []) := rfl
theorem k33_11 : az_cd 33 11 = some (19, .invokevirtual 31, 3, 82, 1, 0, [], [271, 272, 43, 274, 273]) := rfl
theorem k33_12 : az_cd 33 12 = some (22, .aload_n 0, 1, 0, 0, 0, [], []) := rfl
theorem k33_13 : az_cd 33 13 = some (23, .getfield 21, 3, 3, 2, 0, [], [197]) := rfl
theorem k33_14 : az_cd 33 14 = some (26, .iconst 4, 1, 0, 0, 4, [], []) := rfl
theorem k33_15 : az_cd 33 15 = some (27, .if_icmp .ge 16, 3, 23, 0, 0, [], []) := rfl
theorem k33_16 : az_cd 33 16 = some (30, .aload_n 0, 1, 0, 0, 0, [], []) := rfl
theorem k33_17 : az_cd 33 17 = some (31, .dup, 1, 0, 0, 0, [], []) := rfl
theorem k33_18 : az_cd 33 18 = some (32, .getfield 21, 3, 3, 2, 0, [], [197]) := rfl
theorem k33_19 : az_cd 33 19 = some (35, .iconst 1, 1, 0, 0, 1, [], []) := rfl
theorem k33_20 : az_cd 33 20 = some (36, .iadd, 1, 0, 0, 0, [], []) := rfl
theorem k33_21 : az_cd 33 21 = some (37, .putfield 21, 3, 3, 2, 0, [], [197]) := rfl
theorem k33_22 : az_cd 33 22 = some (40, .goto 17, 3, 31, 0, 0, [], []) := rfl
theorem k33_23 : az_cd 33 23 = some (43, .aload_n 0, 1, 0, 0, 0, [], []) := rfl
theorem k33_24 : az_cd 33 24 = some (44, .aload_n 0, 1, 0, 0, 0, [], []) := rfl
theorem k33_25 : az_cd 33 25 = some (45, .getfield 17, 3, 3, 1, 0, [], [196]) := rfl
theorem k33_26 : az_cd 33 26 = some (48, .iconst 1, 1, 0, 0, 1, [], []) := rfl
theorem k33_27 : az_cd 33 27 = some (49, .iadd, 1, 0, 0, 0, [], []) := rfl
theorem k33_28 : az_cd 33 28 = some (50, .iconst 4, 1, 0, 0, 4, [], []) := rfl
theorem k33_29 : az_cd 33 29 = some (51, .invokestatic 25, 3, 195, 2, 0, [], [268, 269, 52, 270]) := rfl
theorem k33_30 : az_cd 33 30 = some (54, .putfield 17, 3, 3, 1, 0, [], [196]) := rfl
theorem k33_31 : az_cd 33 31 = some (57, .return_, 1, 0, 0, 0, [], []) := rfl
theorem k34_0 : az_cd 34 0 = some (0, .aload_n 0, 1, 0, 0, 0, [], []) := rfl
theorem k34_1 : az_cd 34 1 = some (1, .getfield 21, 3, 3, 2, 0, [], [197]) := rfl
theorem k34_2 : az_cd 34 2 = some (4, .ifCond .le 35, 3, 21, 0, 0, [], []) := rfl
theorem k34_3 : az_cd 34 3 = some (7, .aload_n 0, 1, 0, 0, 0, [], []) := rfl
theorem k34_4 : az_cd 34 4 = some (8, .dup, 1, 0, 0, 0, [], []) := rfl
theorem k34_5 : az_cd 34 5 = some (9, .getfield 21, 3, 3, 2, 0, [], [197]) := rfl
theorem k34_6 : az_cd 34 6 = some (12, .iconst 1, 1, 0, 0, 1, [], []) := rfl
theorem k34_7 : az_cd 34 7 = some (13, .isub, 1, 0, 0, 0, [], []) := rfl
theorem k34_8 : az_cd 34 8 = some (14, .putfield 21, 3, 3, 2, 0, [], [197]) := rfl
theorem k34_9 : az_cd 34 9 = some (17, .aload_n 1, 1, 0, 0, 0, [], []) := rfl
theorem k34_10 : az_cd 34 10 = some (18, .aload_n 0, 1, 0, 0, 0, [], []) := rfl
theorem k34_11 : az_cd 34 11 = some (19, .getfield 11, 3, 3, 0, 0, [], [195]) := rfl
theorem k34_12 : az_cd 34 12 = some (22, .aload_n 0, 1, 0, 0, 0, [], []) := rfl
theorem k34_13 : az_cd 34 13 = some (23, .getfield 17, 3, 3, 1, 0, [], [196]) := rfl
theorem k34_14 : az_cd 34 14 = some (26, .aload_n 0, 1, 0, 0, 0, [], []) := rfl
theorem k34_15 : az_cd 34 15 = some (27, .getfield 21, 3, 3, 2, 0, [], [197]) := rfl
theorem k34_16 : az_cd 34 16 = some (30, .iadd, 1, 0, 0, 0, [], []) := rfl
theorem k34_17 : az_cd 34 17 = some (31, .iconst 4, 1, 0, 0, 4, [], []) := rfl
theorem k34_18 : az_cd 34 18 = some (32, .invokestatic 25, 3, 195, 2, 0, [], [268, 269, 52, 270]) := rfl
theorem k34_19 : az_cd 34 19 = some (35, .aaload, 1, 0, 0, 0, [], []) := rfl
theorem k34_20 : az_cd 34 20 = some (36, .invokevirtual 31, 3, 82, 1, 0, [], [271, 272, 43, 274, 273]) := rfl
theorem k34_21 : az_cd 34 21 = some (39, .return_, 1, 0, 0, 0, [], []) := rfl
theorem k35_0 : az_cd 35 0 = some (0, .aload_n 0, 1, 0, 0, 0, [], []) := rfl
theorem k35_1 : az_cd 35 1 = some (1, .invokespecial 3, 3, 196, 0, 2, [], [210, 61, 62]) := rfl
theorem k35_2 : az_cd 35 2 = some (4, .aload_n 0, 1, 0, 0, 0, [], []) := rfl
theorem k35_3 : az_cd 35 3 = some (5, .bipush 60, 2, 0, 0, 60, [], []) := rfl
theorem k35_4 : az_cd 35 4 = some (7, .newarray .char, 2, 0, 1, 0, [], [227]) := rfl
theorem k35_5 : az_cd 35 5 = some (9, .putfield 9, 3, 4, 0, 0, [], [211]) := rfl
theorem k35_6 : az_cd 35 6 = some (12, .aload_n 0, 1, 0, 0, 0, [], []) := rfl
theorem k35_7 : az_cd 35 7 = some (13, .bipush 20, 2, 0, 0, 20, [], []) := rfl
theorem k35_8 : az_cd 35 8 = some (15, .newarray .int, 2, 0, 0, 0, [], [91]) := rfl
theorem k35_9 : az_cd 35 9 = some (17, .putfield 15, 3, 4, 2, 0, [], [213]) := rfl
theorem k35_10 : az_cd 35 10 = some (20, .aload_n 0, 1, 0, 0, 0, [], []) := rfl
theorem k35_11 : az_cd 35 11 = some (21, .bipush 20, 2, 0, 0, 20, [], []) := rfl
theorem k35_12 : az_cd 35 12 = some (23, .newarray .int, 2, 0, 0, 0, [], [91]) := rfl
theorem k35_13 : az_cd 35 13 = some (25, .putfield 19, 3, 4, 3, 0, [], [214]) := rfl
theorem k35_14 : az_cd 35 14 = some (28, .aload_n 0, 1, 0, 0, 0, [], []) := rfl
theorem k35_15 : az_cd 35 15 = some (29, .iconst 0, 1, 0, 0, 0, [], []) := rfl
theorem k35_16 : az_cd 35 16 = some (30, .putfield 22, 3, 4, 1, 0, [], [212]) := rfl
theorem k35_17 : az_cd 35 17 = some (33, .aload_n 0, 1, 0, 0, 0, [], []) := rfl
theorem k35_18 : az_cd 35 18 = some (34, .iconst 0, 1, 0, 0, 0, [], []) := rfl
theorem k35_19 : az_cd 35 19 = some (35, .putfield 26, 3, 4, 4, 0, [], [215]) := rfl
theorem k35_20 : az_cd 35 20 = some (38, .return_, 1, 0, 0, 0, [], []) := rfl
theorem k36_0 : az_cd 36 0 = some (0, .aload_n 0, 1, 0, 0, 0, [], []) := rfl
theorem k36_1 : az_cd 36 1 = some (1, .getfield 22, 3, 4, 1, 0, [], [212]) := rfl
theorem k36_2 : az_cd 36 2 = some (4, .ireturn, 1, 0, 0, 0, [], []) := rfl
theorem k37_0 : az_cd 37 0 = some (0, .aload_n 0, 1, 0, 0, 0, [], []) := rfl
theorem k37_1 : az_cd 37 1 = some (1, .getfield 22, 3, 4, 1, 0, [], [212]) := rfl
theorem k37_2 : az_cd 37 2 = some (4, .bipush 60, 2, 0, 0, 60, [], []) := rfl
theorem k37_3 : az_cd 37 3 = some (6, .if_icmp .lt 7, 3, 6, 0, 0, [], []) := rfl
theorem k37_4 : az_cd 37 4 = some (9, .iconst 1, 1, 0, 0, 1, [], []) := rfl
theorem k37_5 : az_cd 37 5 = some (10, .goto 4, 3, 7, 0, 0, [], []) := rfl
theorem k37_6 : az_cd 37 6 = some (13, .iconst 0, 1, 0, 0, 0, [], []) := rfl
theorem k37_7 : az_cd 37 7 = some (14, .ireturn, 1, 0, 0, 0, [], []) := rfl
theorem k38_0 : az_cd 38 0 = some (0, .aload_n 0, 1, 0, 0, 0, [], []) := rfl
theorem k38_1 : az_cd 38 1 = some (1, .getfield 22, 3, 4, 1, 0, [], [212]) := rfl
theorem k38_2 : az_cd 38 2 = some (4, .ifCond .lt 32, 3, 19, 0, 0, [], []) := rfl
theorem k38_3 : az_cd 38 3 = some (7, .aload_n 0, 1, 0, 0, 0, [], []) := rfl
theorem k38_4 : az_cd 38 4 = some (8, .getfield 22, 3, 4, 1, 0, [], [212]) := rfl
theorem k38_5 : az_cd 38 5 = some (11, .bipush 60, 2, 0, 0, 60, [], []) := rfl
theorem k38_6 : az_cd 38 6 = some (13, .if_icmp .ge 23, 3, 19, 0, 0, [], []) := rfl
theorem k38_7 : az_cd 38 7 = some (16, .aload_n 0, 1, 0, 0, 0, [], []) := rfl
theorem k38_8 : az_cd 38 8 = some (17, .getfield 9, 3, 4, 0, 0, [], [211]) := rfl
theorem k38_9 : az_cd 38 9 = some (20, .aload_n 0, 1, 0, 0, 0, [], []) := rfl
theorem k38_10 : az_cd 38 10 = some (21, .getfield 22, 3, 4, 1, 0, [], [212]) := rfl
theorem k38_11 : az_cd 38 11 = some (24, .iload_n 1, 1, 0, 0, 0, [], []) := rfl
theorem k38_12 : az_cd 38 12 = some (25, .castore, 1, 0, 0, 0, [], []) := rfl
theorem k38_13 : az_cd 38 13 = some (26, .aload_n 0, 1, 0, 0, 0, [], []) := rfl
theorem k38_14 : az_cd 38 14 = some (27, .dup, 1, 0, 0, 0, [], []) := rfl
theorem k38_15 : az_cd 38 15 = some (28, .getfield 22, 3, 4, 1, 0, [], [212]) := rfl
theorem k38_16 : az_cd 38 16 = some (31, .iconst 1, 1, 0, 0, 1, [], []) := rfl
theorem k38_17 : az_cd 38 17 = some (32, .iadd, 1, 0, 0, 0, [], []) := rfl
theorem k38_18 : az_cd 38 18 = some (33, .putfield 22, 3, 4, 1, 0, [], [212]) := rfl
theorem k38_19 : az_cd 38 19 = some (36, .return_, 1, 0, 0, 0, [], []) := rfl
theorem k39_0 : az_cd 39 0 = some (0, .aload_n 0, 1, 0, 0, 0, [], []) := rfl
theorem k39_1 : az_cd 39 1 = some (1, .iconst 0, 1, 0, 0, 0, [], []) := rfl
theorem k39_2 : az_cd 39 2 = some (2, .putfield 22, 3, 4, 1, 0, [], [212]) := rfl
theorem k39_3 : az_cd 39 3 = some (5, .return_, 1, 0, 0, 0, [], []) := rfl
theorem k40_0 : az_cd 40 0 = some (0, .aload_n 0, 1, 0, 0, 0, [], []) := rfl
theorem k40_1 : az_cd 40 1 = some (1, .getfield 26, 3, 4, 4, 0, [], [215]) := rfl
theorem k40_2 : az_cd 40 2 = some (4, .ireturn, 1, 0, 0, 0, [], []) := rfl
theorem k41_0 : az_cd 41 0 = some (0, .iload_n 1, 1, 0, 0, 0, [], []) := rfl
theorem k41_1 : az_cd 41 1 = some (1, .ifCond .lt 18, 3, 10, 0, 0, [], []) := rfl
theorem k41_2 : az_cd 41 2 = some (4, .iload_n 1, 1, 0, 0, 0, [], []) := rfl
theorem k41_3 : az_cd 41 3 = some (5, .bipush 20, 2, 0, 0, 20, [], []) := rfl
theorem k41_4 : az_cd 41 4 = some (7, .if_icmp .ge 12, 3, 10, 0, 0, [], []) := rfl
theorem k41_5 : az_cd 41 5 = some (10, .aload_n 0, 1, 0, 0, 0, [], []) := rfl
theorem k41_6 : az_cd 41 6 = some (11, .getfield 15, 3, 4, 2, 0, [], [213]) := rfl
theorem k41_7 : az_cd 41 7 = some (14, .iload_n 1, 1, 0, 0, 0, [], []) := rfl
theorem k41_8 : az_cd 41 8 = some (15, .iaload, 1, 0, 0, 0, [], []) := rfl
theorem k41_9 : az_cd 41 9 = some (16, .goto 5, 3, 11, 0, 0, [], []) := rfl
theorem k41_10 : az_cd 41 10 = some (19, .bipush (-5), 2, 0, 0, (-5), [], []) := rfl
theorem k41_11 : az_cd 41 11 = some (21, .ireturn, 1, 0, 0, 0, [], []) := rfl
theorem k42_0 : az_cd 42 0 = some (0, .iload_n 1, 1, 0, 0, 0, [], []) := rfl
theorem k42_1 : az_cd 42 1 = some (1, .ifCond .lt 18, 3, 10, 0, 0, [], []) := rfl
theorem k42_2 : az_cd 42 2 = some (4, .iload_n 1, 1, 0, 0, 0, [], []) := rfl
theorem k42_3 : az_cd 42 3 = some (5, .bipush 20, 2, 0, 0, 20, [], []) := rfl
theorem k42_4 : az_cd 42 4 = some (7, .if_icmp .ge 12, 3, 10, 0, 0, [], []) := rfl
theorem k42_5 : az_cd 42 5 = some (10, .aload_n 0, 1, 0, 0, 0, [], []) := rfl
theorem k42_6 : az_cd 42 6 = some (11, .getfield 19, 3, 4, 3, 0, [], [214]) := rfl
theorem k42_7 : az_cd 42 7 = some (14, .iload_n 1, 1, 0, 0, 0, [], []) := rfl
theorem k42_8 : az_cd 42 8 = some (15, .iaload, 1, 0, 0, 0, [], []) := rfl
theorem k42_9 : az_cd 42 9 = some (16, .goto 4, 3, 11, 0, 0, [], []) := rfl
theorem k42_10 : az_cd 42 10 = some (19, .iconst (-1), 1, 0, 0, (-1), [], []) := rfl
theorem k42_11 : az_cd 42 11 = some (20, .ireturn, 1, 0, 0, 0, [], []) := rfl
theorem k43_0 : az_cd 43 0 = some (0, .aload_n 0, 1, 0, 0, 0, [], []) := rfl
theorem k43_1 : az_cd 43 1 = some (1, .iconst 0, 1, 0, 0, 0, [], []) := rfl
theorem k43_2 : az_cd 43 2 = some (2, .putfield 26, 3, 4, 4, 0, [], [215]) := rfl
theorem k43_3 : az_cd 43 3 = some (5, .iconst 0, 1, 0, 0, 0, [], []) := rfl
theorem k43_4 : az_cd 43 4 = some (6, .istore_n 1, 1, 0, 0, 0, [], []) := rfl
theorem k43_5 : az_cd 43 5 = some (7, .iconst 0, 1, 0, 0, 0, [], []) := rfl
theorem k43_6 : az_cd 43 6 = some (8, .istore_n 2, 1, 0, 0, 0, [], []) := rfl
theorem k43_7 : az_cd 43 7 = some (9, .iload_n 2, 1, 0, 0, 0, [], []) := rfl
theorem k43_8 : az_cd 43 8 = some (10, .aload_n 0, 1, 0, 0, 0, [], []) := rfl
theorem k43_9 : az_cd 43 9 = some (11, .getfield 22, 3, 4, 1, 0, [], [212]) := rfl
theorem k43_10 : az_cd 43 10 = some (14, .if_icmp .ge 47, 3, 37, 0, 0, [], []) := rfl
theorem k43_11 : az_cd 43 11 = some (17, .iload_n 2, 1, 0, 0, 0, [], []) := rfl
theorem k43_12 : az_cd 43 12 = some (18, .bipush 60, 2, 0, 0, 60, [], []) := rfl
theorem k43_13 : az_cd 43 13 = some (20, .if_icmp .ge 41, 3, 37, 0, 0, [], []) := rfl
theorem k43_14 : az_cd 43 14 = some (23, .iload_n 1, 1, 0, 0, 0, [], []) := rfl
theorem k43_15 : az_cd 43 15 = some (24, .aload_n 0, 1, 0, 0, 0, [], []) := rfl
theorem k43_16 : az_cd 43 16 = some (25, .getfield 9, 3, 4, 0, 0, [], [211]) := rfl
theorem k43_17 : az_cd 43 17 = some (28, .iload_n 2, 1, 0, 0, 0, [], []) := rfl
theorem k43_18 : az_cd 43 18 = some (29, .caload, 1, 0, 0, 0, [], []) := rfl
theorem k43_19 : az_cd 43 19 = some (30, .invokestatic 31, 3, 44, 2, 0, [], [322, 323, 50, 324]) := rfl
theorem k43_20 : az_cd 43 20 = some (33, .istore_n 3, 1, 0, 0, 0, [], []) := rfl
theorem k43_21 : az_cd 43 21 = some (34, .iload_n 3, 1, 0, 0, 0, [], []) := rfl
theorem k43_22 : az_cd 43 22 = some (35, .bipush 6, 2, 0, 0, 6, [], []) := rfl
theorem k43_23 : az_cd 43 23 = some (37, .if_icmp .ne 5, 3, 26, 0, 0, [], []) := rfl
theorem k43_24 : az_cd 43 24 = some (40, .iload_n 2, 1, 0, 0, 0, [], []) := rfl
theorem k43_25 : az_cd 43 25 = some (41, .ireturn, 1, 0, 0, 0, [], []) := rfl
theorem k43_26 : az_cd 43 26 = some (42, .aload_n 0, 1, 0, 0, 0, [], []) := rfl
theorem k43_27 : az_cd 43 27 = some (43, .iload_n 1, 1, 0, 0, 0, [], []) := rfl
theorem k43_28 : az_cd 43 28 = some (44, .aload_n 0, 1, 0, 0, 0, [], []) := rfl
theorem k43_29 : az_cd 43 29 = some (45, .getfield 9, 3, 4, 0, 0, [], [211]) := rfl
theorem k43_30 : az_cd 43 30 = some (48, .iload_n 2, 1, 0, 0, 0, [], []) := rfl
theorem k43_31 : az_cd 43 31 = some (49, .caload, 1, 0, 0, 0, [], []) := rfl
theorem k43_32 : az_cd 43 32 = some (50, .invokevirtual 35, 3, 45, 2, 0, [], [325, 327, 50, 328, 1]) := rfl
theorem k43_33 : az_cd 43 33 = some (53, .iload_n 3, 1, 0, 0, 0, [], []) := rfl
theorem k43_34 : az_cd 43 34 = some (54, .istore_n 1, 1, 0, 0, 0, [], []) := rfl
theorem k43_35 : az_cd 43 35 = some (55, .iinc 2 1, 3, 0, 0, 1, [], []) := rfl
theorem k43_36 : az_cd 43 36 = some (58, .goto (-49), 3, 7, 0, 0, [], []) := rfl
theorem k43_37 : az_cd 43 37 = some (61, .iload_n 1, 1, 0, 0, 0, [], []) := rfl
theorem k43_38 : az_cd 43 38 = some (62, .iconst 3, 1, 0, 0, 3, [], []) := rfl
theorem k43_39 : az_cd 43 39 = some (63, .if_icmp .eq 13, 3, 46, 0, 0, [], []) := rfl
theorem k43_40 : az_cd 43 40 = some (66, .iload_n 1, 1, 0, 0, 0, [], []) := rfl
theorem k43_41 : az_cd 43 41 = some (67, .iconst 4, 1, 0, 0, 4, [], []) := rfl
theorem k43_42 : az_cd 43 42 = some (68, .if_icmp .eq 8, 3, 46, 0, 0, [], []) := rfl
theorem k43_43 : az_cd 43 43 = some (71, .iload_n 1, 1, 0, 0, 0, [], []) := rfl
theorem k43_44 : az_cd 43 44 = some (72, .iconst 5, 1, 0, 0, 5, [], []) := rfl
theorem k43_45 : az_cd 43 45 = some (73, .if_icmp .ne 7, 3, 48, 0, 0, [], []) := rfl
theorem k43_46 : az_cd 43 46 = some (76, .iconst (-1), 1, 0, 0, (-1), [], []) := rfl
theorem k43_47 : az_cd 43 47 = some (77, .goto 7, 3, 50, 0, 0, [], []) := rfl
theorem k43_48 : az_cd 43 48 = some (80, .aload_n 0, 1, 0, 0, 0, [], []) := rfl
theorem k43_49 : az_cd 43 49 = some (81, .getfield 22, 3, 4, 1, 0, [], [212]) := rfl
theorem k43_50 : az_cd 43 50 = some (84, .ireturn, 1, 0, 0, 0, [], []) := rfl
theorem k44_0 : az_cd 44 0 = some (0, .iload_n 1, 1, 0, 0, 0, [], []) := rfl
theorem k44_1 : az_cd 44 1 = some (1, .bipush 48, 2, 0, 0, 48, [], []) := rfl
theorem k44_2 : az_cd 44 2 = some (3, .if_icmp .lt 13, 3, 8, 0, 0, [], []) := rfl
theorem k44_3 : az_cd 44 3 = some (6, .iload_n 1, 1, 0, 0, 0, [], []) := rfl
theorem k44_4 : az_cd 44 4 = some (7, .bipush 57, 2, 0, 0, 57, [], []) := rfl
theorem k44_5 : az_cd 44 5 = some (9, .if_icmp .gt 7, 3, 8, 0, 0, [], []) := rfl
theorem k44_6 : az_cd 44 6 = some (12, .iconst 1, 1, 0, 0, 1, [], []) := rfl
theorem k44_7 : az_cd 44 7 = some (13, .goto 4, 3, 9, 0, 0, [], []) := rfl
theorem k44_8 : az_cd 44 8 = some (16, .iconst 0, 1, 0, 0, 0, [], []) := rfl
theorem k44_9 : az_cd 44 9 = some (17, .istore_n 2, 1, 0, 0, 0, [], []) := rfl
theorem k44_10 : az_cd 44 10 = some (18, .iload_n 0, 1, 0, 0, 0, [], []) := rfl
theorem k44_11 : az_cd 44 11 = some (19, .tableswitch 138 0 4 #[33, 52, 75, 96, 117], 33, 67, 0, 0, [12, 22, 34, 45, 56], []) := rfl
theorem k44_12 : az_cd 44 12 = some (52, .iload_n 1, 1, 0, 0, 0, [], []) := rfl
theorem k44_13 : az_cd 44 13 = some (53, .bipush 48, 2, 0, 0, 48, [], []) := rfl
theorem k44_14 : az_cd 44 14 = some (55, .if_icmp .lt 13, 3, 20, 0, 0, [], []) := rfl
theorem k44_15 : az_cd 44 15 = some (58, .iload_n 1, 1, 0, 0, 0, [], []) := rfl
theorem k44_16 : az_cd 44 16 = some (59, .bipush 55, 2, 0, 0, 55, [], []) := rfl
theorem k44_17 : az_cd 44 17 = some (61, .if_icmp .gt 7, 3, 20, 0, 0, [], []) := rfl
theorem k44_18 : az_cd 44 18 = some (64, .iconst 1, 1, 0, 0, 1, [], []) := rfl
theorem k44_19 : az_cd 44 19 = some (65, .goto 5, 3, 21, 0, 0, [], []) := rfl
theorem k44_20 : az_cd 44 20 = some (68, .bipush 6, 2, 0, 0, 6, [], []) := rfl
theorem k44_21 : az_cd 44 21 = some (70, .ireturn, 1, 0, 0, 0, [], []) := rfl
theorem k44_22 : az_cd 44 22 = some (71, .iload_n 1, 1, 0, 0, 0, [], []) := rfl
theorem k44_23 : az_cd 44 23 = some (72, .bipush 61, 2, 0, 0, 61, [], []) := rfl
theorem k44_24 : az_cd 44 24 = some (74, .if_icmp .ne 7, 3, 27, 0, 0, [], []) := rfl
theorem k44_25 : az_cd 44 25 = some (77, .iconst 2, 1, 0, 0, 2, [], []) := rfl
theorem k44_26 : az_cd 44 26 = some (78, .goto 15, 3, 33, 0, 0, [], []) := rfl
theorem k44_27 : az_cd 44 27 = some (81, .iload_n 1, 1, 0, 0, 0, [], []) := rfl
theorem k44_28 : az_cd 44 28 = some (82, .bipush 45, 2, 0, 0, 45, [], []) := rfl
theorem k44_29 : az_cd 44 29 = some (84, .if_icmp .ne 7, 3, 32, 0, 0, [], []) := rfl
theorem k44_30 : az_cd 44 30 = some (87, .iconst 5, 1, 0, 0, 5, [], []) := rfl
theorem k44_31 : az_cd 44 31 = some (88, .goto 5, 3, 33, 0, 0, [], []) := rfl
theorem k44_32 : az_cd 44 32 = some (91, .bipush 6, 2, 0, 0, 6, [], []) := rfl
theorem k44_33 : az_cd 44 33 = some (93, .ireturn, 1, 0, 0, 0, [], []) := rfl
theorem k44_34 : az_cd 44 34 = some (94, .iload_n 1, 1, 0, 0, 0, [], []) := rfl
theorem k44_35 : az_cd 44 35 = some (95, .bipush 48, 2, 0, 0, 48, [], []) := rfl
theorem k44_36 : az_cd 44 36 = some (97, .if_icmp .ne 7, 3, 39, 0, 0, [], []) := rfl
theorem k44_37 : az_cd 44 37 = some (100, .iconst 5, 1, 0, 0, 5, [], []) := rfl
theorem k44_38 : az_cd 44 38 = some (101, .goto 13, 3, 44, 0, 0, [], []) := rfl
theorem k44_39 : az_cd 44 39 = some (104, .iload_n 2, 1, 0, 0, 0, [], []) := rfl
theorem k44_40 : az_cd 44 40 = some (105, .ifCond .eq 7, 3, 43, 0, 0, [], []) := rfl
theorem k44_41 : az_cd 44 41 = some (108, .iconst 3, 1, 0, 0, 3, [], []) := rfl
theorem k44_42 : az_cd 44 42 = some (109, .goto 5, 3, 44, 0, 0, [], []) := rfl
theorem k44_43 : az_cd 44 43 = some (112, .bipush 6, 2, 0, 0, 6, [], []) := rfl
theorem k44_44 : az_cd 44 44 = some (114, .ireturn, 1, 0, 0, 0, [], []) := rfl
theorem k44_45 : az_cd 44 45 = some (115, .iload_n 2, 1, 0, 0, 0, [], []) := rfl
theorem k44_46 : az_cd 44 46 = some (116, .ifCond .eq 7, 3, 49, 0, 0, [], []) := rfl
theorem k44_47 : az_cd 44 47 = some (119, .iconst 4, 1, 0, 0, 4, [], []) := rfl
theorem k44_48 : az_cd 44 48 = some (120, .goto 15, 3, 55, 0, 0, [], []) := rfl
theorem k44_49 : az_cd 44 49 = some (123, .iload_n 1, 1, 0, 0, 0, [], []) := rfl
theorem k44_50 : az_cd 44 50 = some (124, .bipush 44, 2, 0, 0, 44, [], []) := rfl
theorem k44_51 : az_cd 44 51 = some (126, .if_icmp .ne 7, 3, 54, 0, 0, [], []) := rfl
theorem k44_52 : az_cd 44 52 = some (129, .iconst 0, 1, 0, 0, 0, [], []) := rfl
theorem k44_53 : az_cd 44 53 = some (130, .goto 5, 3, 55, 0, 0, [], []) := rfl
theorem k44_54 : az_cd 44 54 = some (133, .bipush 6, 2, 0, 0, 6, [], []) := rfl
theorem k44_55 : az_cd 44 55 = some (135, .ireturn, 1, 0, 0, 0, [], []) := rfl
theorem k44_56 : az_cd 44 56 = some (136, .iload_n 2, 1, 0, 0, 0, [], []) := rfl
theorem k44_57 : az_cd 44 57 = some (137, .ifCond .eq 7, 3, 60, 0, 0, [], []) := rfl
theorem k44_58 : az_cd 44 58 = some (140, .iconst 5, 1, 0, 0, 5, [], []) := rfl
theorem k44_59 : az_cd 44 59 = some (141, .goto 15, 3, 66, 0, 0, [], []) := rfl
theorem k44_60 : az_cd 44 60 = some (144, .iload_n 1, 1, 0, 0, 0, [], []) := rfl
theorem k44_61 : az_cd 44 61 = some (145, .bipush 44, 2, 0, 0, 44, [], []) := rfl
theorem k44_62 : az_cd 44 62 = some (147, .if_icmp .ne 7, 3, 65, 0, 0, [], []) := rfl
theorem k44_63 : az_cd 44 63 = some (150, .iconst 0, 1, 0, 0, 0, [], []) := rfl
theorem k44_64 : az_cd 44 64 = some (151, .goto 5, 3, 66, 0, 0, [], []) := rfl
theorem k44_65 : az_cd 44 65 = some (154, .bipush 6, 2, 0, 0, 6, [], []) := rfl
theorem k44_66 : az_cd 44 66 = some (156, .ireturn, 1, 0, 0, 0, [], []) := rfl
theorem k44_67 : az_cd 44 67 = some (157, .iload_n 1, 1, 0, 0, 0, [], []) := rfl
theorem k44_68 : az_cd 44 68 = some (158, .bipush 44, 2, 0, 0, 44, [], []) := rfl
theorem k44_69 : az_cd 44 69 = some (160, .if_icmp .ne 7, 3, 72, 0, 0, [], []) := rfl
theorem k44_70 : az_cd 44 70 = some (163, .iconst 0, 1, 0, 0, 0, [], []) := rfl
theorem k44_71 : az_cd 44 71 = some (164, .goto 5, 3, 73, 0, 0, [], []) := rfl
theorem k44_72 : az_cd 44 72 = some (167, .bipush 6, 2, 0, 0, 6, [], []) := rfl
theorem k44_73 : az_cd 44 73 = some (169, .ireturn, 1, 0, 0, 0, [], []) := rfl
theorem k45_0 : az_cd 45 0 = some (0, .iload_n 1, 1, 0, 0, 0, [], []) := rfl
theorem k45_1 : az_cd 45 1 = some (1, .ifCond .ne 14, 3, 8, 0, 0, [], []) := rfl
theorem k45_2 : az_cd 45 2 = some (4, .aload_n 0, 1, 0, 0, 0, [], []) := rfl
theorem k45_3 : az_cd 45 3 = some (5, .iload_n 2, 1, 0, 0, 0, [], []) := rfl
theorem k45_4 : az_cd 45 4 = some (6, .bipush 48, 2, 0, 0, 48, [], []) := rfl
theorem k45_5 : az_cd 45 5 = some (8, .isub, 1, 0, 0, 0, [], []) := rfl
theorem k45_6 : az_cd 45 6 = some (9, .invokevirtual 39, 3, 46, 1, 0, [], [329, 331, 50, 332, 2]) := rfl
theorem k45_7 : az_cd 45 7 = some (12, .goto 23, 3, 19, 0, 0, [], []) := rfl
theorem k45_8 : az_cd 45 8 = some (15, .iload_n 2, 1, 0, 0, 0, [], []) := rfl
theorem k45_9 : az_cd 45 9 = some (16, .bipush 48, 2, 0, 0, 48, [], []) := rfl
theorem k45_10 : az_cd 45 10 = some (18, .if_icmp .lt 17, 3, 19, 0, 0, [], []) := rfl
theorem k45_11 : az_cd 45 11 = some (21, .iload_n 2, 1, 0, 0, 0, [], []) := rfl
theorem k45_12 : az_cd 45 12 = some (22, .bipush 57, 2, 0, 0, 57, [], []) := rfl
theorem k45_13 : az_cd 45 13 = some (24, .if_icmp .gt 11, 3, 19, 0, 0, [], []) := rfl
theorem k45_14 : az_cd 45 14 = some (27, .aload_n 0, 1, 0, 0, 0, [], []) := rfl
theorem k45_15 : az_cd 45 15 = some (28, .iload_n 2, 1, 0, 0, 0, [], []) := rfl
theorem k45_16 : az_cd 45 16 = some (29, .bipush 48, 2, 0, 0, 48, [], []) := rfl
theorem k45_17 : az_cd 45 17 = some (31, .isub, 1, 0, 0, 0, [], []) := rfl
theorem k45_18 : az_cd 45 18 = some (32, .invokevirtual 43, 3, 47, 1, 0, [], [333, 335, 50, 336, 3]) := rfl
theorem k45_19 : az_cd 45 19 = some (35, .return_, 1, 0, 0, 0, [], []) := rfl
theorem k46_0 : az_cd 46 0 = some (0, .aload_n 0, 1, 0, 0, 0, [], []) := rfl
theorem k46_1 : az_cd 46 1 = some (1, .getfield 26, 3, 4, 4, 0, [], [215]) := rfl
theorem k46_2 : az_cd 46 2 = some (4, .ifCond .lt 43, 3, 25, 0, 0, [], []) := rfl
theorem k46_3 : az_cd 46 3 = some (7, .aload_n 0, 1, 0, 0, 0, [], []) := rfl
theorem k46_4 : az_cd 46 4 = some (8, .getfield 26, 3, 4, 4, 0, [], [215]) := rfl
theorem k46_5 : az_cd 46 5 = some (11, .bipush 20, 2, 0, 0, 20, [], []) := rfl
theorem k46_6 : az_cd 46 6 = some (13, .if_icmp .ge 34, 3, 25, 0, 0, [], []) := rfl
theorem k46_7 : az_cd 46 7 = some (16, .aload_n 0, 1, 0, 0, 0, [], []) := rfl
theorem k46_8 : az_cd 46 8 = some (17, .getfield 15, 3, 4, 2, 0, [], [213]) := rfl
theorem k46_9 : az_cd 46 9 = some (20, .aload_n 0, 1, 0, 0, 0, [], []) := rfl
theorem k46_10 : az_cd 46 10 = some (21, .getfield 26, 3, 4, 4, 0, [], [215]) := rfl
theorem k46_11 : az_cd 46 11 = some (24, .iload_n 1, 1, 0, 0, 0, [], []) := rfl
theorem k46_12 : az_cd 46 12 = some (25, .iastore, 1, 0, 0, 0, [], []) := rfl
theorem k46_13 : az_cd 46 13 = some (26, .aload_n 0, 1, 0, 0, 0, [], []) := rfl
theorem k46_14 : az_cd 46 14 = some (27, .getfield 19, 3, 4, 3, 0, [], [214]) := rfl
theorem k46_15 : az_cd 46 15 = some (30, .aload_n 0, 1, 0, 0, 0, [], []) := rfl
theorem k46_16 : az_cd 46 16 = some (31, .getfield 26, 3, 4, 4, 0, [], [215]) := rfl
theorem k46_17 : az_cd 46 17 = some (34, .bipush (-5), 2, 0, 0, (-5), [], []) := rfl
theorem k46_18 : az_cd 46 18 = some (36, .iastore, 1, 0, 0, 0, [], []) := rfl
theorem k46_19 : az_cd 46 19 = some (37, .aload_n 0, 1, 0, 0, 0, [], []) := rfl
theorem k46_20 : az_cd 46 20 = some (38, .dup, 1, 0, 0, 0, [], []) := rfl
theorem k46_21 : az_cd 46 21 = some (39, .getfield 26, 3, 4, 4, 0, [], [215]) := rfl
theorem k46_22 : az_cd 46 22 = some (42, .iconst 1, 1, 0, 0, 1, [], []) := rfl
theorem k46_23 : az_cd 46 23 = some (43, .iadd, 1, 0, 0, 0, [], []) := rfl
theorem k46_24 : az_cd 46 24 = some (44, .putfield 26, 3, 4, 4, 0, [], [215]) := rfl
theorem k46_25 : az_cd 46 25 = some (47, .return_, 1, 0, 0, 0, [], []) := rfl
theorem k47_0 : az_cd 47 0 = some (0, .aload_n 0, 1, 0, 0, 0, [], []) := rfl
theorem k47_1 : az_cd 47 1 = some (1, .getfield 26, 3, 4, 4, 0, [], [215]) := rfl
theorem k47_2 : az_cd 47 2 = some (4, .iconst 1, 1, 0, 0, 1, [], []) := rfl
theorem k47_3 : az_cd 47 3 = some (5, .isub, 1, 0, 0, 0, [], []) := rfl
theorem k47_4 : az_cd 47 4 = some (6, .istore_n 2, 1, 0, 0, 0, [], []) := rfl
theorem k47_5 : az_cd 47 5 = some (7, .iload_n 2, 1, 0, 0, 0, [], []) := rfl
theorem k47_6 : az_cd 47 6 = some (8, .ifCond .lt 41, 3, 30, 0, 0, [], []) := rfl
theorem k47_7 : az_cd 47 7 = some (11, .iload_n 2, 1, 0, 0, 0, [], []) := rfl
theorem k47_8 : az_cd 47 8 = some (12, .bipush 20, 2, 0, 0, 20, [], []) := rfl
theorem k47_9 : az_cd 47 9 = some (14, .if_icmp .ge 35, 3, 30, 0, 0, [], []) := rfl
theorem k47_10 : az_cd 47 10 = some (17, .aload_n 0, 1, 0, 0, 0, [], []) := rfl
theorem k47_11 : az_cd 47 11 = some (18, .getfield 19, 3, 4, 3, 0, [], [214]) := rfl
theorem k47_12 : az_cd 47 12 = some (21, .iload_n 2, 1, 0, 0, 0, [], []) := rfl
theorem k47_13 : az_cd 47 13 = some (22, .aload_n 0, 1, 0, 0, 0, [], []) := rfl
theorem k47_14 : az_cd 47 14 = some (23, .getfield 19, 3, 4, 3, 0, [], [214]) := rfl
theorem k47_15 : az_cd 47 15 = some (26, .iload_n 2, 1, 0, 0, 0, [], []) := rfl
theorem k47_16 : az_cd 47 16 = some (27, .iaload, 1, 0, 0, 0, [], []) := rfl
theorem k47_17 : az_cd 47 17 = some (28, .bipush (-5), 2, 0, 0, (-5), [], []) := rfl
theorem k47_18 : az_cd 47 18 = some (30, .if_icmp .ne 7, 3, 21, 0, 0, [], []) := rfl
theorem k47_19 : az_cd 47 19 = some (33, .iload_n 1, 1, 0, 0, 0, [], []) := rfl
theorem k47_20 : az_cd 47 20 = some (34, .goto 14, 3, 29, 0, 0, [], []) := rfl
theorem k47_21 : az_cd 47 21 = some (37, .aload_n 0, 1, 0, 0, 0, [], []) := rfl
theorem k47_22 : az_cd 47 22 = some (38, .getfield 19, 3, 4, 3, 0, [], [214]) := rfl
theorem k47_23 : az_cd 47 23 = some (41, .iload_n 2, 1, 0, 0, 0, [], []) := rfl
theorem k47_24 : az_cd 47 24 = some (42, .iaload, 1, 0, 0, 0, [], []) := rfl
theorem k47_25 : az_cd 47 25 = some (43, .bipush 10, 2, 0, 0, 10, [], []) := rfl
theorem k47_26 : az_cd 47 26 = some (45, .imul, 1, 0, 0, 0, [], []) := rfl
theorem k47_27 : az_cd 47 27 = some (46, .iload_n 1, 1, 0, 0, 0, [], []) := rfl
theorem k47_28 : az_cd 47 28 = some (47, .iadd, 1, 0, 0, 0, [], []) := rfl
theorem k47_29 : az_cd 47 29 = some (48, .iastore, 1, 0, 0, 0, [], []) := rfl
theorem k47_30 : az_cd 47 30 = some (49, .return_, 1, 0, 0, 0, [], []) := rfl
theorem k48_0 : az_cd 48 0 = some (0, .aload_n 0, 1, 0, 0, 0, [], []) := rfl
theorem k48_1 : az_cd 48 1 = some (1, .invokespecial 3, 3, 196, 0, 2, [], [142, 61, 62]) := rfl
theorem k48_2 : az_cd 48 2 = some (4, .aload_n 0, 1, 0, 0, 0, [], []) := rfl
theorem k48_3 : az_cd 48 3 = some (5, .iconst 4, 1, 0, 0, 4, [], []) := rfl
theorem k48_4 : az_cd 48 4 = some (6, .newarray .boolean, 2, 0, 2, 0, [], [153]) := rfl
theorem k48_5 : az_cd 48 5 = some (8, .putfield 9, 3, 5, 0, 0, [], [146]) := rfl
theorem k48_6 : az_cd 48 6 = some (11, .aload_n 0, 1, 0, 0, 0, [], []) := rfl
theorem k48_7 : az_cd 48 7 = some (12, .iconst 4, 1, 0, 0, 4, [], []) := rfl
theorem k48_8 : az_cd 48 8 = some (13, .anewarray 15, 3, 2, 3, 0, [], [143, 144]) := rfl
theorem k48_9 : az_cd 48 9 = some (16, .putfield 17, 3, 5, 1, 0, [], [147]) := rfl
theorem k48_10 : az_cd 48 10 = some (19, .iconst 0, 1, 0, 0, 0, [], []) := rfl
theorem k48_11 : az_cd 48 11 = some (20, .istore_n 1, 1, 0, 0, 0, [], []) := rfl
theorem k48_12 : az_cd 48 12 = some (21, .iload_n 1, 1, 0, 0, 0, [], []) := rfl
theorem k48_13 : az_cd 48 13 = some (22, .iconst 4, 1, 0, 0, 4, [], []) := rfl
theorem k48_14 : az_cd 48 14 = some (23, .if_icmp .ge 23, 3, 25, 0, 0, [], []) := rfl
theorem k48_15 : az_cd 48 15 = some (26, .aload_n 0, 1, 0, 0, 0, [], []) := rfl
theorem k48_16 : az_cd 48 16 = some (27, .getfield 17, 3, 5, 1, 0, [], [147]) := rfl
theorem k48_17 : az_cd 48 17 = some (30, .iload_n 1, 1, 0, 0, 0, [], []) := rfl
theorem k48_18 : az_cd 48 18 = some (31, .new 15, 3, 2, 3, 0, [], [143, 93, 45]) := rfl
theorem k48_19 : az_cd 48 19 = some (34, .dup, 1, 0, 0, 0, [], []) := rfl
theorem k48_20 : az_cd 48 20 = some (35, .iconst 0, 1, 0, 0, 0, [], []) := rfl
theorem k48_21 : az_cd 48 21 = some (36, .invokespecial 21, 3, 21, 1, 0, [], [145, 95, 45, 96]) := rfl
theorem k48_22 : az_cd 48 22 = some (39, .aastore, 1, 0, 0, 0, [], []) := rfl
theorem k48_23 : az_cd 48 23 = some (40, .iinc 1 1, 3, 0, 0, 1, [], []) := rfl
theorem k48_24 : az_cd 48 24 = some (43, .goto (-22), 3, 12, 0, 0, [], []) := rfl
theorem k48_25 : az_cd 48 25 = some (46, .return_, 1, 0, 0, 0, [], []) := rfl
theorem k49_0 : az_cd 49 0 = some (0, .iload_n 1, 1, 0, 0, 0, [], []) := rfl
theorem k49_1 : az_cd 49 1 = some (1, .ifCond .lt 21, 3, 12, 0, 0, [], []) := rfl
theorem k49_2 : az_cd 49 2 = some (4, .iload_n 1, 1, 0, 0, 0, [], []) := rfl
theorem k49_3 : az_cd 49 3 = some (5, .iconst 4, 1, 0, 0, 4, [], []) := rfl
theorem k49_4 : az_cd 49 4 = some (6, .if_icmp .ge 16, 3, 12, 0, 0, [], []) := rfl
theorem k49_5 : az_cd 49 5 = some (9, .aload_n 0, 1, 0, 0, 0, [], []) := rfl
theorem k49_6 : az_cd 49 6 = some (10, .getfield 9, 3, 5, 0, 0, [], [146]) := rfl
theorem k49_7 : az_cd 49 7 = some (13, .iload_n 1, 1, 0, 0, 0, [], []) := rfl
theorem k49_8 : az_cd 49 8 = some (14, .baload, 1, 0, 0, 0, [], []) := rfl
theorem k49_9 : az_cd 49 9 = some (15, .ifCond .eq 7, 3, 12, 0, 0, [], []) := rfl
theorem k49_10 : az_cd 49 10 = some (18, .iconst 1, 1, 0, 0, 1, [], []) := rfl
theorem k49_11 : az_cd 49 11 = some (19, .goto 4, 3, 13, 0, 0, [], []) := rfl
theorem k49_12 : az_cd 49 12 = some (22, .iconst 0, 1, 0, 0, 0, [], []) := rfl
theorem k49_13 : az_cd 49 13 = some (23, .ireturn, 1, 0, 0, 0, [], []) := rfl
theorem k50_0 : az_cd 50 0 = some (0, .iconst 0, 1, 0, 0, 0, [], []) := rfl
theorem k50_1 : az_cd 50 1 = some (1, .istore_n 1, 1, 0, 0, 0, [], []) := rfl
theorem k50_2 : az_cd 50 2 = some (2, .iload_n 1, 1, 0, 0, 0, [], []) := rfl
theorem k50_3 : az_cd 50 3 = some (3, .iconst 4, 1, 0, 0, 4, [], []) := rfl
theorem k50_4 : az_cd 50 4 = some (4, .if_icmp .ge 20, 3, 14, 0, 0, [], []) := rfl
theorem k50_5 : az_cd 50 5 = some (7, .aload_n 0, 1, 0, 0, 0, [], []) := rfl
theorem k50_6 : az_cd 50 6 = some (8, .getfield 9, 3, 5, 0, 0, [], [146]) := rfl
theorem k50_7 : az_cd 50 7 = some (11, .iload_n 1, 1, 0, 0, 0, [], []) := rfl
theorem k50_8 : az_cd 50 8 = some (12, .baload, 1, 0, 0, 0, [], []) := rfl
theorem k50_9 : az_cd 50 9 = some (13, .ifCond .ne 5, 3, 12, 0, 0, [], []) := rfl
theorem k50_10 : az_cd 50 10 = some (16, .iload_n 1, 1, 0, 0, 0, [], []) := rfl
theorem k50_11 : az_cd 50 11 = some (17, .ireturn, 1, 0, 0, 0, [], []) := rfl
theorem k50_12 : az_cd 50 12 = some (18, .iinc 1 1, 3, 0, 0, 1, [], []) := rfl
theorem k50_13 : az_cd 50 13 = some (21, .goto (-19), 3, 2, 0, 0, [], []) := rfl
theorem k50_14 : az_cd 50 14 = some (24, .bipush (-5), 2, 0, 0, (-5), [], []) := rfl
theorem k50_15 : az_cd 50 15 = some (26, .ireturn, 1, 0, 0, 0, [], []) := rfl
theorem k51_0 : az_cd 51 0 = some (0, .iconst 0, 1, 0, 0, 0, [], []) := rfl
theorem k51_1 : az_cd 51 1 = some (1, .istore_n 1, 1, 0, 0, 0, [], []) := rfl
theorem k51_2 : az_cd 51 2 = some (2, .iconst 0, 1, 0, 0, 0, [], []) := rfl
theorem k51_3 : az_cd 51 3 = some (3, .istore_n 2, 1, 0, 0, 0, [], []) := rfl
theorem k51_4 : az_cd 51 4 = some (4, .iload_n 2, 1, 0, 0, 0, [], []) := rfl
theorem k51_5 : az_cd 51 5 = some (5, .iconst 4, 1, 0, 0, 4, [], []) := rfl
theorem k51_6 : az_cd 51 6 = some (6, .if_icmp .ge 21, 3, 15, 0, 0, [], []) := rfl
theorem k51_7 : az_cd 51 7 = some (9, .aload_n 0, 1, 0, 0, 0, [], []) := rfl
theorem k51_8 : az_cd 51 8 = some (10, .getfield 9, 3, 5, 0, 0, [], [146]) := rfl
theorem k51_9 : az_cd 51 9 = some (13, .iload_n 2, 1, 0, 0, 0, [], []) := rfl
theorem k51_10 : az_cd 51 10 = some (14, .baload, 1, 0, 0, 0, [], []) := rfl
theorem k51_11 : az_cd 51 11 = some (15, .ifCond .eq 6, 3, 13, 0, 0, [], []) := rfl
theorem k51_12 : az_cd 51 12 = some (18, .iinc 1 1, 3, 0, 0, 1, [], []) := rfl
theorem k51_13 : az_cd 51 13 = some (21, .iinc 2 1, 3, 0, 0, 1, [], []) := rfl
theorem k51_14 : az_cd 51 14 = some (24, .goto (-20), 3, 4, 0, 0, [], []) := rfl
theorem k51_15 : az_cd 51 15 = some (27, .iload_n 1, 1, 0, 0, 0, [], []) := rfl
theorem k51_16 : az_cd 51 16 = some (28, .ireturn, 1, 0, 0, 0, [], []) := rfl
theorem k52_0 : az_cd 52 0 = some (0, .iconst 0, 1, 0, 0, 0, [], []) := rfl
theorem k52_1 : az_cd 52 1 = some (1, .istore_n 2, 1, 0, 0, 0, [], []) := rfl
theorem k52_2 : az_cd 52 2 = some (2, .iconst 0, 1, 0, 0, 0, [], []) := rfl
theorem k52_3 : az_cd 52 3 = some (3, .istore_n 3, 1, 0, 0, 0, [], []) := rfl
theorem k52_4 : az_cd 52 4 = some (4, .iload_n 3, 1, 0, 0, 0, [], []) := rfl
theorem k52_5 : az_cd 52 5 = some (5, .iconst 4, 1, 0, 0, 4, [], []) := rfl
theorem k52_6 : az_cd 52 6 = some (6, .if_icmp .ge 36, 3, 23, 0, 0, [], []) := rfl
theorem k52_7 : az_cd 52 7 = some (9, .aload_n 0, 1, 0, 0, 0, [], []) := rfl
theorem k52_8 : az_cd 52 8 = some (10, .getfield 9, 3, 5, 0, 0, [], [146]) := rfl
theorem k52_9 : az_cd 52 9 = some (13, .iload_n 3, 1, 0, 0, 0, [], []) := rfl
theorem k52_10 : az_cd 52 10 = some (14, .baload, 1, 0, 0, 0, [], []) := rfl
theorem k52_11 : az_cd 52 11 = some (15, .ifCond .eq 21, 3, 21, 0, 0, [], []) := rfl
theorem k52_12 : az_cd 52 12 = some (18, .aload_n 0, 1, 0, 0, 0, [], []) := rfl
theorem k52_13 : az_cd 52 13 = some (19, .getfield 17, 3, 5, 1, 0, [], [147]) := rfl
theorem k52_14 : az_cd 52 14 = some (22, .iload_n 3, 1, 0, 0, 0, [], []) := rfl
theorem k52_15 : az_cd 52 15 = some (23, .aaload, 1, 0, 0, 0, [], []) := rfl
theorem k52_16 : az_cd 52 16 = some (24, .iload_n 1, 1, 0, 0, 0, [], []) := rfl
theorem k52_17 : az_cd 52 17 = some (25, .invokevirtual 24, 3, 27, 1, 0, [], [419, 412, 45, 414, 413]) := rfl
theorem k52_18 : az_cd 52 18 = some (28, .bipush (-5), 2, 0, 0, (-5), [], []) := rfl
theorem k52_19 : az_cd 52 19 = some (30, .if_icmp .eq 6, 3, 21, 0, 0, [], []) := rfl
theorem k52_20 : az_cd 52 20 = some (33, .iinc 2 1, 3, 0, 0, 1, [], []) := rfl
theorem k52_21 : az_cd 52 21 = some (36, .iinc 3 1, 3, 0, 0, 1, [], []) := rfl
theorem k52_22 : az_cd 52 22 = some (39, .goto (-35), 3, 4, 0, 0, [], []) := rfl
theorem k52_23 : az_cd 52 23 = some (42, .iload_n 2, 1, 0, 0, 0, [], []) := rfl
theorem k52_24 : az_cd 52 24 = some (43, .ireturn, 1, 0, 0, 0, [], []) := rfl
theorem k53_0 : az_cd 53 0 = some (0, .iload_n 1, 1, 0, 0, 0, [], []) := rfl
theorem k53_1 : az_cd 53 1 = some (1, .ifCond .lt 25, 3, 16, 0, 0, [], []) := rfl
theorem k53_2 : az_cd 53 2 = some (4, .iload_n 1, 1, 0, 0, 0, [], []) := rfl
theorem k53_3 : az_cd 53 3 = some (5, .iconst 4, 1, 0, 0, 4, [], []) := rfl
theorem k53_4 : az_cd 53 4 = some (6, .if_icmp .ge 20, 3, 16, 0, 0, [], []) := rfl
theorem k53_5 : az_cd 53 5 = some (9, .aload_n 0, 1, 0, 0, 0, [], []) := rfl
theorem k53_6 : az_cd 53 6 = some (10, .getfield 9, 3, 5, 0, 0, [], [146]) := rfl
theorem k53_7 : az_cd 53 7 = some (13, .iload_n 1, 1, 0, 0, 0, [], []) := rfl
theorem k53_8 : az_cd 53 8 = some (14, .iconst 1, 1, 0, 0, 1, [], []) := rfl
theorem k53_9 : az_cd 53 9 = some (15, .bastore, 1, 0, 0, 0, [], []) := rfl
theorem k53_10 : az_cd 53 10 = some (16, .aload_n 0, 1, 0, 0, 0, [], []) := rfl
theorem k53_11 : az_cd 53 11 = some (17, .getfield 17, 3, 5, 1, 0, [], [147]) := rfl
theorem k53_12 : az_cd 53 12 = some (20, .iload_n 1, 1, 0, 0, 0, [], []) := rfl
theorem k53_13 : az_cd 53 13 = some (21, .aaload, 1, 0, 0, 0, [], []) := rfl
theorem k53_14 : az_cd 53 14 = some (22, .aload_n 2, 1, 0, 0, 0, [], []) := rfl
theorem k53_15 : az_cd 53 15 = some (23, .invokevirtual 28, 3, 30, 1, 0, [], [301, 283, 45, 285, 284]) := rfl
theorem k53_16 : az_cd 53 16 = some (26, .return_, 1, 0, 0, 0, [], []) := rfl
theorem k54_0 : az_cd 54 0 = some (0, .iload_n 1, 1, 0, 0, 0, [], []) := rfl
theorem k54_1 : az_cd 54 1 = some (1, .ifCond .lt 15, 3, 10, 0, 0, [], []) := rfl
theorem k54_2 : az_cd 54 2 = some (4, .iload_n 1, 1, 0, 0, 0, [], []) := rfl
theorem k54_3 : az_cd 54 3 = some (5, .iconst 4, 1, 0, 0, 4, [], []) := rfl
theorem k54_4 : az_cd 54 4 = some (6, .if_icmp .ge 10, 3, 10, 0, 0, [], []) := rfl
theorem k54_5 : az_cd 54 5 = some (9, .aload_n 0, 1, 0, 0, 0, [], []) := rfl
theorem k54_6 : az_cd 54 6 = some (10, .getfield 9, 3, 5, 0, 0, [], [146]) := rfl
theorem k54_7 : az_cd 54 7 = some (13, .iload_n 1, 1, 0, 0, 0, [], []) := rfl
theorem k54_8 : az_cd 54 8 = some (14, .iconst 0, 1, 0, 0, 0, [], []) := rfl
theorem k54_9 : az_cd 54 9 = some (15, .bastore, 1, 0, 0, 0, [], []) := rfl
theorem k54_10 : az_cd 54 10 = some (16, .return_, 1, 0, 0, 0, [], []) := rfl
theorem k55_0 : az_cd 55 0 = some (0, .iconst 0, 1, 0, 0, 0, [], []) := rfl
theorem k55_1 : az_cd 55 1 = some (1, .istore_n 1, 1, 0, 0, 0, [], []) := rfl
theorem k55_2 : az_cd 55 2 = some (2, .iload_n 1, 1, 0, 0, 0, [], []) := rfl
theorem k55_3 : az_cd 55 3 = some (3, .iconst 4, 1, 0, 0, 4, [], []) := rfl
theorem k55_4 : az_cd 55 4 = some (4, .if_icmp .ge 16, 3, 12, 0, 0, [], []) := rfl
theorem k55_5 : az_cd 55 5 = some (7, .aload_n 0, 1, 0, 0, 0, [], []) := rfl
theorem k55_6 : az_cd 55 6 = some (8, .getfield 9, 3, 5, 0, 0, [], [146]) := rfl
theorem k55_7 : az_cd 55 7 = some (11, .iload_n 1, 1, 0, 0, 0, [], []) := rfl
theorem k55_8 : az_cd 55 8 = some (12, .iconst 0, 1, 0, 0, 0, [], []) := rfl
theorem k55_9 : az_cd 55 9 = some (13, .bastore, 1, 0, 0, 0, [], []) := rfl
theorem k55_10 : az_cd 55 10 = some (14, .iinc 1 1, 3, 0, 0, 1, [], []) := rfl
theorem k55_11 : az_cd 55 11 = some (17, .goto (-15), 3, 2, 0, 0, [], []) := rfl
theorem k55_12 : az_cd 55 12 = some (20, .return_, 1, 0, 0, 0, [], []) := rfl
theorem k56_0 : az_cd 56 0 = some (0, .aload_n 0, 1, 0, 0, 0, [], []) := rfl
theorem k56_1 : az_cd 56 1 = some (1, .iload_n 1, 1, 0, 0, 0, [], []) := rfl
theorem k56_2 : az_cd 56 2 = some (2, .invokevirtual 32, 3, 49, 1, 0, [], [626, 541, 48, 543, 542]) := rfl
theorem k56_3 : az_cd 56 3 = some (5, .ifCond .eq 15, 3, 10, 0, 0, [], []) := rfl
theorem k56_4 : az_cd 56 4 = some (8, .aload_n 0, 1, 0, 0, 0, [], []) := rfl
theorem k56_5 : az_cd 56 5 = some (9, .getfield 17, 3, 5, 1, 0, [], [147]) := rfl
theorem k56_6 : az_cd 56 6 = some (12, .iload_n 1, 1, 0, 0, 0, [], []) := rfl
theorem k56_7 : az_cd 56 7 = some (13, .aaload, 1, 0, 0, 0, [], []) := rfl
theorem k56_8 : az_cd 56 8 = some (14, .invokevirtual 36, 3, 22, 0, 0, [], [685, 462, 45, 464, 463]) := rfl
theorem k56_9 : az_cd 56 9 = some (17, .goto 5, 3, 11, 0, 0, [], []) := rfl
theorem k56_10 : az_cd 56 10 = some (20, .bipush (-5), 2, 0, 0, (-5), [], []) := rfl
theorem k56_11 : az_cd 56 11 = some (22, .ireturn, 1, 0, 0, 0, [], []) := rfl
theorem k57_0 : az_cd 57 0 = some (0, .aload_n 0, 1, 0, 0, 0, [], []) := rfl
theorem k57_1 : az_cd 57 1 = some (1, .iload_n 1, 1, 0, 0, 0, [], []) := rfl
theorem k57_2 : az_cd 57 2 = some (2, .invokevirtual 32, 3, 49, 1, 0, [], [626, 541, 48, 543, 542]) := rfl
theorem k57_3 : az_cd 57 3 = some (5, .ifCond .eq 16, 3, 11, 0, 0, [], []) := rfl
theorem k57_4 : az_cd 57 4 = some (8, .aload_n 0, 1, 0, 0, 0, [], []) := rfl
theorem k57_5 : az_cd 57 5 = some (9, .getfield 17, 3, 5, 1, 0, [], [147]) := rfl
theorem k57_6 : az_cd 57 6 = some (12, .iload_n 1, 1, 0, 0, 0, [], []) := rfl
theorem k57_7 : az_cd 57 7 = some (13, .aaload, 1, 0, 0, 0, [], []) := rfl
theorem k57_8 : az_cd 57 8 = some (14, .iload_n 2, 1, 0, 0, 0, [], []) := rfl
theorem k57_9 : az_cd 57 9 = some (15, .invokevirtual 40, 3, 25, 1, 0, [], [627, 479, 45, 481, 480]) := rfl
theorem k57_10 : az_cd 57 10 = some (18, .goto 5, 3, 12, 0, 0, [], []) := rfl
theorem k57_11 : az_cd 57 11 = some (21, .bipush (-5), 2, 0, 0, (-5), [], []) := rfl
theorem k57_12 : az_cd 57 12 = some (23, .ireturn, 1, 0, 0, 0, [], []) := rfl
theorem k58_0 : az_cd 58 0 = some (0, .iconst 0, 1, 0, 0, 0, [], []) := rfl
theorem k58_1 : az_cd 58 1 = some (1, .istore_n 2, 1, 0, 0, 0, [], []) := rfl
theorem k58_2 : az_cd 58 2 = some (2, .iload_n 2, 1, 0, 0, 0, [], []) := rfl
theorem k58_3 : az_cd 58 3 = some (3, .iconst 4, 1, 0, 0, 4, [], []) := rfl
theorem k58_4 : az_cd 58 4 = some (4, .if_icmp .ge 36, 3, 24, 0, 0, [], []) := rfl
theorem k58_5 : az_cd 58 5 = some (7, .aload_n 0, 1, 0, 0, 0, [], []) := rfl
theorem k58_6 : az_cd 58 6 = some (8, .getfield 9, 3, 5, 0, 0, [], [146]) := rfl
theorem k58_7 : az_cd 58 7 = some (11, .iload_n 2, 1, 0, 0, 0, [], []) := rfl
theorem k58_8 : az_cd 58 8 = some (12, .aload_n 1, 1, 0, 0, 0, [], []) := rfl
theorem k58_9 : az_cd 58 9 = some (13, .getfield 9, 3, 5, 0, 0, [], [146]) := rfl
theorem k58_10 : az_cd 58 10 = some (16, .iload_n 2, 1, 0, 0, 0, [], []) := rfl
theorem k58_11 : az_cd 58 11 = some (17, .baload, 1, 0, 0, 0, [], []) := rfl
theorem k58_12 : az_cd 58 12 = some (18, .bastore, 1, 0, 0, 0, [], []) := rfl
theorem k58_13 : az_cd 58 13 = some (19, .aload_n 0, 1, 0, 0, 0, [], []) := rfl
theorem k58_14 : az_cd 58 14 = some (20, .getfield 17, 3, 5, 1, 0, [], [147]) := rfl
theorem k58_15 : az_cd 58 15 = some (23, .iload_n 2, 1, 0, 0, 0, [], []) := rfl
theorem k58_16 : az_cd 58 16 = some (24, .aaload, 1, 0, 0, 0, [], []) := rfl
theorem k58_17 : az_cd 58 17 = some (25, .aload_n 1, 1, 0, 0, 0, [], []) := rfl
theorem k58_18 : az_cd 58 18 = some (26, .getfield 17, 3, 5, 1, 0, [], [147]) := rfl
theorem k58_19 : az_cd 58 19 = some (29, .iload_n 2, 1, 0, 0, 0, [], []) := rfl
theorem k58_20 : az_cd 58 20 = some (30, .aaload, 1, 0, 0, 0, [], []) := rfl
theorem k58_21 : az_cd 58 21 = some (31, .invokevirtual 28, 3, 30, 1, 0, [], [301, 283, 45, 285, 284]) := rfl
theorem k58_22 : az_cd 58 22 = some (34, .iinc 2 1, 3, 0, 0, 1, [], []) := rfl
theorem k58_23 : az_cd 58 23 = some (37, .goto (-35), 3, 2, 0, 0, [], []) := rfl
theorem k58_24 : az_cd 58 24 = some (40, .return_, 1, 0, 0, 0, [], []) := rfl
theorem k59_0 : az_cd 59 0 = some (0, .aload_n 0, 1, 0, 0, 0, [], []) := rfl
theorem k59_1 : az_cd 59 1 = some (1, .invokespecial 3, 3, 196, 0, 2, [], [68, 61, 62]) := rfl
theorem k59_2 : az_cd 59 2 = some (4, .aload_n 0, 1, 0, 0, 0, [], []) := rfl
theorem k59_3 : az_cd 59 3 = some (5, .new 9, 3, 0, 3, 0, [], [69, 70, 44]) := rfl
theorem k59_4 : az_cd 59 4 = some (8, .dup, 1, 0, 0, 0, [], []) := rfl
theorem k59_5 : az_cd 59 5 = some (9, .invokespecial 11, 3, 1, 0, 0, [], [71, 72, 44, 73]) := rfl
theorem k59_6 : az_cd 59 6 = some (12, .putfield 12, 3, 6, 0, 0, [], [154]) := rfl
theorem k59_7 : az_cd 59 7 = some (15, .aload_n 0, 1, 0, 0, 0, [], []) := rfl
theorem k59_8 : az_cd 59 8 = some (16, .new 18, 3, 2, 3, 0, [], [92, 93, 45]) := rfl
theorem k59_9 : az_cd 59 9 = some (19, .dup, 1, 0, 0, 0, [], []) := rfl
theorem k59_10 : az_cd 59 10 = some (20, .iconst 1, 1, 0, 0, 1, [], []) := rfl
theorem k59_11 : az_cd 59 11 = some (21, .invokespecial 20, 3, 21, 1, 0, [], [94, 95, 45, 96]) := rfl
theorem k59_12 : az_cd 59 12 = some (24, .putfield 23, 3, 6, 1, 0, [], [156]) := rfl
theorem k59_13 : az_cd 59 13 = some (27, .aload_n 0, 1, 0, 0, 0, [], []) := rfl
theorem k59_14 : az_cd 59 14 = some (28, .new 18, 3, 2, 3, 0, [], [92, 93, 45]) := rfl
theorem k59_15 : az_cd 59 15 = some (31, .dup, 1, 0, 0, 0, [], []) := rfl
theorem k59_16 : az_cd 59 16 = some (32, .iconst 0, 1, 0, 0, 0, [], []) := rfl
theorem k59_17 : az_cd 59 17 = some (33, .invokespecial 20, 3, 21, 1, 0, [], [94, 95, 45, 96]) := rfl
theorem k59_18 : az_cd 59 18 = some (36, .putfield 27, 3, 6, 2, 0, [], [157]) := rfl
theorem k59_19 : az_cd 59 19 = some (39, .aload_n 0, 1, 0, 0, 0, [], []) := rfl
theorem k59_20 : az_cd 59 20 = some (40, .new 30, 3, 1, 1, 0, [], [109, 110, 46]) := rfl
theorem k59_21 : az_cd 59 21 = some (43, .dup, 1, 0, 0, 0, [], []) := rfl
theorem k59_22 : az_cd 59 22 = some (44, .invokespecial 32, 3, 12, 0, 0, [], [111, 112, 46, 113]) := rfl
theorem k59_23 : az_cd 59 23 = some (47, .putfield 33, 3, 6, 3, 0, [], [158]) := rfl
theorem k59_24 : az_cd 59 24 = some (50, .aload_n 0, 1, 0, 0, 0, [], []) := rfl
theorem k59_25 : az_cd 59 25 = some (51, .new 37, 3, 7, 3, 0, [], [120, 121, 47]) := rfl
theorem k59_26 : az_cd 59 26 = some (54, .dup, 1, 0, 0, 0, [], []) := rfl
theorem k59_27 : az_cd 59 27 = some (55, .invokespecial 39, 3, 83, 0, 0, [], [122, 123, 47, 124]) := rfl
theorem k59_28 : az_cd 59 28 = some (58, .putfield 40, 3, 6, 4, 0, [], [160]) := rfl
theorem k59_29 : az_cd 59 29 = some (61, .aload_n 0, 1, 0, 0, 0, [], []) := rfl
theorem k59_30 : az_cd 59 30 = some (62, .new 44, 3, 5, 2, 0, [], [137, 138, 48]) := rfl
theorem k59_31 : az_cd 59 31 = some (65, .dup, 1, 0, 0, 0, [], []) := rfl
theorem k59_32 : az_cd 59 32 = some (66, .invokespecial 46, 3, 48, 0, 0, [], [139, 140, 48, 141]) := rfl
theorem k59_33 : az_cd 59 33 = some (69, .putfield 47, 3, 6, 5, 0, [], [162]) := rfl
theorem k59_34 : az_cd 59 34 = some (72, .aload_n 0, 1, 0, 0, 0, [], []) := rfl
theorem k59_35 : az_cd 59 35 = some (73, .iconst 0, 1, 0, 0, 0, [], []) := rfl
theorem k59_36 : az_cd 59 36 = some (74, .putfield 51, 3, 6, 6, 0, [], [164]) := rfl
theorem k59_37 : az_cd 59 37 = some (77, .aload_n 0, 1, 0, 0, 0, [], []) := rfl
theorem k59_38 : az_cd 59 38 = some (78, .iconst 0, 1, 0, 0, 0, [], []) := rfl
theorem k59_39 : az_cd 59 39 = some (79, .putfield 55, 3, 6, 7, 0, [], [165]) := rfl
theorem k59_40 : az_cd 59 40 = some (82, .aload_n 0, 1, 0, 0, 0, [], []) := rfl
theorem k59_41 : az_cd 59 41 = some (83, .iconst 0, 1, 0, 0, 0, [], []) := rfl
theorem k59_42 : az_cd 59 42 = some (84, .putfield 58, 3, 6, 8, 0, [], [166]) := rfl
theorem k59_43 : az_cd 59 43 = some (87, .return_, 1, 0, 0, 0, [], []) := rfl
theorem k60_0 : az_cd 60 0 = some (0, .aload_n 0, 1, 0, 0, 0, [], []) := rfl
theorem k60_1 : az_cd 60 1 = some (1, .getfield 51, 3, 6, 6, 0, [], [164]) := rfl
theorem k60_2 : az_cd 60 2 = some (4, .ireturn, 1, 0, 0, 0, [], []) := rfl
theorem k61_0 : az_cd 61 0 = some (0, .aload_n 0, 1, 0, 0, 0, [], []) := rfl
theorem k61_1 : az_cd 61 1 = some (1, .getfield 55, 3, 6, 7, 0, [], [165]) := rfl
theorem k61_2 : az_cd 61 2 = some (4, .ireturn, 1, 0, 0, 0, [], []) := rfl
theorem k62_0 : az_cd 62 0 = some (0, .aload_n 0, 1, 0, 0, 0, [], []) := rfl
theorem k62_1 : az_cd 62 1 = some (1, .getfield 58, 3, 6, 8, 0, [], [166]) := rfl
theorem k62_2 : az_cd 62 2 = some (4, .ireturn, 1, 0, 0, 0, [], []) := rfl
theorem k63_0 : az_cd 63 0 = some (0, .iload_n 1, 1, 0, 0, 0, [], []) := rfl
theorem k63_1 : az_cd 63 1 = some (1, .ifCond .ne 10, 3, 5, 0, 0, [], []) := rfl
theorem k63_2 : az_cd 63 2 = some (4, .aload_n 0, 1, 0, 0, 0, [], []) := rfl
theorem k63_3 : az_cd 63 3 = some (5, .getfield 23, 3, 6, 1, 0, [], [156]) := rfl
theorem k63_4 : az_cd 63 4 = some (8, .goto 7, 3, 7, 0, 0, [], []) := rfl
theorem k63_5 : az_cd 63 5 = some (11, .aload_n 0, 1, 0, 0, 0, [], []) := rfl
theorem k63_6 : az_cd 63 6 = some (12, .getfield 27, 3, 6, 2, 0, [], [157]) := rfl
theorem k63_7 : az_cd 63 7 = some (15, .areturn, 1, 0, 0, 0, [], []) := rfl
theorem k64_0 : az_cd 64 0 = some (0, .aload_n 0, 1, 0, 0, 0, [], []) := rfl
theorem k64_1 : az_cd 64 1 = some (1, .aload_n 0, 1, 0, 0, 0, [], []) := rfl
theorem k64_2 : az_cd 64 2 = some (2, .getfield 51, 3, 6, 6, 0, [], [164]) := rfl
theorem k64_3 : az_cd 64 3 = some (5, .invokevirtual 61, 3, 63, 1, 0, [], [407, 408, 43, 410, 409]) := rfl
theorem k64_4 : az_cd 64 4 = some (8, .areturn, 1, 0, 0, 0, [], []) := rfl
theorem k65_0 : az_cd 65 0 = some (0, .aload_n 0, 1, 0, 0, 0, [], []) := rfl
theorem k65_1 : az_cd 65 1 = some (1, .getfield 12, 3, 6, 0, 0, [], [154]) := rfl
theorem k65_2 : az_cd 65 2 = some (4, .aload_n 0, 1, 0, 0, 0, [], []) := rfl
theorem k65_3 : az_cd 65 3 = some (5, .invokevirtual 65, 3, 64, 0, 0, [], [403, 404, 43, 406, 405]) := rfl
theorem k65_4 : az_cd 65 4 = some (8, .iload_n 1, 1, 0, 0, 0, [], []) := rfl
theorem k65_5 : az_cd 65 5 = some (9, .invokevirtual 69, 3, 25, 1, 0, [], [478, 479, 45, 481, 480]) := rfl
theorem k65_6 : az_cd 65 6 = some (12, .invokevirtual 73, 3, 4, 1, 0, [], [605, 606, 44, 608, 607]) := rfl
theorem k65_7 : az_cd 65 7 = some (15, .ireturn, 1, 0, 0, 0, [], []) := rfl
theorem k66_0 : az_cd 66 0 = some (0, .aload_n 0, 1, 0, 0, 0, [], []) := rfl
theorem k66_1 : az_cd 66 1 = some (1, .getfield 33, 3, 6, 3, 0, [], [158]) := rfl
theorem k66_2 : az_cd 66 2 = some (4, .iload_n 1, 1, 0, 0, 0, [], []) := rfl
theorem k66_3 : az_cd 66 3 = some (5, .invokevirtual 76, 3, 14, 1, 0, [], [469, 470, 46, 472, 471]) := rfl
theorem k66_4 : az_cd 66 4 = some (8, .ifCond .eq 14, 3, 10, 0, 0, [], []) := rfl
theorem k66_5 : az_cd 66 5 = some (11, .aload_n 0, 1, 0, 0, 0, [], []) := rfl
theorem k66_6 : az_cd 66 6 = some (12, .getfield 33, 3, 6, 3, 0, [], [158]) := rfl
theorem k66_7 : az_cd 66 7 = some (15, .iload_n 1, 1, 0, 0, 0, [], []) := rfl
theorem k66_8 : az_cd 66 8 = some (16, .invokevirtual 80, 3, 13, 1, 0, [], [443, 260, 46, 262, 261]) := rfl
theorem k66_9 : az_cd 66 9 = some (19, .goto 8, 3, 13, 0, 0, [], []) := rfl
theorem k66_10 : az_cd 66 10 = some (22, .aload_n 0, 1, 0, 0, 0, [], []) := rfl
theorem k66_11 : az_cd 66 11 = some (23, .iload_n 1, 1, 0, 0, 0, [], []) := rfl
theorem k66_12 : az_cd 66 12 = some (24, .invokevirtual 83, 3, 65, 1, 0, [], [617, 602, 43, 604, 603]) := rfl
theorem k66_13 : az_cd 66 13 = some (27, .ireturn, 1, 0, 0, 0, [], []) := rfl
theorem k67_0 : az_cd 67 0 = some (0, .aload_n 0, 1, 0, 0, 0, [], []) := rfl
theorem k67_1 : az_cd 67 1 = some (1, .invokevirtual 65, 3, 64, 0, 0, [], [403, 404, 43, 406, 405]) := rfl
theorem k67_2 : az_cd 67 2 = some (4, .iload_n 1, 1, 0, 0, 0, [], []) := rfl
theorem k67_3 : az_cd 67 3 = some (5, .invokevirtual 86, 3, 27, 1, 0, [], [411, 412, 45, 414, 413]) := rfl
theorem k67_4 : az_cd 67 4 = some (8, .bipush (-5), 2, 0, 0, (-5), [], []) := rfl
theorem k67_5 : az_cd 67 5 = some (10, .if_icmp .ne 31, 3, 19, 0, 0, [], []) := rfl
theorem k67_6 : az_cd 67 6 = some (13, .aload_n 0, 1, 0, 0, 0, [], []) := rfl
theorem k67_7 : az_cd 67 7 = some (14, .getfield 47, 3, 6, 5, 0, [], [162]) := rfl
theorem k67_8 : az_cd 67 8 = some (17, .iload_n 1, 1, 0, 0, 0, [], []) := rfl
theorem k67_9 : az_cd 67 9 = some (18, .invokevirtual 89, 3, 52, 1, 0, [], [415, 416, 48, 418, 417]) := rfl
theorem k67_10 : az_cd 67 10 = some (21, .ifCond .ne 20, 3, 19, 0, 0, [], []) := rfl
theorem k67_11 : az_cd 67 11 = some (24, .aload_n 0, 1, 0, 0, 0, [], []) := rfl
theorem k67_12 : az_cd 67 12 = some (25, .getfield 40, 3, 6, 4, 0, [], [160]) := rfl
theorem k67_13 : az_cd 67 13 = some (28, .iload_n 1, 1, 0, 0, 0, [], []) := rfl
theorem k67_14 : az_cd 67 14 = some (29, .invokevirtual 92, 3, 91, 1, 0, [], [420, 421, 47, 423, 422]) := rfl
theorem k67_15 : az_cd 67 15 = some (32, .bipush (-5), 2, 0, 0, (-5), [], []) := rfl
theorem k67_16 : az_cd 67 16 = some (34, .if_icmp .ne 7, 3, 19, 0, 0, [], []) := rfl
theorem k67_17 : az_cd 67 17 = some (37, .iconst 1, 1, 0, 0, 1, [], []) := rfl
theorem k67_18 : az_cd 67 18 = some (38, .goto 4, 3, 20, 0, 0, [], []) := rfl
theorem k67_19 : az_cd 67 19 = some (41, .iconst 0, 1, 0, 0, 0, [], []) := rfl
theorem k67_20 : az_cd 67 20 = some (42, .ireturn, 1, 0, 0, 0, [], []) := rfl
theorem k68_0 : az_cd 68 0 = some (0, .iconst 0, 1, 0, 0, 0, [], []) := rfl
theorem k68_1 : az_cd 68 1 = some (1, .istore_n 1, 1, 0, 0, 0, [], []) := rfl
theorem k68_2 : az_cd 68 2 = some (2, .iconst 0, 1, 0, 0, 0, [], []) := rfl
theorem k68_3 : az_cd 68 3 = some (3, .istore_n 2, 1, 0, 0, 0, [], []) := rfl
theorem k68_4 : az_cd 68 4 = some (4, .iload_n 2, 1, 0, 0, 0, [], []) := rfl
theorem k68_5 : az_cd 68 5 = some (5, .bipush 24, 2, 0, 0, 24, [], []) := rfl
theorem k68_6 : az_cd 68 6 = some (7, .if_icmp .ge 20, 3, 14, 0, 0, [], []) := rfl
theorem k68_7 : az_cd 68 7 = some (10, .aload_n 0, 1, 0, 0, 0, [], []) := rfl
theorem k68_8 : az_cd 68 8 = some (11, .iload_n 2, 1, 0, 0, 0, [], []) := rfl
theorem k68_9 : az_cd 68 9 = some (12, .invokevirtual 95, 3, 67, 1, 0, [], [399, 400, 43, 402, 401]) := rfl
theorem k68_10 : az_cd 68 10 = some (15, .ifCond .eq 6, 3, 12, 0, 0, [], []) := rfl
theorem k68_11 : az_cd 68 11 = some (18, .iinc 1 1, 3, 0, 0, 1, [], []) := rfl
theorem k68_12 : az_cd 68 12 = some (21, .iinc 2 1, 3, 0, 0, 1, [], []) := rfl
theorem k68_13 : az_cd 68 13 = some (24, .goto (-20), 3, 4, 0, 0, [], []) := rfl
theorem k68_14 : az_cd 68 14 = some (27, .iload_n 1, 1, 0, 0, 0, [], []) := rfl
theorem k68_15 : az_cd 68 15 = some (28, .ireturn, 1, 0, 0, 0, [], []) := rfl
theorem k69_0 : az_cd 69 0 = some (0, .iconst 0, 1, 0, 0, 0, [], []) := rfl
theorem k69_1 : az_cd 69 1 = some (1, .istore_n 1, 1, 0, 0, 0, [], []) := rfl
theorem k69_2 : az_cd 69 2 = some (2, .iconst 0, 1, 0, 0, 0, [], []) := rfl
theorem k69_3 : az_cd 69 3 = some (3, .istore_n 2, 1, 0, 0, 0, [], []) := rfl
theorem k69_4 : az_cd 69 4 = some (4, .iload_n 2, 1, 0, 0, 0, [], []) := rfl
theorem k69_5 : az_cd 69 5 = some (5, .bipush 24, 2, 0, 0, 24, [], []) := rfl
theorem k69_6 : az_cd 69 6 = some (7, .if_icmp .ge 49, 3, 27, 0, 0, [], []) := rfl
theorem k69_7 : az_cd 69 7 = some (10, .aload_n 0, 1, 0, 0, 0, [], []) := rfl
theorem k69_8 : az_cd 69 8 = some (11, .getfield 47, 3, 6, 5, 0, [], [162]) := rfl
theorem k69_9 : az_cd 69 9 = some (14, .iload_n 2, 1, 0, 0, 0, [], []) := rfl
theorem k69_10 : az_cd 69 10 = some (15, .invokevirtual 89, 3, 52, 1, 0, [], [415, 416, 48, 418, 417]) := rfl
theorem k69_11 : az_cd 69 11 = some (18, .ifCond .le 32, 3, 25, 0, 0, [], []) := rfl
theorem k69_12 : az_cd 69 12 = some (21, .aload_n 0, 1, 0, 0, 0, [], []) := rfl
theorem k69_13 : az_cd 69 13 = some (22, .invokevirtual 65, 3, 64, 0, 0, [], [403, 404, 43, 406, 405]) := rfl
theorem k69_14 : az_cd 69 14 = some (25, .iload_n 2, 1, 0, 0, 0, [], []) := rfl
theorem k69_15 : az_cd 69 15 = some (26, .invokevirtual 86, 3, 27, 1, 0, [], [411, 412, 45, 414, 413]) := rfl
theorem k69_16 : az_cd 69 16 = some (29, .bipush (-5), 2, 0, 0, (-5), [], []) := rfl
theorem k69_17 : az_cd 69 17 = some (31, .if_icmp .ne 19, 3, 25, 0, 0, [], []) := rfl
theorem k69_18 : az_cd 69 18 = some (34, .aload_n 0, 1, 0, 0, 0, [], []) := rfl
theorem k69_19 : az_cd 69 19 = some (35, .getfield 40, 3, 6, 4, 0, [], [160]) := rfl
theorem k69_20 : az_cd 69 20 = some (38, .iload_n 2, 1, 0, 0, 0, [], []) := rfl
theorem k69_21 : az_cd 69 21 = some (39, .invokevirtual 92, 3, 91, 1, 0, [], [420, 421, 47, 423, 422]) := rfl
theorem k69_22 : az_cd 69 22 = some (42, .bipush (-5), 2, 0, 0, (-5), [], []) := rfl
theorem k69_23 : az_cd 69 23 = some (44, .if_icmp .ne 6, 3, 25, 0, 0, [], []) := rfl
theorem k69_24 : az_cd 69 24 = some (47, .iinc 1 1, 3, 0, 0, 1, [], []) := rfl
theorem k69_25 : az_cd 69 25 = some (50, .iinc 2 1, 3, 0, 0, 1, [], []) := rfl
theorem k69_26 : az_cd 69 26 = some (53, .goto (-49), 3, 4, 0, 0, [], []) := rfl
theorem k69_27 : az_cd 69 27 = some (56, .iload_n 1, 1, 0, 0, 0, [], []) := rfl
theorem k69_28 : az_cd 69 28 = some (57, .ireturn, 1, 0, 0, 0, [], []) := rfl
theorem k70_0 : az_cd 70 0 = some (0, .bipush (-5), 2, 0, 0, (-5), [], []) := rfl
theorem k70_1 : az_cd 70 1 = some (2, .istore_n 1, 1, 0, 0, 0, [], []) := rfl
theorem k70_2 : az_cd 70 2 = some (3, .iconst 0, 1, 0, 0, 0, [], []) := rfl
theorem k70_3 : az_cd 70 3 = some (4, .istore_n 2, 1, 0, 0, 0, [], []) := rfl
theorem k70_4 : az_cd 70 4 = some (5, .iload_n 2, 1, 0, 0, 0, [], []) := rfl
theorem k70_5 : az_cd 70 5 = some (6, .bipush 24, 2, 0, 0, 24, [], []) := rfl
theorem k70_6 : az_cd 70 6 = some (8, .if_icmp .ge 44, 3, 27, 0, 0, [], []) := rfl
theorem k70_7 : az_cd 70 7 = some (11, .aload_n 0, 1, 0, 0, 0, [], []) := rfl
theorem k70_8 : az_cd 70 8 = some (12, .iload_n 2, 1, 0, 0, 0, [], []) := rfl
theorem k70_9 : az_cd 70 9 = some (13, .invokevirtual 95, 3, 67, 1, 0, [], [399, 400, 43, 402, 401]) := rfl
theorem k70_10 : az_cd 70 10 = some (16, .ifCond .eq 30, 3, 25, 0, 0, [], []) := rfl
theorem k70_11 : az_cd 70 11 = some (19, .iload_n 1, 1, 0, 0, 0, [], []) := rfl
theorem k70_12 : az_cd 70 12 = some (20, .bipush (-5), 2, 0, 0, (-5), [], []) := rfl
theorem k70_13 : az_cd 70 13 = some (22, .if_icmp .eq 22, 3, 23, 0, 0, [], []) := rfl
theorem k70_14 : az_cd 70 14 = some (25, .aload_n 0, 1, 0, 0, 0, [], []) := rfl
theorem k70_15 : az_cd 70 15 = some (26, .getfield 12, 3, 6, 0, 0, [], [154]) := rfl
theorem k70_16 : az_cd 70 16 = some (29, .iload_n 2, 1, 0, 0, 0, [], []) := rfl
theorem k70_17 : az_cd 70 17 = some (30, .invokevirtual 98, 3, 6, 1, 0, [], [424, 425, 44, 427, 426]) := rfl
theorem k70_18 : az_cd 70 18 = some (33, .aload_n 0, 1, 0, 0, 0, [], []) := rfl
theorem k70_19 : az_cd 70 19 = some (34, .getfield 12, 3, 6, 0, 0, [], [154]) := rfl
theorem k70_20 : az_cd 70 20 = some (37, .iload_n 1, 1, 0, 0, 0, [], []) := rfl
theorem k70_21 : az_cd 70 21 = some (38, .invokevirtual 98, 3, 6, 1, 0, [], [424, 425, 44, 427, 426]) := rfl
theorem k70_22 : az_cd 70 22 = some (41, .if_icmp .ge 5, 3, 25, 0, 0, [], []) := rfl
theorem k70_23 : az_cd 70 23 = some (44, .iload_n 2, 1, 0, 0, 0, [], []) := rfl
theorem k70_24 : az_cd 70 24 = some (45, .istore_n 1, 1, 0, 0, 0, [], []) := rfl
theorem k70_25 : az_cd 70 25 = some (46, .iinc 2 1, 3, 0, 0, 1, [], []) := rfl
theorem k70_26 : az_cd 70 26 = some (49, .goto (-44), 3, 4, 0, 0, [], []) := rfl
theorem k70_27 : az_cd 70 27 = some (52, .iload_n 1, 1, 0, 0, 0, [], []) := rfl
theorem k70_28 : az_cd 70 28 = some (53, .ireturn, 1, 0, 0, 0, [], []) := rfl
theorem k71_0 : az_cd 71 0 = some (0, .aload_n 0, 1, 0, 0, 0, [], []) := rfl
theorem k71_1 : az_cd 71 1 = some (1, .getfield 40, 3, 6, 4, 0, [], [160]) := rfl
theorem k71_2 : az_cd 71 2 = some (4, .invokevirtual 101, 3, 84, 0, 0, [], [369, 256, 47, 258, 257]) := rfl
theorem k71_3 : az_cd 71 3 = some (7, .ifCond .eq 23, 3, 14, 0, 0, [], []) := rfl
theorem k71_4 : az_cd 71 4 = some (10, .aload_n 0, 1, 0, 0, 0, [], []) := rfl
theorem k71_5 : az_cd 71 5 = some (11, .getfield 33, 3, 6, 3, 0, [], [158]) := rfl
theorem k71_6 : az_cd 71 6 = some (14, .invokevirtual 105, 3, 18, 0, 0, [], [370, 371, 46, 373, 372]) := rfl
theorem k71_7 : az_cd 71 7 = some (17, .iconst 2, 1, 0, 0, 2, [], []) := rfl
theorem k71_8 : az_cd 71 8 = some (18, .iadd, 1, 0, 0, 0, [], []) := rfl
theorem k71_9 : az_cd 71 9 = some (19, .aload_n 0, 1, 0, 0, 0, [], []) := rfl
theorem k71_10 : az_cd 71 10 = some (20, .getfield 40, 3, 6, 4, 0, [], [160]) := rfl
theorem k71_11 : az_cd 71 11 = some (23, .invokevirtual 109, 3, 85, 0, 0, [], [374, 375, 47, 377, 376]) := rfl
theorem k71_12 : az_cd 71 12 = some (26, .isub, 1, 0, 0, 0, [], []) := rfl
theorem k71_13 : az_cd 71 13 = some (27, .goto 4, 3, 15, 0, 0, [], []) := rfl
theorem k71_14 : az_cd 71 14 = some (30, .iconst 0, 1, 0, 0, 0, [], []) := rfl
theorem k71_15 : az_cd 71 15 = some (31, .ireturn, 1, 0, 0, 0, [], []) := rfl
theorem k72_0 : az_cd 72 0 = some (0, .aload_n 0, 1, 0, 0, 0, [], []) := rfl
theorem k72_1 : az_cd 72 1 = some (1, .invokevirtual 112, 3, 71, 0, 0, [], [394, 366, 43, 368, 367]) := rfl
theorem k72_2 : az_cd 72 2 = some (4, .iconst 2, 1, 0, 0, 2, [], []) := rfl
theorem k72_3 : az_cd 72 3 = some (5, .isub, 1, 0, 0, 0, [], []) := rfl
theorem k72_4 : az_cd 72 4 = some (6, .istore_n 1, 1, 0, 0, 0, [], []) := rfl
theorem k72_5 : az_cd 72 5 = some (7, .iload_n 1, 1, 0, 0, 0, [], []) := rfl
theorem k72_6 : az_cd 72 6 = some (8, .ifCond .le 7, 3, 9, 0, 0, [], []) := rfl
theorem k72_7 : az_cd 72 7 = some (11, .iload_n 1, 1, 0, 0, 0, [], []) := rfl
theorem k72_8 : az_cd 72 8 = some (12, .goto 4, 3, 10, 0, 0, [], []) := rfl
theorem k72_9 : az_cd 72 9 = some (15, .iconst 0, 1, 0, 0, 0, [], []) := rfl
theorem k72_10 : az_cd 72 10 = some (16, .ireturn, 1, 0, 0, 0, [], []) := rfl
theorem k73_0 : az_cd 73 0 = some (0, .iload_n 1, 1, 0, 0, 0, [], []) := rfl
theorem k73_1 : az_cd 73 1 = some (1, .aload_n 0, 1, 0, 0, 0, [], []) := rfl
theorem k73_2 : az_cd 73 2 = some (2, .invokevirtual 115, 3, 72, 0, 0, [], [390, 391, 43, 393, 392]) := rfl
theorem k73_3 : az_cd 73 3 = some (5, .if_icmp .ge 5, 3, 6, 0, 0, [], []) := rfl
theorem k73_4 : az_cd 73 4 = some (8, .iconst 0, 1, 0, 0, 0, [], []) := rfl
theorem k73_5 : az_cd 73 5 = some (9, .ireturn, 1, 0, 0, 0, [], []) := rfl
theorem k73_6 : az_cd 73 6 = some (10, .iload_n 1, 1, 0, 0, 0, [], []) := rfl
theorem k73_7 : az_cd 73 7 = some (11, .aload_n 0, 1, 0, 0, 0, [], []) := rfl
theorem k73_8 : az_cd 73 8 = some (12, .invokevirtual 112, 3, 71, 0, 0, [], [394, 366, 43, 368, 367]) := rfl
theorem k73_9 : az_cd 73 9 = some (15, .iconst 1, 1, 0, 0, 1, [], []) := rfl
theorem k73_10 : az_cd 73 10 = some (16, .isub, 1, 0, 0, 0, [], []) := rfl
theorem k73_11 : az_cd 73 11 = some (17, .if_icmp .ne 7, 3, 14, 0, 0, [], []) := rfl
theorem k73_12 : az_cd 73 12 = some (20, .iconst 2, 1, 0, 0, 2, [], []) := rfl
theorem k73_13 : az_cd 73 13 = some (21, .goto 4, 3, 15, 0, 0, [], []) := rfl
theorem k73_14 : az_cd 73 14 = some (24, .iconst 1, 1, 0, 0, 1, [], []) := rfl
theorem k73_15 : az_cd 73 15 = some (25, .ireturn, 1, 0, 0, 0, [], []) := rfl
theorem k74_0 : az_cd 74 0 = some (0, .aload_n 0, 1, 0, 0, 0, [], []) := rfl
theorem k74_1 : az_cd 74 1 = some (1, .iload_n 1, 1, 0, 0, 0, [], []) := rfl
theorem k74_2 : az_cd 74 2 = some (2, .invokevirtual 118, 3, 73, 1, 0, [], [386, 387, 43, 389, 388]) := rfl
theorem k74_3 : az_cd 74 3 = some (5, .ifCond .eq 6, 3, 6, 0, 0, [], []) := rfl
theorem k74_4 : az_cd 74 4 = some (8, .bipush (-5), 2, 0, 0, (-5), [], []) := rfl
theorem k74_5 : az_cd 74 5 = some (10, .ireturn, 1, 0, 0, 0, [], []) := rfl
theorem k74_6 : az_cd 74 6 = some (11, .aload_n 0, 1, 0, 0, 0, [], []) := rfl
theorem k74_7 : az_cd 74 7 = some (12, .getfield 33, 3, 6, 3, 0, [], [158]) := rfl
theorem k74_8 : az_cd 74 8 = some (15, .aload_n 0, 1, 0, 0, 0, [], []) := rfl
theorem k74_9 : az_cd 74 9 = some (16, .getfield 40, 3, 6, 4, 0, [], [160]) := rfl
theorem k74_10 : az_cd 74 10 = some (19, .invokevirtual 109, 3, 85, 0, 0, [], [374, 375, 47, 377, 376]) := rfl
theorem k74_11 : az_cd 74 11 = some (22, .iload_n 1, 1, 0, 0, 0, [], []) := rfl
theorem k74_12 : az_cd 74 12 = some (23, .iadd, 1, 0, 0, 0, [], []) := rfl
theorem k74_13 : az_cd 74 13 = some (24, .invokevirtual 121, 3, 19, 1, 0, [], [439, 440, 46, 442, 441]) := rfl
theorem k74_14 : az_cd 74 14 = some (27, .ireturn, 1, 0, 0, 0, [], []) := rfl
theorem k75_0 : az_cd 75 0 = some (0, .aload_n 0, 1, 0, 0, 0, [], []) := rfl
theorem k75_1 : az_cd 75 1 = some (1, .getfield 40, 3, 6, 4, 0, [], [160]) := rfl
theorem k75_2 : az_cd 75 2 = some (4, .invokevirtual 101, 3, 84, 0, 0, [], [369, 256, 47, 258, 257]) := rfl
theorem k75_3 : az_cd 75 3 = some (7, .ifCond .eq 24, 3, 14, 0, 0, [], []) := rfl
theorem k75_4 : az_cd 75 4 = some (10, .aload_n 0, 1, 0, 0, 0, [], []) := rfl
theorem k75_5 : az_cd 75 5 = some (11, .iconst 0, 1, 0, 0, 0, [], []) := rfl
theorem k75_6 : az_cd 75 6 = some (12, .invokevirtual 118, 3, 73, 1, 0, [], [386, 387, 43, 389, 388]) := rfl
theorem k75_7 : az_cd 75 7 = some (15, .ifCond .ne 12, 3, 12, 0, 0, [], []) := rfl
theorem k75_8 : az_cd 75 8 = some (18, .aload_n 0, 1, 0, 0, 0, [], []) := rfl
theorem k75_9 : az_cd 75 9 = some (19, .invokevirtual 124, 3, 70, 0, 0, [], [395, 397, 43, 398, 4]) := rfl
theorem k75_10 : az_cd 75 10 = some (22, .bipush (-5), 2, 0, 0, (-5), [], []) := rfl
theorem k75_11 : az_cd 75 11 = some (24, .if_icmp .eq 7, 3, 14, 0, 0, [], []) := rfl
theorem k75_12 : az_cd 75 12 = some (27, .iconst 1, 1, 0, 0, 1, [], []) := rfl
theorem k75_13 : az_cd 75 13 = some (28, .goto 4, 3, 15, 0, 0, [], []) := rfl
theorem k75_14 : az_cd 75 14 = some (31, .iconst 0, 1, 0, 0, 0, [], []) := rfl
theorem k75_15 : az_cd 75 15 = some (32, .ireturn, 1, 0, 0, 0, [], []) := rfl
theorem k76_0 : az_cd 76 0 = some (0, .aload_n 0, 1, 0, 0, 0, [], []) := rfl
theorem k76_1 : az_cd 76 1 = some (1, .iconst 0, 1, 0, 0, 0, [], []) := rfl
theorem k76_2 : az_cd 76 2 = some (2, .invokevirtual 118, 3, 73, 1, 0, [], [386, 387, 43, 389, 388]) := rfl
theorem k76_3 : az_cd 76 3 = some (5, .lookupswitch 49 #[(0, 27), (1, 34)], 27, 14, 0, 0, [4, 7], []) := rfl
theorem k76_4 : az_cd 76 4 = some (32, .aload_n 0, 1, 0, 0, 0, [], []) := rfl
theorem k76_5 : az_cd 76 5 = some (33, .invokevirtual 127, 3, 77, 0, 0, [], [435, 437, 43, 438, 5]) := rfl
theorem k76_6 : az_cd 76 6 = some (36, .goto 22, 3, 16, 0, 0, [], []) := rfl
theorem k76_7 : az_cd 76 7 = some (39, .aload_n 0, 1, 0, 0, 0, [], []) := rfl
theorem k76_8 : az_cd 76 8 = some (40, .iconst 0, 1, 0, 0, 0, [], []) := rfl
theorem k76_9 : az_cd 76 9 = some (41, .invokevirtual 130, 3, 78, 1, 0, [], [457, 459, 43, 460, 6]) := rfl
theorem k76_10 : az_cd 76 10 = some (44, .aload_n 0, 1, 0, 0, 0, [], []) := rfl
theorem k76_11 : az_cd 76 11 = some (45, .getfield 40, 3, 6, 4, 0, [], [160]) := rfl
theorem k76_12 : az_cd 76 12 = some (48, .invokevirtual 134, 3, 88, 0, 0, [], [453, 454, 47, 456, 455]) := rfl
theorem k76_13 : az_cd 76 13 = some (51, .goto 7, 3, 16, 0, 0, [], []) := rfl
theorem k76_14 : az_cd 76 14 = some (54, .aload_n 0, 1, 0, 0, 0, [], []) := rfl
theorem k76_15 : az_cd 76 15 = some (55, .invokevirtual 137, 3, 79, 0, 0, [], [487, 489, 43, 490, 7]) := rfl
theorem k76_16 : az_cd 76 16 = some (58, .return_, 1, 0, 0, 0, [], []) := rfl
theorem k77_0 : az_cd 77 0 = some (0, .aload_n 0, 1, 0, 0, 0, [], []) := rfl
theorem k77_1 : az_cd 77 1 = some (1, .getfield 33, 3, 6, 3, 0, [], [158]) := rfl
theorem k77_2 : az_cd 77 2 = some (4, .aload_n 0, 1, 0, 0, 0, [], []) := rfl
theorem k77_3 : az_cd 77 3 = some (5, .getfield 40, 3, 6, 4, 0, [], [160]) := rfl
theorem k77_4 : az_cd 77 4 = some (8, .invokevirtual 109, 3, 85, 0, 0, [], [374, 375, 47, 377, 376]) := rfl
theorem k77_5 : az_cd 77 5 = some (11, .invokevirtual 121, 3, 19, 1, 0, [], [439, 440, 46, 442, 441]) := rfl
theorem k77_6 : az_cd 77 6 = some (14, .istore_n 1, 1, 0, 0, 0, [], []) := rfl
theorem k77_7 : az_cd 77 7 = some (15, .aload_n 0, 1, 0, 0, 0, [], []) := rfl
theorem k77_8 : az_cd 77 8 = some (16, .invokevirtual 124, 3, 70, 0, 0, [], [395, 397, 43, 398, 4]) := rfl
theorem k77_9 : az_cd 77 9 = some (19, .istore_n 2, 1, 0, 0, 0, [], []) := rfl
theorem k77_10 : az_cd 77 10 = some (20, .aload_n 0, 1, 0, 0, 0, [], []) := rfl
theorem k77_11 : az_cd 77 11 = some (21, .getfield 12, 3, 6, 0, 0, [], [154]) := rfl
theorem k77_12 : az_cd 77 12 = some (24, .iload_n 2, 1, 0, 0, 0, [], []) := rfl
theorem k77_13 : az_cd 77 13 = some (25, .aload_n 0, 1, 0, 0, 0, [], []) := rfl
theorem k77_14 : az_cd 77 14 = some (26, .getfield 33, 3, 6, 3, 0, [], [158]) := rfl
theorem k77_15 : az_cd 77 15 = some (29, .iload_n 1, 1, 0, 0, 0, [], []) := rfl
theorem k77_16 : az_cd 77 16 = some (30, .invokevirtual 80, 3, 13, 1, 0, [], [443, 260, 46, 262, 261]) := rfl
theorem k77_17 : az_cd 77 17 = some (33, .iconst 0, 1, 0, 0, 0, [], []) := rfl
theorem k77_18 : az_cd 77 18 = some (34, .invokevirtual 140, 3, 3, 3, 0, [], [444, 445, 44, 447, 446]) := rfl
theorem k77_19 : az_cd 77 19 = some (37, .aload_n 0, 1, 0, 0, 0, [], []) := rfl
theorem k77_20 : az_cd 77 20 = some (38, .getfield 40, 3, 6, 4, 0, [], [160]) := rfl
theorem k77_21 : az_cd 77 21 = some (41, .iload_n 1, 1, 0, 0, 0, [], []) := rfl
theorem k77_22 : az_cd 77 22 = some (42, .iload_n 2, 1, 0, 0, 0, [], []) := rfl
theorem k77_23 : az_cd 77 23 = some (43, .invokevirtual 144, 3, 89, 2, 0, [], [448, 449, 47, 451, 450]) := rfl
theorem k77_24 : az_cd 77 24 = some (46, .aload_n 0, 1, 0, 0, 0, [], []) := rfl
theorem k77_25 : az_cd 77 25 = some (47, .getfield 40, 3, 6, 4, 0, [], [160]) := rfl
theorem k77_26 : az_cd 77 26 = some (50, .invokevirtual 134, 3, 88, 0, 0, [], [453, 454, 47, 456, 455]) := rfl
theorem k77_27 : az_cd 77 27 = some (53, .return_, 1, 0, 0, 0, [], []) := rfl
theorem k78_0 : az_cd 78 0 = some (0, .aload_n 0, 1, 0, 0, 0, [], []) := rfl
theorem k78_1 : az_cd 78 1 = some (1, .invokevirtual 65, 3, 64, 0, 0, [], [403, 404, 43, 406, 405]) := rfl
theorem k78_2 : az_cd 78 2 = some (4, .astore_n 2, 1, 0, 0, 0, [], []) := rfl
theorem k78_3 : az_cd 78 3 = some (5, .aload_n 0, 1, 0, 0, 0, [], []) := rfl
theorem k78_4 : az_cd 78 4 = some (6, .iconst 1, 1, 0, 0, 1, [], []) := rfl
theorem k78_5 : az_cd 78 5 = some (7, .aload_n 0, 1, 0, 0, 0, [], []) := rfl
theorem k78_6 : az_cd 78 6 = some (8, .getfield 51, 3, 6, 6, 0, [], [164]) := rfl
theorem k78_7 : az_cd 78 7 = some (11, .isub, 1, 0, 0, 0, [], []) := rfl
theorem k78_8 : az_cd 78 8 = some (12, .invokevirtual 61, 3, 63, 1, 0, [], [407, 408, 43, 410, 409]) := rfl
theorem k78_9 : az_cd 78 9 = some (15, .astore_n 3, 1, 0, 0, 0, [], []) := rfl
theorem k78_10 : az_cd 78 10 = some (16, .aload_n 3, 1, 0, 0, 0, [], []) := rfl
theorem k78_11 : az_cd 78 11 = some (17, .aload_n 2, 1, 0, 0, 0, [], []) := rfl
theorem k78_12 : az_cd 78 12 = some (18, .invokevirtual 148, 3, 22, 0, 0, [], [461, 462, 45, 464, 463]) := rfl
theorem k78_13 : az_cd 78 13 = some (21, .iconst 1, 1, 0, 0, 1, [], []) := rfl
theorem k78_14 : az_cd 78 14 = some (22, .iadd, 1, 0, 0, 0, [], []) := rfl
theorem k78_15 : az_cd 78 15 = some (23, .iload_n 1, 1, 0, 0, 0, [], []) := rfl
theorem k78_16 : az_cd 78 16 = some (24, .invokevirtual 151, 3, 24, 2, 0, [], [465, 466, 45, 468, 467]) := rfl
theorem k78_17 : az_cd 78 17 = some (27, .iconst 0, 1, 0, 0, 0, [], []) := rfl
theorem k78_18 : az_cd 78 18 = some (28, .istore 4, 2, 0, 0, 0, [], []) := rfl
theorem k78_19 : az_cd 78 19 = some (30, .iload 4, 2, 0, 0, 0, [], []) := rfl
theorem k78_20 : az_cd 78 20 = some (32, .bipush 8, 2, 0, 0, 8, [], []) := rfl
theorem k78_21 : az_cd 78 21 = some (34, .if_icmp .ge 45, 3, 40, 0, 0, [], []) := rfl
theorem k78_22 : az_cd 78 22 = some (37, .aload_n 3, 1, 0, 0, 0, [], []) := rfl
theorem k78_23 : az_cd 78 23 = some (38, .iload 4, 2, 0, 0, 0, [], []) := rfl
theorem k78_24 : az_cd 78 24 = some (40, .aload_n 0, 1, 0, 0, 0, [], []) := rfl
theorem k78_25 : az_cd 78 25 = some (41, .getfield 33, 3, 6, 3, 0, [], [158]) := rfl
theorem k78_26 : az_cd 78 26 = some (44, .iload 4, 2, 0, 0, 0, [], []) := rfl
theorem k78_27 : az_cd 78 27 = some (46, .invokevirtual 76, 3, 14, 1, 0, [], [469, 470, 46, 472, 471]) := rfl
theorem k78_28 : az_cd 78 28 = some (49, .ifCond .eq 15, 3, 34, 0, 0, [], []) := rfl
theorem k78_29 : az_cd 78 29 = some (52, .aload_n 0, 1, 0, 0, 0, [], []) := rfl
theorem k78_30 : az_cd 78 30 = some (53, .getfield 40, 3, 6, 4, 0, [], [160]) := rfl
theorem k78_31 : az_cd 78 31 = some (56, .iload 4, 2, 0, 0, 0, [], []) := rfl
theorem k78_32 : az_cd 78 32 = some (58, .invokevirtual 155, 3, 90, 1, 0, [], [474, 475, 47, 477, 476]) := rfl
theorem k78_33 : az_cd 78 33 = some (61, .goto 9, 3, 37, 0, 0, [], []) := rfl
theorem k78_34 : az_cd 78 34 = some (64, .aload_n 2, 1, 0, 0, 0, [], []) := rfl
theorem k78_35 : az_cd 78 35 = some (65, .iload 4, 2, 0, 0, 0, [], []) := rfl
theorem k78_36 : az_cd 78 36 = some (67, .invokevirtual 69, 3, 25, 1, 0, [], [478, 479, 45, 481, 480]) := rfl
theorem k78_37 : az_cd 78 37 = some (70, .invokevirtual 158, 3, 26, 2, 0, [], [483, 484, 45, 486, 485]) := rfl
theorem k78_38 : az_cd 78 38 = some (73, .iinc 4 1, 3, 0, 0, 1, [], []) := rfl
theorem k78_39 : az_cd 78 39 = some (76, .goto (-46), 3, 19, 0, 0, [], []) := rfl
theorem k78_40 : az_cd 78 40 = some (79, .return_, 1, 0, 0, 0, [], []) := rfl
theorem k79_0 : az_cd 79 0 = some (0, .aload_n 0, 1, 0, 0, 0, [], []) := rfl
theorem k79_1 : az_cd 79 1 = some (1, .iconst 1, 1, 0, 0, 1, [], []) := rfl
theorem k79_2 : az_cd 79 2 = some (2, .aload_n 0, 1, 0, 0, 0, [], []) := rfl
theorem k79_3 : az_cd 79 3 = some (3, .getfield 51, 3, 6, 6, 0, [], [164]) := rfl
theorem k79_4 : az_cd 79 4 = some (6, .isub, 1, 0, 0, 0, [], []) := rfl
theorem k79_5 : az_cd 79 5 = some (7, .putfield 51, 3, 6, 6, 0, [], [164]) := rfl
theorem k79_6 : az_cd 79 6 = some (10, .aload_n 0, 1, 0, 0, 0, [], []) := rfl
theorem k79_7 : az_cd 79 7 = some (11, .dup, 1, 0, 0, 0, [], []) := rfl
theorem k79_8 : az_cd 79 8 = some (12, .getfield 58, 3, 6, 8, 0, [], [166]) := rfl
theorem k79_9 : az_cd 79 9 = some (15, .iconst 1, 1, 0, 0, 1, [], []) := rfl
theorem k79_10 : az_cd 79 10 = some (16, .iadd, 1, 0, 0, 0, [], []) := rfl
theorem k79_11 : az_cd 79 11 = some (17, .putfield 58, 3, 6, 8, 0, [], [166]) := rfl
theorem k79_12 : az_cd 79 12 = some (20, .aload_n 0, 1, 0, 0, 0, [], []) := rfl
theorem k79_13 : az_cd 79 13 = some (21, .getfield 33, 3, 6, 3, 0, [], [158]) := rfl
theorem k79_14 : az_cd 79 14 = some (24, .invokevirtual 161, 3, 16, 0, 0, [], [491, 354, 46, 356, 355]) := rfl
theorem k79_15 : az_cd 79 15 = some (27, .aload_n 0, 1, 0, 0, 0, [], []) := rfl
theorem k79_16 : az_cd 79 16 = some (28, .getfield 40, 3, 6, 4, 0, [], [160]) := rfl
theorem k79_17 : az_cd 79 17 = some (31, .invokevirtual 164, 3, 87, 0, 0, [], [492, 493, 47, 495, 494]) := rfl
theorem k79_18 : az_cd 79 18 = some (34, .return_, 1, 0, 0, 0, [], []) := rfl
theorem k80_0 : az_cd 80 0 = some (0, .aload_n 0, 1, 0, 0, 0, [], []) := rfl
theorem k80_1 : az_cd 80 1 = some (1, .getfield 40, 3, 6, 4, 0, [], [160]) := rfl
theorem k80_2 : az_cd 80 2 = some (4, .invokevirtual 101, 3, 84, 0, 0, [], [369, 256, 47, 258, 257]) := rfl
theorem k80_3 : az_cd 80 3 = some (7, .ifCond .ne 4, 3, 5, 0, 0, [], []) := rfl
theorem k80_4 : az_cd 80 4 = some (10, .return_, 1, 0, 0, 0, [], []) := rfl
theorem k80_5 : az_cd 80 5 = some (11, .aload_n 0, 1, 0, 0, 0, [], []) := rfl
theorem k80_6 : az_cd 80 6 = some (12, .iconst 0, 1, 0, 0, 0, [], []) := rfl
theorem k80_7 : az_cd 80 7 = some (13, .invokevirtual 118, 3, 73, 1, 0, [], [386, 387, 43, 389, 388]) := rfl
theorem k80_8 : az_cd 80 8 = some (16, .istore_n 1, 1, 0, 0, 0, [], []) := rfl
theorem k80_9 : az_cd 80 9 = some (17, .iload_n 1, 1, 0, 0, 0, [], []) := rfl
theorem k80_10 : az_cd 80 10 = some (18, .ifCond .ne 41, 3, 29, 0, 0, [], []) := rfl
theorem k80_11 : az_cd 80 11 = some (21, .aload_n 0, 1, 0, 0, 0, [], []) := rfl
theorem k80_12 : az_cd 80 12 = some (22, .getfield 33, 3, 6, 3, 0, [], [158]) := rfl
theorem k80_13 : az_cd 80 13 = some (25, .aload_n 0, 1, 0, 0, 0, [], []) := rfl
theorem k80_14 : az_cd 80 14 = some (26, .getfield 40, 3, 6, 4, 0, [], [160]) := rfl
theorem k80_15 : az_cd 80 15 = some (29, .invokevirtual 109, 3, 85, 0, 0, [], [374, 375, 47, 377, 376]) := rfl
theorem k80_16 : az_cd 80 16 = some (32, .invokevirtual 121, 3, 19, 1, 0, [], [439, 440, 46, 442, 441]) := rfl
theorem k80_17 : az_cd 80 17 = some (35, .istore_n 2, 1, 0, 0, 0, [], []) := rfl
theorem k80_18 : az_cd 80 18 = some (36, .aload_n 0, 1, 0, 0, 0, [], []) := rfl
theorem k80_19 : az_cd 80 19 = some (37, .getfield 12, 3, 6, 0, 0, [], [154]) := rfl
theorem k80_20 : az_cd 80 20 = some (40, .aload_n 0, 1, 0, 0, 0, [], []) := rfl
theorem k80_21 : az_cd 80 21 = some (41, .invokevirtual 124, 3, 70, 0, 0, [], [395, 397, 43, 398, 4]) := rfl
theorem k80_22 : az_cd 80 22 = some (44, .aload_n 0, 1, 0, 0, 0, [], []) := rfl
theorem k80_23 : az_cd 80 23 = some (45, .getfield 33, 3, 6, 3, 0, [], [158]) := rfl
theorem k80_24 : az_cd 80 24 = some (48, .iload_n 2, 1, 0, 0, 0, [], []) := rfl
theorem k80_25 : az_cd 80 25 = some (49, .invokevirtual 80, 3, 13, 1, 0, [], [443, 260, 46, 262, 261]) := rfl
theorem k80_26 : az_cd 80 26 = some (52, .iconst 1, 1, 0, 0, 1, [], []) := rfl
theorem k80_27 : az_cd 80 27 = some (53, .invokevirtual 140, 3, 3, 3, 0, [], [444, 445, 44, 447, 446]) := rfl
theorem k80_28 : az_cd 80 28 = some (56, .goto 13, 3, 35, 0, 0, [], []) := rfl
theorem k80_29 : az_cd 80 29 = some (59, .iload_n 1, 1, 0, 0, 0, [], []) := rfl
theorem k80_30 : az_cd 80 30 = some (60, .iconst 1, 1, 0, 0, 1, [], []) := rfl
theorem k80_31 : az_cd 80 31 = some (61, .if_icmp .ne 8, 3, 35, 0, 0, [], []) := rfl
theorem k80_32 : az_cd 80 32 = some (64, .aload_n 0, 1, 0, 0, 0, [], []) := rfl
theorem k80_33 : az_cd 80 33 = some (65, .iconst 1, 1, 0, 0, 1, [], []) := rfl
theorem k80_34 : az_cd 80 34 = some (66, .invokevirtual 130, 3, 78, 1, 0, [], [457, 459, 43, 460, 6]) := rfl
theorem k80_35 : az_cd 80 35 = some (69, .return_, 1, 0, 0, 0, [], []) := rfl
theorem k81_0 : az_cd 81 0 = some (0, .aload_n 0, 1, 0, 0, 0, [], []) := rfl
theorem k81_1 : az_cd 81 1 = some (1, .getfield 33, 3, 6, 3, 0, [], [158]) := rfl
theorem k81_2 : az_cd 81 2 = some (4, .invokevirtual 161, 3, 16, 0, 0, [], [491, 354, 46, 356, 355]) := rfl
theorem k81_3 : az_cd 81 3 = some (7, .aload_n 0, 1, 0, 0, 0, [], []) := rfl
theorem k81_4 : az_cd 81 4 = some (8, .getfield 40, 3, 6, 4, 0, [], [160]) := rfl
theorem k81_5 : az_cd 81 5 = some (11, .invokevirtual 164, 3, 87, 0, 0, [], [492, 493, 47, 495, 494]) := rfl
theorem k81_6 : az_cd 81 6 = some (14, .aload_n 0, 1, 0, 0, 0, [], []) := rfl
theorem k81_7 : az_cd 81 7 = some (15, .getfield 47, 3, 6, 5, 0, [], [162]) := rfl
theorem k81_8 : az_cd 81 8 = some (18, .invokevirtual 167, 3, 55, 0, 0, [], [518, 519, 48, 521, 520]) := rfl
theorem k81_9 : az_cd 81 9 = some (21, .aload_n 0, 1, 0, 0, 0, [], []) := rfl
theorem k81_10 : az_cd 81 10 = some (22, .dup, 1, 0, 0, 0, [], []) := rfl
theorem k81_11 : az_cd 81 11 = some (23, .getfield 55, 3, 6, 7, 0, [], [165]) := rfl
theorem k81_12 : az_cd 81 12 = some (26, .iconst 1, 1, 0, 0, 1, [], []) := rfl
theorem k81_13 : az_cd 81 13 = some (27, .iadd, 1, 0, 0, 0, [], []) := rfl
theorem k81_14 : az_cd 81 14 = some (28, .putfield 55, 3, 6, 7, 0, [], [165]) := rfl
theorem k81_15 : az_cd 81 15 = some (31, .return_, 1, 0, 0, 0, [], []) := rfl
theorem k82_0 : az_cd 82 0 = some (0, .aload_n 0, 1, 0, 0, 0, [], []) := rfl
theorem k82_1 : az_cd 82 1 = some (1, .getfield 12, 3, 6, 0, 0, [], [154]) := rfl
theorem k82_2 : az_cd 82 2 = some (4, .aload_n 1, 1, 0, 0, 0, [], []) := rfl
theorem k82_3 : az_cd 82 3 = some (5, .getfield 12, 3, 6, 0, 0, [], [154]) := rfl
theorem k82_4 : az_cd 82 4 = some (8, .invokevirtual 170, 3, 11, 1, 0, [], [275, 276, 44, 278, 277]) := rfl
theorem k82_5 : az_cd 82 5 = some (11, .aload_n 0, 1, 0, 0, 0, [], []) := rfl
theorem k82_6 : az_cd 82 6 = some (12, .getfield 23, 3, 6, 1, 0, [], [156]) := rfl
theorem k82_7 : az_cd 82 7 = some (15, .aload_n 1, 1, 0, 0, 0, [], []) := rfl
theorem k82_8 : az_cd 82 8 = some (16, .getfield 23, 3, 6, 1, 0, [], [156]) := rfl
theorem k82_9 : az_cd 82 9 = some (19, .invokevirtual 174, 3, 30, 1, 0, [], [282, 283, 45, 285, 284]) := rfl
theorem k82_10 : az_cd 82 10 = some (22, .aload_n 0, 1, 0, 0, 0, [], []) := rfl
theorem k82_11 : az_cd 82 11 = some (23, .getfield 27, 3, 6, 2, 0, [], [157]) := rfl
theorem k82_12 : az_cd 82 12 = some (26, .aload_n 1, 1, 0, 0, 0, [], []) := rfl
theorem k82_13 : az_cd 82 13 = some (27, .getfield 27, 3, 6, 2, 0, [], [157]) := rfl
theorem k82_14 : az_cd 82 14 = some (30, .invokevirtual 174, 3, 30, 1, 0, [], [282, 283, 45, 285, 284]) := rfl
theorem k82_15 : az_cd 82 15 = some (33, .aload_n 0, 1, 0, 0, 0, [], []) := rfl
theorem k82_16 : az_cd 82 16 = some (34, .getfield 33, 3, 6, 3, 0, [], [158]) := rfl
theorem k82_17 : az_cd 82 17 = some (37, .aload_n 1, 1, 0, 0, 0, [], []) := rfl
theorem k82_18 : az_cd 82 18 = some (38, .getfield 33, 3, 6, 3, 0, [], [158]) := rfl
theorem k82_19 : az_cd 82 19 = some (41, .invokevirtual 177, 3, 20, 1, 0, [], [287, 288, 46, 290, 289]) := rfl
theorem k82_20 : az_cd 82 20 = some (44, .aload_n 0, 1, 0, 0, 0, [], []) := rfl
theorem k82_21 : az_cd 82 21 = some (45, .getfield 40, 3, 6, 4, 0, [], [160]) := rfl
theorem k82_22 : az_cd 82 22 = some (48, .aload_n 1, 1, 0, 0, 0, [], []) := rfl
theorem k82_23 : az_cd 82 23 = some (49, .getfield 40, 3, 6, 4, 0, [], [160]) := rfl
theorem k82_24 : az_cd 82 24 = some (52, .invokevirtual 180, 3, 92, 1, 0, [], [292, 293, 47, 295, 294]) := rfl
theorem k82_25 : az_cd 82 25 = some (55, .aload_n 0, 1, 0, 0, 0, [], []) := rfl
theorem k82_26 : az_cd 82 26 = some (56, .getfield 47, 3, 6, 5, 0, [], [162]) := rfl
theorem k82_27 : az_cd 82 27 = some (59, .aload_n 1, 1, 0, 0, 0, [], []) := rfl
theorem k82_28 : az_cd 82 28 = some (60, .getfield 47, 3, 6, 5, 0, [], [162]) := rfl
theorem k82_29 : az_cd 82 29 = some (63, .invokevirtual 183, 3, 58, 1, 0, [], [297, 298, 48, 300, 299]) := rfl
theorem k82_30 : az_cd 82 30 = some (66, .aload_n 0, 1, 0, 0, 0, [], []) := rfl
theorem k82_31 : az_cd 82 31 = some (67, .aload_n 1, 1, 0, 0, 0, [], []) := rfl
theorem k82_32 : az_cd 82 32 = some (68, .getfield 51, 3, 6, 6, 0, [], [164]) := rfl
theorem k82_33 : az_cd 82 33 = some (71, .putfield 51, 3, 6, 6, 0, [], [164]) := rfl
theorem k82_34 : az_cd 82 34 = some (74, .aload_n 0, 1, 0, 0, 0, [], []) := rfl
theorem k82_35 : az_cd 82 35 = some (75, .aload_n 1, 1, 0, 0, 0, [], []) := rfl
theorem k82_36 : az_cd 82 36 = some (76, .getfield 55, 3, 6, 7, 0, [], [165]) := rfl
theorem k82_37 : az_cd 82 37 = some (79, .putfield 55, 3, 6, 7, 0, [], [165]) := rfl
theorem k82_38 : az_cd 82 38 = some (82, .aload_n 0, 1, 0, 0, 0, [], []) := rfl
theorem k82_39 : az_cd 82 39 = some (83, .aload_n 1, 1, 0, 0, 0, [], []) := rfl
theorem k82_40 : az_cd 82 40 = some (84, .getfield 58, 3, 6, 8, 0, [], [166]) := rfl
theorem k82_41 : az_cd 82 41 = some (87, .putfield 58, 3, 6, 8, 0, [], [166]) := rfl
theorem k82_42 : az_cd 82 42 = some (90, .return_, 1, 0, 0, 0, [], []) := rfl
theorem k83_0 : az_cd 83 0 = some (0, .aload_n 0, 1, 0, 0, 0, [], []) := rfl
theorem k83_1 : az_cd 83 1 = some (1, .invokespecial 3, 3, 196, 0, 2, [], [125, 61, 62]) := rfl
theorem k83_2 : az_cd 83 2 = some (4, .aload_n 0, 1, 0, 0, 0, [], []) := rfl
theorem k83_3 : az_cd 83 3 = some (5, .bipush 8, 2, 0, 0, 8, [], []) := rfl
theorem k83_4 : az_cd 83 4 = some (7, .newarray .int, 2, 0, 0, 0, [], [91]) := rfl
theorem k83_5 : az_cd 83 5 = some (9, .putfield 9, 3, 7, 2, 0, [], [129]) := rfl
theorem k83_6 : az_cd 83 6 = some (12, .aload_n 0, 1, 0, 0, 0, [], []) := rfl
theorem k83_7 : az_cd 83 7 = some (13, .iconst 0, 1, 0, 0, 0, [], []) := rfl
theorem k83_8 : az_cd 83 8 = some (14, .putfield 15, 3, 7, 0, 0, [], [127]) := rfl
theorem k83_9 : az_cd 83 9 = some (17, .aload_n 0, 1, 0, 0, 0, [], []) := rfl
theorem k83_10 : az_cd 83 10 = some (18, .iconst 0, 1, 0, 0, 0, [], []) := rfl
theorem k83_11 : az_cd 83 11 = some (19, .putfield 19, 3, 7, 1, 0, [], [128]) := rfl
theorem k83_12 : az_cd 83 12 = some (22, .aload_n 0, 1, 0, 0, 0, [], []) := rfl
theorem k83_13 : az_cd 83 13 = some (23, .getfield 9, 3, 7, 2, 0, [], [129]) := rfl
theorem k83_14 : az_cd 83 14 = some (26, .bipush (-5), 2, 0, 0, (-5), [], []) := rfl
theorem k83_15 : az_cd 83 15 = some (28, .invokestatic 23, 3, 124, 2, 1, [], [126, 79, 42, 80]) := rfl
theorem k83_16 : az_cd 83 16 = some (31, .return_, 1, 0, 0, 0, [], []) := rfl
theorem k84_0 : az_cd 84 0 = some (0, .aload_n 0, 1, 0, 0, 0, [], []) := rfl
theorem k84_1 : az_cd 84 1 = some (1, .getfield 15, 3, 7, 0, 0, [], [127]) := rfl
theorem k84_2 : az_cd 84 2 = some (4, .ireturn, 1, 0, 0, 0, [], []) := rfl
theorem k85_0 : az_cd 85 0 = some (0, .aload_n 0, 1, 0, 0, 0, [], []) := rfl
theorem k85_1 : az_cd 85 1 = some (1, .getfield 19, 3, 7, 1, 0, [], [128]) := rfl
theorem k85_2 : az_cd 85 2 = some (4, .ireturn, 1, 0, 0, 0, [], []) := rfl
theorem k86_0 : az_cd 86 0 = some (0, .aload_n 0, 1, 0, 0, 0, [], []) := rfl
theorem k86_1 : az_cd 86 1 = some (1, .iconst 1, 1, 0, 0, 1, [], []) := rfl
theorem k86_2 : az_cd 86 2 = some (2, .putfield 15, 3, 7, 0, 0, [], [127]) := rfl
theorem k86_3 : az_cd 86 3 = some (5, .return_, 1, 0, 0, 0, [], []) := rfl
theorem k87_0 : az_cd 87 0 = some (0, .aload_n 0, 1, 0, 0, 0, [], []) := rfl
theorem k87_1 : az_cd 87 1 = some (1, .iconst 0, 1, 0, 0, 0, [], []) := rfl
theorem k87_2 : az_cd 87 2 = some (2, .putfield 15, 3, 7, 0, 0, [], [127]) := rfl
theorem k87_3 : az_cd 87 3 = some (5, .aload_n 0, 1, 0, 0, 0, [], []) := rfl
theorem k87_4 : az_cd 87 4 = some (6, .iconst 0, 1, 0, 0, 0, [], []) := rfl
theorem k87_5 : az_cd 87 5 = some (7, .putfield 19, 3, 7, 1, 0, [], [128]) := rfl
theorem k87_6 : az_cd 87 6 = some (10, .aload_n 0, 1, 0, 0, 0, [], []) := rfl
theorem k87_7 : az_cd 87 7 = some (11, .getfield 9, 3, 7, 2, 0, [], [129]) := rfl
theorem k87_8 : az_cd 87 8 = some (14, .bipush (-5), 2, 0, 0, (-5), [], []) := rfl
theorem k87_9 : az_cd 87 9 = some (16, .invokestatic 23, 3, 124, 2, 1, [], [126, 79, 42, 80]) := rfl
theorem k87_10 : az_cd 87 10 = some (19, .return_, 1, 0, 0, 0, [], []) := rfl
theorem k88_0 : az_cd 88 0 = some (0, .aload_n 0, 1, 0, 0, 0, [], []) := rfl
theorem k88_1 : az_cd 88 1 = some (1, .dup, 1, 0, 0, 0, [], []) := rfl
theorem k88_2 : az_cd 88 2 = some (2, .getfield 19, 3, 7, 1, 0, [], [128]) := rfl
theorem k88_3 : az_cd 88 3 = some (5, .iconst 1, 1, 0, 0, 1, [], []) := rfl
theorem k88_4 : az_cd 88 4 = some (6, .iadd, 1, 0, 0, 0, [], []) := rfl
theorem k88_5 : az_cd 88 5 = some (7, .putfield 19, 3, 7, 1, 0, [], [128]) := rfl
theorem k88_6 : az_cd 88 6 = some (10, .return_, 1, 0, 0, 0, [], []) := rfl
theorem k89_0 : az_cd 89 0 = some (0, .iload_n 1, 1, 0, 0, 0, [], []) := rfl
theorem k89_1 : az_cd 89 1 = some (1, .invokestatic 27, 3, 121, 1, 1, [], [452, 249, 42, 250]) := rfl
theorem k89_2 : az_cd 89 2 = some (4, .ifCond .eq 10, 3, 8, 0, 0, [], []) := rfl
theorem k89_3 : az_cd 89 3 = some (7, .aload_n 0, 1, 0, 0, 0, [], []) := rfl
theorem k89_4 : az_cd 89 4 = some (8, .getfield 9, 3, 7, 2, 0, [], [129]) := rfl
theorem k89_5 : az_cd 89 5 = some (11, .iload_n 1, 1, 0, 0, 0, [], []) := rfl
theorem k89_6 : az_cd 89 6 = some (12, .iload_n 2, 1, 0, 0, 0, [], []) := rfl
theorem k89_7 : az_cd 89 7 = some (13, .iastore, 1, 0, 0, 0, [], []) := rfl
theorem k89_8 : az_cd 89 8 = some (14, .return_, 1, 0, 0, 0, [], []) := rfl
theorem k90_0 : az_cd 90 0 = some (0, .iload_n 1, 1, 0, 0, 0, [], []) := rfl
theorem k90_1 : az_cd 90 1 = some (1, .invokestatic 27, 3, 121, 1, 1, [], [452, 249, 42, 250]) := rfl
theorem k90_2 : az_cd 90 2 = some (4, .ifCond .eq 12, 3, 8, 0, 0, [], []) := rfl
theorem k90_3 : az_cd 90 3 = some (7, .aload_n 0, 1, 0, 0, 0, [], []) := rfl
theorem k90_4 : az_cd 90 4 = some (8, .getfield 9, 3, 7, 2, 0, [], [129]) := rfl
theorem k90_5 : az_cd 90 5 = some (11, .iload_n 1, 1, 0, 0, 0, [], []) := rfl
theorem k90_6 : az_cd 90 6 = some (12, .iaload, 1, 0, 0, 0, [], []) := rfl
theorem k90_7 : az_cd 90 7 = some (13, .goto 5, 3, 9, 0, 0, [], []) := rfl
theorem k90_8 : az_cd 90 8 = some (16, .bipush (-5), 2, 0, 0, (-5), [], []) := rfl
theorem k90_9 : az_cd 90 9 = some (18, .ireturn, 1, 0, 0, 0, [], []) := rfl
theorem k91_0 : az_cd 91 0 = some (0, .iconst 0, 1, 0, 0, 0, [], []) := rfl
theorem k91_1 : az_cd 91 1 = some (1, .istore_n 2, 1, 0, 0, 0, [], []) := rfl
theorem k91_2 : az_cd 91 2 = some (2, .iload_n 2, 1, 0, 0, 0, [], []) := rfl
theorem k91_3 : az_cd 91 3 = some (3, .bipush 8, 2, 0, 0, 8, [], []) := rfl
theorem k91_4 : az_cd 91 4 = some (5, .if_icmp .ge 21, 3, 15, 0, 0, [], []) := rfl
theorem k91_5 : az_cd 91 5 = some (8, .aload_n 0, 1, 0, 0, 0, [], []) := rfl
theorem k91_6 : az_cd 91 6 = some (9, .getfield 9, 3, 7, 2, 0, [], [129]) := rfl
theorem k91_7 : az_cd 91 7 = some (12, .iload_n 2, 1, 0, 0, 0, [], []) := rfl
theorem k91_8 : az_cd 91 8 = some (13, .iaload, 1, 0, 0, 0, [], []) := rfl
theorem k91_9 : az_cd 91 9 = some (14, .iload_n 1, 1, 0, 0, 0, [], []) := rfl
theorem k91_10 : az_cd 91 10 = some (15, .if_icmp .ne 5, 3, 13, 0, 0, [], []) := rfl
theorem k91_11 : az_cd 91 11 = some (18, .iload_n 2, 1, 0, 0, 0, [], []) := rfl
theorem k91_12 : az_cd 91 12 = some (19, .ireturn, 1, 0, 0, 0, [], []) := rfl
theorem k91_13 : az_cd 91 13 = some (20, .iinc 2 1, 3, 0, 0, 1, [], []) := rfl
theorem k91_14 : az_cd 91 14 = some (23, .goto (-21), 3, 2, 0, 0, [], []) := rfl
theorem k91_15 : az_cd 91 15 = some (26, .bipush (-5), 2, 0, 0, (-5), [], []) := rfl
theorem k91_16 : az_cd 91 16 = some (28, .ireturn, 1, 0, 0, 0, [], []) := rfl
theorem k92_0 : az_cd 92 0 = some (0, .aload_n 0, 1, 0, 0, 0, [], []) := rfl
theorem k92_1 : az_cd 92 1 = some (1, .aload_n 1, 1, 0, 0, 0, [], []) := rfl
theorem k92_2 : az_cd 92 2 = some (2, .getfield 15, 3, 7, 0, 0, [], [127]) := rfl
theorem k92_3 : az_cd 92 3 = some (5, .putfield 15, 3, 7, 0, 0, [], [127]) := rfl
theorem k92_4 : az_cd 92 4 = some (8, .aload_n 0, 1, 0, 0, 0, [], []) := rfl
theorem k92_5 : az_cd 92 5 = some (9, .aload_n 1, 1, 0, 0, 0, [], []) := rfl
theorem k92_6 : az_cd 92 6 = some (10, .getfield 19, 3, 7, 1, 0, [], [128]) := rfl
theorem k92_7 : az_cd 92 7 = some (13, .putfield 19, 3, 7, 1, 0, [], [128]) := rfl
theorem k92_8 : az_cd 92 8 = some (16, .aload_n 1, 1, 0, 0, 0, [], []) := rfl
theorem k92_9 : az_cd 92 9 = some (17, .getfield 9, 3, 7, 2, 0, [], [129]) := rfl
theorem k92_10 : az_cd 92 10 = some (20, .aload_n 0, 1, 0, 0, 0, [], []) := rfl
theorem k92_11 : az_cd 92 11 = some (21, .getfield 9, 3, 7, 2, 0, [], [129]) := rfl
theorem k92_12 : az_cd 92 12 = some (24, .invokestatic 31, 3, 125, 2, 1, [], [296, 280, 42, 281]) := rfl
theorem k92_13 : az_cd 92 13 = some (27, .return_, 1, 0, 0, 0, [], []) := rfl
theorem k93_0 : az_cd 93 0 = some (0, .aload_n 0, 1, 0, 0, 0, [], []) := rfl
theorem k93_1 : az_cd 93 1 = some (1, .invokespecial 3, 3, 196, 0, 2, [], [60, 61, 62]) := rfl
theorem k93_2 : az_cd 93 2 = some (4, .aload_n 0, 1, 0, 0, 0, [], []) := rfl
theorem k93_3 : az_cd 93 3 = some (5, .new 9, 3, 6, 9, 0, [], [63, 64, 43]) := rfl
theorem k93_4 : az_cd 93 4 = some (8, .dup, 1, 0, 0, 0, [], []) := rfl
theorem k93_5 : az_cd 93 5 = some (9, .invokespecial 11, 3, 59, 0, 0, [], [65, 66, 43, 67]) := rfl
theorem k93_6 : az_cd 93 6 = some (12, .putfield 12, 3, 8, 0, 0, [], [228]) := rfl
theorem k93_7 : az_cd 93 7 = some (15, .aload_n 0, 1, 0, 0, 0, [], []) := rfl
theorem k93_8 : az_cd 93 8 = some (16, .new 9, 3, 6, 9, 0, [], [63, 64, 43]) := rfl
theorem k93_9 : az_cd 93 9 = some (19, .dup, 1, 0, 0, 0, [], []) := rfl
theorem k93_10 : az_cd 93 10 = some (20, .invokespecial 11, 3, 59, 0, 0, [], [65, 66, 43, 67]) := rfl
theorem k93_11 : az_cd 93 11 = some (23, .putfield 16, 3, 8, 1, 0, [], [229]) := rfl
theorem k93_12 : az_cd 93 12 = some (26, .aload_n 0, 1, 0, 0, 0, [], []) := rfl
theorem k93_13 : az_cd 93 13 = some (27, .new 19, 3, 3, 3, 0, [], [186, 187, 49]) := rfl
theorem k93_14 : az_cd 93 14 = some (30, .dup, 1, 0, 0, 0, [], []) := rfl
theorem k93_15 : az_cd 93 15 = some (31, .invokespecial 21, 3, 31, 0, 0, [], [188, 189, 49, 190]) := rfl
theorem k93_16 : az_cd 93 16 = some (34, .putfield 22, 3, 8, 2, 0, [], [230]) := rfl
theorem k93_17 : az_cd 93 17 = some (37, .aload_n 0, 1, 0, 0, 0, [], []) := rfl
theorem k93_18 : az_cd 93 18 = some (38, .new 26, 3, 4, 5, 0, [], [205, 206, 50]) := rfl
theorem k93_19 : az_cd 93 19 = some (41, .dup, 1, 0, 0, 0, [], []) := rfl
theorem k93_20 : az_cd 93 20 = some (42, .invokespecial 28, 3, 35, 0, 0, [], [207, 208, 50, 209]) := rfl
theorem k93_21 : az_cd 93 21 = some (45, .putfield 29, 3, 8, 3, 0, [], [231]) := rfl
theorem k93_22 : az_cd 93 22 = some (48, .aload_n 0, 1, 0, 0, 0, [], []) := rfl
theorem k93_23 : az_cd 93 23 = some (49, .iconst 0, 1, 0, 0, 0, [], []) := rfl
theorem k93_24 : az_cd 93 24 = some (50, .putfield 33, 3, 8, 4, 0, [], [232]) := rfl
theorem k93_25 : az_cd 93 25 = some (53, .return_, 1, 0, 0, 0, [], []) := rfl
theorem k94_0 : az_cd 94 0 = some (0, .iload_n 1, 1, 0, 0, 0, [], []) := rfl
theorem k94_1 : az_cd 94 1 = some (1, .invokestatic 37, 3, 121, 1, 0, [], [248, 249, 42, 250]) := rfl
theorem k94_2 : az_cd 94 2 = some (4, .ifCond .ne 5, 3, 5, 0, 0, [], []) := rfl
theorem k94_3 : az_cd 94 3 = some (7, .iconst (-1), 1, 0, 0, (-1), [], []) := rfl
theorem k94_4 : az_cd 94 4 = some (8, .ireturn, 1, 0, 0, 0, [], []) := rfl
theorem k94_5 : az_cd 94 5 = some (9, .iload_n 2, 1, 0, 0, 0, [], []) := rfl
theorem k94_6 : az_cd 94 6 = some (10, .ifCond .lt 10, 3, 10, 0, 0, [], []) := rfl
theorem k94_7 : az_cd 94 7 = some (13, .iload_n 2, 1, 0, 0, 0, [], []) := rfl
theorem k94_8 : az_cd 94 8 = some (14, .sipush 999, 3, 0, 0, 999, [], []) := rfl
theorem k94_9 : az_cd 94 9 = some (17, .if_icmp .le 6, 3, 12, 0, 0, [], []) := rfl
theorem k94_10 : az_cd 94 10 = some (20, .bipush (-2), 2, 0, 0, (-2), [], []) := rfl
theorem k94_11 : az_cd 94 11 = some (22, .ireturn, 1, 0, 0, 0, [], []) := rfl
theorem k94_12 : az_cd 94 12 = some (23, .aload_n 0, 1, 0, 0, 0, [], []) := rfl
theorem k94_13 : az_cd 94 13 = some (24, .iload_n 1, 1, 0, 0, 0, [], []) := rfl
theorem k94_14 : az_cd 94 14 = some (25, .iload_n 2, 1, 0, 0, 0, [], []) := rfl
theorem k94_15 : az_cd 94 15 = some (26, .invokevirtual 41, 3, 96, 2, 0, [], [251, 253, 42, 254, 0]) := rfl
theorem k94_16 : az_cd 94 16 = some (29, .ireturn, 1, 0, 0, 0, [], []) := rfl
theorem k95_0 : az_cd 95 0 = some (0, .iload_n 1, 1, 0, 0, 0, [], []) := rfl
theorem k95_1 : az_cd 95 1 = some (1, .invokestatic 37, 3, 121, 1, 0, [], [248, 249, 42, 250]) := rfl
theorem k95_2 : az_cd 95 2 = some (4, .ifCond .ne 5, 3, 5, 0, 0, [], []) := rfl
theorem k95_3 : az_cd 95 3 = some (7, .iconst (-1), 1, 0, 0, (-1), [], []) := rfl
theorem k95_4 : az_cd 95 4 = some (8, .ireturn, 1, 0, 0, 0, [], []) := rfl
theorem k95_5 : az_cd 95 5 = some (9, .aload_n 0, 1, 0, 0, 0, [], []) := rfl
theorem k95_6 : az_cd 95 6 = some (10, .iload_n 1, 1, 0, 0, 0, [], []) := rfl
theorem k95_7 : az_cd 95 7 = some (11, .bipush (-5), 2, 0, 0, (-5), [], []) := rfl
theorem k95_8 : az_cd 95 8 = some (13, .invokevirtual 41, 3, 96, 2, 0, [], [251, 253, 42, 254, 0]) := rfl
theorem k95_9 : az_cd 95 9 = some (16, .ireturn, 1, 0, 0, 0, [], []) := rfl
theorem k96_0 : az_cd 96 0 = some (0, .aload_n 0, 1, 0, 0, 0, [], []) := rfl
theorem k96_1 : az_cd 96 1 = some (1, .getfield 12, 3, 8, 0, 0, [], [228]) := rfl
theorem k96_2 : az_cd 96 2 = some (4, .getfield 47, 3, 6, 4, 1, [], [161]) := rfl
theorem k96_3 : az_cd 96 3 = some (7, .invokevirtual 51, 3, 84, 0, 0, [], [255, 256, 47, 258, 257]) := rfl
theorem k96_4 : az_cd 96 4 = some (10, .ifCond .eq 6, 3, 7, 0, 0, [], []) := rfl
theorem k96_5 : az_cd 96 5 = some (13, .bipush (-4), 2, 0, 0, (-4), [], []) := rfl
theorem k96_6 : az_cd 96 6 = some (15, .ireturn, 1, 0, 0, 0, [], []) := rfl
theorem k96_7 : az_cd 96 7 = some (16, .aload_n 0, 1, 0, 0, 0, [], []) := rfl
theorem k96_8 : az_cd 96 8 = some (17, .getfield 12, 3, 8, 0, 0, [], [228]) := rfl
theorem k96_9 : az_cd 96 9 = some (20, .getfield 57, 3, 6, 3, 1, [], [159]) := rfl
theorem k96_10 : az_cd 96 10 = some (23, .iload_n 1, 1, 0, 0, 0, [], []) := rfl
theorem k96_11 : az_cd 96 11 = some (24, .invokevirtual 61, 3, 13, 1, 0, [], [259, 260, 46, 262, 261]) := rfl
theorem k96_12 : az_cd 96 12 = some (27, .iload_n 2, 1, 0, 0, 0, [], []) := rfl
theorem k96_13 : az_cd 96 13 = some (28, .if_icmp .ne 6, 3, 16, 0, 0, [], []) := rfl
theorem k96_14 : az_cd 96 14 = some (31, .bipush (-5), 2, 0, 0, (-5), [], []) := rfl
theorem k96_15 : az_cd 96 15 = some (33, .ireturn, 1, 0, 0, 0, [], []) := rfl
theorem k96_16 : az_cd 96 16 = some (34, .aload_n 0, 1, 0, 0, 0, [], []) := rfl
theorem k96_17 : az_cd 96 17 = some (35, .getfield 22, 3, 8, 2, 0, [], [230]) := rfl
theorem k96_18 : az_cd 96 18 = some (38, .aload_n 0, 1, 0, 0, 0, [], []) := rfl
theorem k96_19 : az_cd 96 19 = some (39, .getfield 12, 3, 8, 0, 0, [], [228]) := rfl
theorem k96_20 : az_cd 96 20 = some (42, .invokevirtual 65, 3, 33, 1, 0, [], [264, 265, 49, 267, 266]) := rfl
theorem k96_21 : az_cd 96 21 = some (45, .aload_n 0, 1, 0, 0, 0, [], []) := rfl
theorem k96_22 : az_cd 96 22 = some (46, .getfield 12, 3, 8, 0, 0, [], [228]) := rfl
theorem k96_23 : az_cd 96 23 = some (49, .getfield 57, 3, 6, 3, 1, [], [159]) := rfl
theorem k96_24 : az_cd 96 24 = some (52, .iload_n 1, 1, 0, 0, 0, [], []) := rfl
theorem k96_25 : az_cd 96 25 = some (53, .iload_n 2, 1, 0, 0, 0, [], []) := rfl
theorem k96_26 : az_cd 96 26 = some (54, .invokevirtual 69, 3, 15, 2, 0, [], [302, 303, 46, 305, 304]) := rfl
theorem k96_27 : az_cd 96 27 = some (57, .aload_n 0, 1, 0, 0, 0, [], []) := rfl
theorem k96_28 : az_cd 96 28 = some (58, .getfield 12, 3, 8, 0, 0, [], [228]) := rfl
theorem k96_29 : az_cd 96 29 = some (61, .getfield 57, 3, 6, 3, 1, [], [159]) := rfl
theorem k96_30 : az_cd 96 30 = some (64, .invokevirtual 73, 3, 17, 0, 0, [], [306, 307, 46, 309, 308]) := rfl
theorem k96_31 : az_cd 96 31 = some (67, .ireturn, 1, 0, 0, 0, [], []) := rfl
theorem k97_0 : az_cd 97 0 = some (0, .aload_n 0, 1, 0, 0, 0, [], []) := rfl
theorem k97_1 : az_cd 97 1 = some (1, .getfield 29, 3, 8, 3, 0, [], [231]) := rfl
theorem k97_2 : az_cd 97 2 = some (4, .invokevirtual 77, 3, 43, 0, 0, [], [318, 319, 50, 321, 320]) := rfl
theorem k97_3 : az_cd 97 3 = some (7, .istore_n 1, 1, 0, 0, 0, [], []) := rfl
theorem k97_4 : az_cd 97 4 = some (8, .iload_n 1, 1, 0, 0, 0, [], []) := rfl
theorem k97_5 : az_cd 97 5 = some (9, .iconst (-1), 1, 0, 0, (-1), [], []) := rfl
theorem k97_6 : az_cd 97 6 = some (10, .if_icmp .eq 8, 3, 11, 0, 0, [], []) := rfl
theorem k97_7 : az_cd 97 7 = some (13, .bipush (-100), 2, 0, 0, (-100), [], []) := rfl
theorem k97_8 : az_cd 97 8 = some (15, .iload_n 1, 1, 0, 0, 0, [], []) := rfl
theorem k97_9 : az_cd 97 9 = some (16, .isub, 1, 0, 0, 0, [], []) := rfl
theorem k97_10 : az_cd 97 10 = some (17, .ireturn, 1, 0, 0, 0, [], []) := rfl
theorem k97_11 : az_cd 97 11 = some (18, .aload_n 0, 1, 0, 0, 0, [], []) := rfl
theorem k97_12 : az_cd 97 12 = some (19, .getfield 12, 3, 8, 0, 0, [], [228]) := rfl
theorem k97_13 : az_cd 97 13 = some (22, .getfield 47, 3, 6, 4, 1, [], [161]) := rfl
theorem k97_14 : az_cd 97 14 = some (25, .invokevirtual 51, 3, 84, 0, 0, [], [255, 256, 47, 258, 257]) := rfl
theorem k97_15 : az_cd 97 15 = some (28, .ifCond .eq 6, 3, 18, 0, 0, [], []) := rfl
theorem k97_16 : az_cd 97 16 = some (31, .bipush (-4), 2, 0, 0, (-4), [], []) := rfl
theorem k97_17 : az_cd 97 17 = some (33, .ireturn, 1, 0, 0, 0, [], []) := rfl
theorem k97_18 : az_cd 97 18 = some (34, .aload_n 0, 1, 0, 0, 0, [], []) := rfl
theorem k97_19 : az_cd 97 19 = some (35, .getfield 22, 3, 8, 2, 0, [], [230]) := rfl
theorem k97_20 : az_cd 97 20 = some (38, .aload_n 0, 1, 0, 0, 0, [], []) := rfl
theorem k97_21 : az_cd 97 21 = some (39, .getfield 12, 3, 8, 0, 0, [], [228]) := rfl
theorem k97_22 : az_cd 97 22 = some (42, .invokevirtual 65, 3, 33, 1, 0, [], [264, 265, 49, 267, 266]) := rfl
theorem k97_23 : az_cd 97 23 = some (45, .aload_n 0, 1, 0, 0, 0, [], []) := rfl
theorem k97_24 : az_cd 97 24 = some (46, .getfield 29, 3, 8, 3, 0, [], [231]) := rfl
theorem k97_25 : az_cd 97 25 = some (49, .invokevirtual 80, 3, 40, 0, 0, [], [337, 338, 50, 340, 339]) := rfl
theorem k97_26 : az_cd 97 26 = some (52, .istore_n 2, 1, 0, 0, 0, [], []) := rfl
theorem k97_27 : az_cd 97 27 = some (53, .iconst 0, 1, 0, 0, 0, [], []) := rfl
theorem k97_28 : az_cd 97 28 = some (54, .istore_n 3, 1, 0, 0, 0, [], []) := rfl
theorem k97_29 : az_cd 97 29 = some (55, .iload_n 3, 1, 0, 0, 0, [], []) := rfl
theorem k97_30 : az_cd 97 30 = some (56, .iload_n 2, 1, 0, 0, 0, [], []) := rfl
theorem k97_31 : az_cd 97 31 = some (57, .if_icmp .ge 35, 3, 46, 0, 0, [], []) := rfl
theorem k97_32 : az_cd 97 32 = some (60, .aload_n 0, 1, 0, 0, 0, [], []) := rfl
theorem k97_33 : az_cd 97 33 = some (61, .getfield 12, 3, 8, 0, 0, [], [228]) := rfl
theorem k97_34 : az_cd 97 34 = some (64, .getfield 57, 3, 6, 3, 1, [], [159]) := rfl
theorem k97_35 : az_cd 97 35 = some (67, .aload_n 0, 1, 0, 0, 0, [], []) := rfl
theorem k97_36 : az_cd 97 36 = some (68, .getfield 29, 3, 8, 3, 0, [], [231]) := rfl
theorem k97_37 : az_cd 97 37 = some (71, .iload_n 3, 1, 0, 0, 0, [], []) := rfl
theorem k97_38 : az_cd 97 38 = some (72, .invokevirtual 83, 3, 41, 1, 0, [], [341, 342, 50, 344, 343]) := rfl
theorem k97_39 : az_cd 97 39 = some (75, .aload_n 0, 1, 0, 0, 0, [], []) := rfl
theorem k97_40 : az_cd 97 40 = some (76, .getfield 29, 3, 8, 3, 0, [], [231]) := rfl
theorem k97_41 : az_cd 97 41 = some (79, .iload_n 3, 1, 0, 0, 0, [], []) := rfl
theorem k97_42 : az_cd 97 42 = some (80, .invokevirtual 86, 3, 42, 1, 0, [], [345, 346, 50, 348, 347]) := rfl
theorem k97_43 : az_cd 97 43 = some (83, .invokevirtual 69, 3, 15, 2, 0, [], [302, 303, 46, 305, 304]) := rfl
theorem k97_44 : az_cd 97 44 = some (86, .iinc 3 1, 3, 0, 0, 1, [], []) := rfl
theorem k97_45 : az_cd 97 45 = some (89, .goto (-34), 3, 29, 0, 0, [], []) := rfl
theorem k97_46 : az_cd 97 46 = some (92, .iload_n 2, 1, 0, 0, 0, [], []) := rfl
theorem k97_47 : az_cd 97 47 = some (93, .ireturn, 1, 0, 0, 0, [], []) := rfl
theorem k98_0 : az_cd 98 0 = some (0, .aload_n 0, 1, 0, 0, 0, [], []) := rfl
theorem k98_1 : az_cd 98 1 = some (1, .getfield 12, 3, 8, 0, 0, [], [228]) := rfl
theorem k98_2 : az_cd 98 2 = some (4, .getfield 47, 3, 6, 4, 1, [], [161]) := rfl
theorem k98_3 : az_cd 98 3 = some (7, .invokevirtual 51, 3, 84, 0, 0, [], [255, 256, 47, 258, 257]) := rfl
theorem k98_4 : az_cd 98 4 = some (10, .ifCond .eq 6, 3, 7, 0, 0, [], []) := rfl
theorem k98_5 : az_cd 98 5 = some (13, .bipush (-4), 2, 0, 0, (-4), [], []) := rfl
theorem k98_6 : az_cd 98 6 = some (15, .ireturn, 1, 0, 0, 0, [], []) := rfl
theorem k98_7 : az_cd 98 7 = some (16, .aload_n 0, 1, 0, 0, 0, [], []) := rfl
theorem k98_8 : az_cd 98 8 = some (17, .getfield 12, 3, 8, 0, 0, [], [228]) := rfl
theorem k98_9 : az_cd 98 9 = some (20, .getfield 57, 3, 6, 3, 1, [], [159]) := rfl
theorem k98_10 : az_cd 98 10 = some (23, .invokevirtual 73, 3, 17, 0, 0, [], [306, 307, 46, 309, 308]) := rfl
theorem k98_11 : az_cd 98 11 = some (26, .istore_n 1, 1, 0, 0, 0, [], []) := rfl
theorem k98_12 : az_cd 98 12 = some (27, .iload_n 1, 1, 0, 0, 0, [], []) := rfl
theorem k98_13 : az_cd 98 13 = some (28, .ifCond .ne 6, 3, 16, 0, 0, [], []) := rfl
theorem k98_14 : az_cd 98 14 = some (31, .bipush (-5), 2, 0, 0, (-5), [], []) := rfl
theorem k98_15 : az_cd 98 15 = some (33, .ireturn, 1, 0, 0, 0, [], []) := rfl
theorem k98_16 : az_cd 98 16 = some (34, .aload_n 0, 1, 0, 0, 0, [], []) := rfl
theorem k98_17 : az_cd 98 17 = some (35, .getfield 22, 3, 8, 2, 0, [], [230]) := rfl
theorem k98_18 : az_cd 98 18 = some (38, .aload_n 0, 1, 0, 0, 0, [], []) := rfl
theorem k98_19 : az_cd 98 19 = some (39, .getfield 12, 3, 8, 0, 0, [], [228]) := rfl
theorem k98_20 : az_cd 98 20 = some (42, .invokevirtual 65, 3, 33, 1, 0, [], [264, 265, 49, 267, 266]) := rfl
theorem k98_21 : az_cd 98 21 = some (45, .aload_n 0, 1, 0, 0, 0, [], []) := rfl
theorem k98_22 : az_cd 98 22 = some (46, .getfield 12, 3, 8, 0, 0, [], [228]) := rfl
theorem k98_23 : az_cd 98 23 = some (49, .getfield 57, 3, 6, 3, 1, [], [159]) := rfl
theorem k98_24 : az_cd 98 24 = some (52, .invokevirtual 89, 3, 16, 0, 0, [], [353, 354, 46, 356, 355]) := rfl
theorem k98_25 : az_cd 98 25 = some (55, .iload_n 1, 1, 0, 0, 0, [], []) := rfl
theorem k98_26 : az_cd 98 26 = some (56, .ireturn, 1, 0, 0, 0, [], []) := rfl
theorem k99_0 : az_cd 99 0 = some (0, .aload_n 0, 1, 0, 0, 0, [], []) := rfl
theorem k99_1 : az_cd 99 1 = some (1, .getfield 12, 3, 8, 0, 0, [], [228]) := rfl
theorem k99_2 : az_cd 99 2 = some (4, .getfield 47, 3, 6, 4, 1, [], [161]) := rfl
theorem k99_3 : az_cd 99 3 = some (7, .invokevirtual 51, 3, 84, 0, 0, [], [255, 256, 47, 258, 257]) := rfl
theorem k99_4 : az_cd 99 4 = some (10, .ifCond .eq 6, 3, 7, 0, 0, [], []) := rfl
theorem k99_5 : az_cd 99 5 = some (13, .bipush (-4), 2, 0, 0, (-4), [], []) := rfl
theorem k99_6 : az_cd 99 6 = some (15, .ireturn, 1, 0, 0, 0, [], []) := rfl
theorem k99_7 : az_cd 99 7 = some (16, .aload_n 0, 1, 0, 0, 0, [], []) := rfl
theorem k99_8 : az_cd 99 8 = some (17, .getfield 12, 3, 8, 0, 0, [], [228]) := rfl
theorem k99_9 : az_cd 99 9 = some (20, .getfield 57, 3, 6, 3, 1, [], [159]) := rfl
theorem k99_10 : az_cd 99 10 = some (23, .invokevirtual 73, 3, 17, 0, 0, [], [306, 307, 46, 309, 308]) := rfl
theorem k99_11 : az_cd 99 11 = some (26, .ifCond .ne 6, 3, 14, 0, 0, [], []) := rfl
theorem k99_12 : az_cd 99 12 = some (29, .bipush (-5), 2, 0, 0, (-5), [], []) := rfl
theorem k99_13 : az_cd 99 13 = some (31, .ireturn, 1, 0, 0, 0, [], []) := rfl
theorem k99_14 : az_cd 99 14 = some (32, .aload_n 0, 1, 0, 0, 0, [], []) := rfl
theorem k99_15 : az_cd 99 15 = some (33, .getfield 22, 3, 8, 2, 0, [], [230]) := rfl
theorem k99_16 : az_cd 99 16 = some (36, .aload_n 0, 1, 0, 0, 0, [], []) := rfl
theorem k99_17 : az_cd 99 17 = some (37, .getfield 12, 3, 8, 0, 0, [], [228]) := rfl
theorem k99_18 : az_cd 99 18 = some (40, .invokevirtual 65, 3, 33, 1, 0, [], [264, 265, 49, 267, 266]) := rfl
theorem k99_19 : az_cd 99 19 = some (43, .aload_n 0, 1, 0, 0, 0, [], []) := rfl
theorem k99_20 : az_cd 99 20 = some (44, .getfield 12, 3, 8, 0, 0, [], [228]) := rfl
theorem k99_21 : az_cd 99 21 = some (47, .getfield 47, 3, 6, 4, 1, [], [161]) := rfl
theorem k99_22 : az_cd 99 22 = some (50, .invokevirtual 92, 3, 86, 0, 0, [], [361, 362, 47, 364, 363]) := rfl
theorem k99_23 : az_cd 99 23 = some (53, .aload_n 0, 1, 0, 0, 0, [], []) := rfl
theorem k99_24 : az_cd 99 24 = some (54, .getfield 12, 3, 8, 0, 0, [], [228]) := rfl
theorem k99_25 : az_cd 99 25 = some (57, .invokevirtual 95, 3, 71, 0, 0, [], [365, 366, 43, 368, 367]) := rfl
theorem k99_26 : az_cd 99 26 = some (60, .ireturn, 1, 0, 0, 0, [], []) := rfl
theorem k100_0 : az_cd 100 0 = some (0, .aload_n 0, 1, 0, 0, 0, [], []) := rfl
theorem k100_1 : az_cd 100 1 = some (1, .getfield 12, 3, 8, 0, 0, [], [228]) := rfl
theorem k100_2 : az_cd 100 2 = some (4, .getfield 47, 3, 6, 4, 1, [], [161]) := rfl
theorem k100_3 : az_cd 100 3 = some (7, .invokevirtual 51, 3, 84, 0, 0, [], [255, 256, 47, 258, 257]) := rfl
theorem k100_4 : az_cd 100 4 = some (10, .ifCond .ne 6, 3, 7, 0, 0, [], []) := rfl
theorem k100_5 : az_cd 100 5 = some (13, .bipush (-5), 2, 0, 0, (-5), [], []) := rfl
theorem k100_6 : az_cd 100 6 = some (15, .ireturn, 1, 0, 0, 0, [], []) := rfl
theorem k100_7 : az_cd 100 7 = some (16, .aload_n 0, 1, 0, 0, 0, [], []) := rfl
theorem k100_8 : az_cd 100 8 = some (17, .getfield 12, 3, 8, 0, 0, [], [228]) := rfl
theorem k100_9 : az_cd 100 9 = some (20, .invokevirtual 98, 3, 75, 0, 0, [], [382, 383, 43, 385, 384]) := rfl
theorem k100_10 : az_cd 100 10 = some (23, .ifCond .ne 6, 3, 13, 0, 0, [], []) := rfl
theorem k100_11 : az_cd 100 11 = some (26, .bipush (-3), 2, 0, 0, (-3), [], []) := rfl
theorem k100_12 : az_cd 100 12 = some (28, .ireturn, 1, 0, 0, 0, [], []) := rfl
theorem k100_13 : az_cd 100 13 = some (29, .aload_n 0, 1, 0, 0, 0, [], []) := rfl
theorem k100_14 : az_cd 100 14 = some (30, .getfield 22, 3, 8, 2, 0, [], [230]) := rfl
theorem k100_15 : az_cd 100 15 = some (33, .aload_n 0, 1, 0, 0, 0, [], []) := rfl
theorem k100_16 : az_cd 100 16 = some (34, .getfield 12, 3, 8, 0, 0, [], [228]) := rfl
theorem k100_17 : az_cd 100 17 = some (37, .invokevirtual 65, 3, 33, 1, 0, [], [264, 265, 49, 267, 266]) := rfl
theorem k100_18 : az_cd 100 18 = some (40, .aload_n 0, 1, 0, 0, 0, [], []) := rfl
theorem k100_19 : az_cd 100 19 = some (41, .getfield 12, 3, 8, 0, 0, [], [228]) := rfl
theorem k100_20 : az_cd 100 20 = some (44, .invokevirtual 101, 3, 76, 0, 0, [], [431, 432, 43, 434, 433]) := rfl
theorem k100_21 : az_cd 100 21 = some (47, .aload_n 0, 1, 0, 0, 0, [], []) := rfl
theorem k100_22 : az_cd 100 22 = some (48, .getfield 12, 3, 8, 0, 0, [], [228]) := rfl
theorem k100_23 : az_cd 100 23 = some (51, .invokevirtual 95, 3, 71, 0, 0, [], [365, 366, 43, 368, 367]) := rfl
theorem k100_24 : az_cd 100 24 = some (54, .ireturn, 1, 0, 0, 0, [], []) := rfl
theorem k101_0 : az_cd 101 0 = some (0, .aload_n 0, 1, 0, 0, 0, [], []) := rfl
theorem k101_1 : az_cd 101 1 = some (1, .getfield 12, 3, 8, 0, 0, [], [228]) := rfl
theorem k101_2 : az_cd 101 2 = some (4, .getfield 47, 3, 6, 4, 1, [], [161]) := rfl
theorem k101_3 : az_cd 101 3 = some (7, .invokevirtual 51, 3, 84, 0, 0, [], [255, 256, 47, 258, 257]) := rfl
theorem k101_4 : az_cd 101 4 = some (10, .ifCond .ne 6, 3, 7, 0, 0, [], []) := rfl
theorem k101_5 : az_cd 101 5 = some (13, .bipush (-5), 2, 0, 0, (-5), [], []) := rfl
theorem k101_6 : az_cd 101 6 = some (15, .ireturn, 1, 0, 0, 0, [], []) := rfl
theorem k101_7 : az_cd 101 7 = some (16, .aload_n 0, 1, 0, 0, 0, [], []) := rfl
theorem k101_8 : az_cd 101 8 = some (17, .getfield 12, 3, 8, 0, 0, [], [228]) := rfl
theorem k101_9 : az_cd 101 9 = some (20, .invokevirtual 98, 3, 75, 0, 0, [], [382, 383, 43, 385, 384]) := rfl
theorem k101_10 : az_cd 101 10 = some (23, .ifCond .ne 6, 3, 13, 0, 0, [], []) := rfl
theorem k101_11 : az_cd 101 11 = some (26, .bipush (-3), 2, 0, 0, (-3), [], []) := rfl
theorem k101_12 : az_cd 101 12 = some (28, .ireturn, 1, 0, 0, 0, [], []) := rfl
theorem k101_13 : az_cd 101 13 = some (29, .aload_n 0, 1, 0, 0, 0, [], []) := rfl
theorem k101_14 : az_cd 101 14 = some (30, .getfield 22, 3, 8, 2, 0, [], [230]) := rfl
theorem k101_15 : az_cd 101 15 = some (33, .aload_n 0, 1, 0, 0, 0, [], []) := rfl
theorem k101_16 : az_cd 101 16 = some (34, .getfield 12, 3, 8, 0, 0, [], [228]) := rfl
theorem k101_17 : az_cd 101 17 = some (37, .invokevirtual 65, 3, 33, 1, 0, [], [264, 265, 49, 267, 266]) := rfl
theorem k101_18 : az_cd 101 18 = some (40, .aload_n 0, 1, 0, 0, 0, [], []) := rfl
theorem k101_19 : az_cd 101 19 = some (41, .getfield 12, 3, 8, 0, 0, [], [228]) := rfl
theorem k101_20 : az_cd 101 20 = some (44, .invokevirtual 95, 3, 71, 0, 0, [], [365, 366, 43, 368, 367]) := rfl
theorem k101_21 : az_cd 101 21 = some (47, .istore_n 1, 1, 0, 0, 0, [], []) := rfl
theorem k101_22 : az_cd 101 22 = some (48, .iconst 0, 1, 0, 0, 0, [], []) := rfl
theorem k101_23 : az_cd 101 23 = some (49, .istore_n 2, 1, 0, 0, 0, [], []) := rfl
theorem k101_24 : az_cd 101 24 = some (50, .iload_n 2, 1, 0, 0, 0, [], []) := rfl
theorem k101_25 : az_cd 101 25 = some (51, .iload_n 1, 1, 0, 0, 0, [], []) := rfl
theorem k101_26 : az_cd 101 26 = some (52, .if_icmp .ge 26, 3, 36, 0, 0, [], []) := rfl
theorem k101_27 : az_cd 101 27 = some (55, .aload_n 0, 1, 0, 0, 0, [], []) := rfl
theorem k101_28 : az_cd 101 28 = some (56, .getfield 12, 3, 8, 0, 0, [], [228]) := rfl
theorem k101_29 : az_cd 101 29 = some (59, .invokevirtual 98, 3, 75, 0, 0, [], [382, 383, 43, 385, 384]) := rfl
theorem k101_30 : az_cd 101 30 = some (62, .ifCond .eq 16, 3, 36, 0, 0, [], []) := rfl
theorem k101_31 : az_cd 101 31 = some (65, .aload_n 0, 1, 0, 0, 0, [], []) := rfl
theorem k101_32 : az_cd 101 32 = some (66, .getfield 12, 3, 8, 0, 0, [], [228]) := rfl
theorem k101_33 : az_cd 101 33 = some (69, .invokevirtual 101, 3, 76, 0, 0, [], [431, 432, 43, 434, 433]) := rfl
theorem k101_34 : az_cd 101 34 = some (72, .iinc 2 1, 3, 0, 0, 1, [], []) := rfl
theorem k101_35 : az_cd 101 35 = some (75, .goto (-25), 3, 24, 0, 0, [], []) := rfl
theorem k101_36 : az_cd 101 36 = some (78, .aload_n 0, 1, 0, 0, 0, [], []) := rfl
theorem k101_37 : az_cd 101 37 = some (79, .getfield 12, 3, 8, 0, 0, [], [228]) := rfl
theorem k101_38 : az_cd 101 38 = some (82, .invokevirtual 95, 3, 71, 0, 0, [], [365, 366, 43, 368, 367]) := rfl
theorem k101_39 : az_cd 101 39 = some (85, .ireturn, 1, 0, 0, 0, [], []) := rfl
theorem k102_0 : az_cd 102 0 = some (0, .aload_n 0, 1, 0, 0, 0, [], []) := rfl
theorem k102_1 : az_cd 102 1 = some (1, .getfield 12, 3, 8, 0, 0, [], [228]) := rfl
theorem k102_2 : az_cd 102 2 = some (4, .getfield 47, 3, 6, 4, 1, [], [161]) := rfl
theorem k102_3 : az_cd 102 3 = some (7, .invokevirtual 51, 3, 84, 0, 0, [], [255, 256, 47, 258, 257]) := rfl
theorem k102_4 : az_cd 102 4 = some (10, .ifCond .ne 6, 3, 7, 0, 0, [], []) := rfl
theorem k102_5 : az_cd 102 5 = some (13, .bipush (-5), 2, 0, 0, (-5), [], []) := rfl
theorem k102_6 : az_cd 102 6 = some (15, .ireturn, 1, 0, 0, 0, [], []) := rfl
theorem k102_7 : az_cd 102 7 = some (16, .aload_n 0, 1, 0, 0, 0, [], []) := rfl
theorem k102_8 : az_cd 102 8 = some (17, .getfield 22, 3, 8, 2, 0, [], [230]) := rfl
theorem k102_9 : az_cd 102 9 = some (20, .aload_n 0, 1, 0, 0, 0, [], []) := rfl
theorem k102_10 : az_cd 102 10 = some (21, .getfield 12, 3, 8, 0, 0, [], [228]) := rfl
theorem k102_11 : az_cd 102 11 = some (24, .invokevirtual 65, 3, 33, 1, 0, [], [264, 265, 49, 267, 266]) := rfl
theorem k102_12 : az_cd 102 12 = some (27, .aload_n 0, 1, 0, 0, 0, [], []) := rfl
theorem k102_13 : az_cd 102 13 = some (28, .getfield 12, 3, 8, 0, 0, [], [228]) := rfl
theorem k102_14 : az_cd 102 14 = some (31, .getfield 47, 3, 6, 4, 1, [], [161]) := rfl
theorem k102_15 : az_cd 102 15 = some (34, .invokevirtual 104, 3, 85, 0, 0, [], [504, 375, 47, 377, 376]) := rfl
theorem k102_16 : az_cd 102 16 = some (37, .istore_n 1, 1, 0, 0, 0, [], []) := rfl
theorem k102_17 : az_cd 102 17 = some (38, .aload_n 0, 1, 0, 0, 0, [], []) := rfl
theorem k102_18 : az_cd 102 18 = some (39, .getfield 12, 3, 8, 0, 0, [], [228]) := rfl
theorem k102_19 : az_cd 102 19 = some (42, .getfield 47, 3, 6, 4, 1, [], [161]) := rfl
theorem k102_20 : az_cd 102 20 = some (45, .invokevirtual 107, 3, 87, 0, 0, [], [505, 493, 47, 495, 494]) := rfl
theorem k102_21 : az_cd 102 21 = some (48, .iload_n 1, 1, 0, 0, 0, [], []) := rfl
theorem k102_22 : az_cd 102 22 = some (49, .ireturn, 1, 0, 0, 0, [], []) := rfl
theorem k103_0 : az_cd 103 0 = some (0, .aload_n 0, 1, 0, 0, 0, [], []) := rfl
theorem k103_1 : az_cd 103 1 = some (1, .getfield 22, 3, 8, 2, 0, [], [230]) := rfl
theorem k103_2 : az_cd 103 2 = some (4, .aload_n 0, 1, 0, 0, 0, [], []) := rfl
theorem k103_3 : az_cd 103 3 = some (5, .getfield 12, 3, 8, 0, 0, [], [228]) := rfl
theorem k103_4 : az_cd 103 4 = some (8, .invokevirtual 65, 3, 33, 1, 0, [], [264, 265, 49, 267, 266]) := rfl
theorem k103_5 : az_cd 103 5 = some (11, .iload_n 1, 1, 0, 0, 0, [], []) := rfl
theorem k103_6 : az_cd 103 6 = some (12, .ifCond .eq 10, 3, 10, 0, 0, [], []) := rfl
theorem k103_7 : az_cd 103 7 = some (15, .aload_n 0, 1, 0, 0, 0, [], []) := rfl
theorem k103_8 : az_cd 103 8 = some (16, .getfield 12, 3, 8, 0, 0, [], [228]) := rfl
theorem k103_9 : az_cd 103 9 = some (19, .invokevirtual 110, 3, 80, 0, 0, [], [510, 511, 43, 513, 512]) := rfl
theorem k103_10 : az_cd 103 10 = some (22, .aload_n 0, 1, 0, 0, 0, [], []) := rfl
theorem k103_11 : az_cd 103 11 = some (23, .getfield 12, 3, 8, 0, 0, [], [228]) := rfl
theorem k103_12 : az_cd 103 12 = some (26, .invokevirtual 113, 3, 81, 0, 0, [], [514, 515, 43, 517, 516]) := rfl
theorem k103_13 : az_cd 103 13 = some (29, .aload_n 0, 1, 0, 0, 0, [], []) := rfl
theorem k103_14 : az_cd 103 14 = some (30, .getfield 12, 3, 8, 0, 0, [], [228]) := rfl
theorem k103_15 : az_cd 103 15 = some (33, .invokevirtual 116, 3, 64, 0, 0, [], [522, 404, 43, 406, 405]) := rfl
theorem k103_16 : az_cd 103 16 = some (36, .invokevirtual 120, 3, 22, 0, 0, [], [523, 462, 45, 464, 463]) := rfl
theorem k103_17 : az_cd 103 17 = some (39, .ireturn, 1, 0, 0, 0, [], []) := rfl
theorem k104_0 : az_cd 104 0 = some (0, .aload_n 0, 1, 0, 0, 0, [], []) := rfl
theorem k104_1 : az_cd 104 1 = some (1, .getfield 12, 3, 8, 0, 0, [], [228]) := rfl
theorem k104_2 : az_cd 104 2 = some (4, .getfield 125, 3, 6, 5, 1, [], [163]) := rfl
theorem k104_3 : az_cd 104 3 = some (7, .invokevirtual 129, 3, 50, 0, 0, [], [528, 529, 48, 531, 530]) := rfl
theorem k104_4 : az_cd 104 4 = some (10, .istore_n 1, 1, 0, 0, 0, [], []) := rfl
theorem k104_5 : az_cd 104 5 = some (11, .iload_n 1, 1, 0, 0, 0, [], []) := rfl
theorem k104_6 : az_cd 104 6 = some (12, .bipush (-5), 2, 0, 0, (-5), [], []) := rfl
theorem k104_7 : az_cd 104 7 = some (14, .if_icmp .ne 6, 3, 10, 0, 0, [], []) := rfl
theorem k104_8 : az_cd 104 8 = some (17, .bipush (-3), 2, 0, 0, (-3), [], []) := rfl
theorem k104_9 : az_cd 104 9 = some (19, .ireturn, 1, 0, 0, 0, [], []) := rfl
theorem k104_10 : az_cd 104 10 = some (20, .aload_n 0, 1, 0, 0, 0, [], []) := rfl
theorem k104_11 : az_cd 104 11 = some (21, .getfield 22, 3, 8, 2, 0, [], [230]) := rfl
theorem k104_12 : az_cd 104 12 = some (24, .aload_n 0, 1, 0, 0, 0, [], []) := rfl
theorem k104_13 : az_cd 104 13 = some (25, .getfield 12, 3, 8, 0, 0, [], [228]) := rfl
theorem k104_14 : az_cd 104 14 = some (28, .invokevirtual 65, 3, 33, 1, 0, [], [264, 265, 49, 267, 266]) := rfl
theorem k104_15 : az_cd 104 15 = some (31, .aload_n 0, 1, 0, 0, 0, [], []) := rfl
theorem k104_16 : az_cd 104 16 = some (32, .getfield 12, 3, 8, 0, 0, [], [228]) := rfl
theorem k104_17 : az_cd 104 17 = some (35, .getfield 125, 3, 6, 5, 1, [], [163]) := rfl
theorem k104_18 : az_cd 104 18 = some (38, .iload_n 1, 1, 0, 0, 0, [], []) := rfl
theorem k104_19 : az_cd 104 19 = some (39, .aload_n 0, 1, 0, 0, 0, [], []) := rfl
theorem k104_20 : az_cd 104 20 = some (40, .getfield 12, 3, 8, 0, 0, [], [228]) := rfl
theorem k104_21 : az_cd 104 21 = some (43, .invokevirtual 116, 3, 64, 0, 0, [], [522, 404, 43, 406, 405]) := rfl
theorem k104_22 : az_cd 104 22 = some (46, .invokevirtual 134, 3, 53, 2, 0, [], [532, 533, 48, 535, 534]) := rfl
theorem k104_23 : az_cd 104 23 = some (49, .iload_n 1, 1, 0, 0, 0, [], []) := rfl
theorem k104_24 : az_cd 104 24 = some (50, .ireturn, 1, 0, 0, 0, [], []) := rfl
theorem k105_0 : az_cd 105 0 = some (0, .aload_n 0, 1, 0, 0, 0, [], []) := rfl
theorem k105_1 : az_cd 105 1 = some (1, .getfield 12, 3, 8, 0, 0, [], [228]) := rfl
theorem k105_2 : az_cd 105 2 = some (4, .getfield 125, 3, 6, 5, 1, [], [163]) := rfl
theorem k105_3 : az_cd 105 3 = some (7, .iload_n 1, 1, 0, 0, 0, [], []) := rfl
theorem k105_4 : az_cd 105 4 = some (8, .invokevirtual 138, 3, 49, 1, 0, [], [540, 541, 48, 543, 542]) := rfl
theorem k105_5 : az_cd 105 5 = some (11, .ifCond .ne 5, 3, 8, 0, 0, [], []) := rfl
theorem k105_6 : az_cd 105 6 = some (14, .iconst (-1), 1, 0, 0, (-1), [], []) := rfl
theorem k105_7 : az_cd 105 7 = some (15, .ireturn, 1, 0, 0, 0, [], []) := rfl
theorem k105_8 : az_cd 105 8 = some (16, .aload_n 0, 1, 0, 0, 0, [], []) := rfl
theorem k105_9 : az_cd 105 9 = some (17, .getfield 22, 3, 8, 2, 0, [], [230]) := rfl
theorem k105_10 : az_cd 105 10 = some (20, .aload_n 0, 1, 0, 0, 0, [], []) := rfl
theorem k105_11 : az_cd 105 11 = some (21, .getfield 12, 3, 8, 0, 0, [], [228]) := rfl
theorem k105_12 : az_cd 105 12 = some (24, .invokevirtual 65, 3, 33, 1, 0, [], [264, 265, 49, 267, 266]) := rfl
theorem k105_13 : az_cd 105 13 = some (27, .aload_n 0, 1, 0, 0, 0, [], []) := rfl
theorem k105_14 : az_cd 105 14 = some (28, .getfield 12, 3, 8, 0, 0, [], [228]) := rfl
theorem k105_15 : az_cd 105 15 = some (31, .getfield 125, 3, 6, 5, 1, [], [163]) := rfl
theorem k105_16 : az_cd 105 16 = some (34, .iload_n 1, 1, 0, 0, 0, [], []) := rfl
theorem k105_17 : az_cd 105 17 = some (35, .invokevirtual 141, 3, 54, 1, 0, [], [544, 545, 48, 547, 546]) := rfl
theorem k105_18 : az_cd 105 18 = some (38, .aload_n 0, 1, 0, 0, 0, [], []) := rfl
theorem k105_19 : az_cd 105 19 = some (39, .getfield 12, 3, 8, 0, 0, [], [228]) := rfl
theorem k105_20 : az_cd 105 20 = some (42, .getfield 125, 3, 6, 5, 1, [], [163]) := rfl
theorem k105_21 : az_cd 105 21 = some (45, .invokevirtual 145, 3, 51, 0, 0, [], [548, 549, 48, 551, 550]) := rfl
theorem k105_22 : az_cd 105 22 = some (48, .ireturn, 1, 0, 0, 0, [], []) := rfl
theorem k106_0 : az_cd 106 0 = some (0, .aload_n 0, 1, 0, 0, 0, [], []) := rfl
theorem k106_1 : az_cd 106 1 = some (1, .getfield 29, 3, 8, 3, 0, [], [231]) := rfl
theorem k106_2 : az_cd 106 2 = some (4, .invokevirtual 148, 3, 37, 0, 0, [], [556, 557, 50, 559, 558]) := rfl
theorem k106_3 : az_cd 106 3 = some (7, .ifCond .eq 6, 3, 6, 0, 0, [], []) := rfl
theorem k106_4 : az_cd 106 4 = some (10, .bipush (-3), 2, 0, 0, (-3), [], []) := rfl
theorem k106_5 : az_cd 106 5 = some (12, .ireturn, 1, 0, 0, 0, [], []) := rfl
theorem k106_6 : az_cd 106 6 = some (13, .aload_n 0, 1, 0, 0, 0, [], []) := rfl
theorem k106_7 : az_cd 106 7 = some (14, .getfield 29, 3, 8, 3, 0, [], [231]) := rfl
theorem k106_8 : az_cd 106 8 = some (17, .iload_n 1, 1, 0, 0, 0, [], []) := rfl
theorem k106_9 : az_cd 106 9 = some (18, .invokevirtual 151, 3, 38, 1, 0, [], [560, 561, 50, 563, 562]) := rfl
theorem k106_10 : az_cd 106 10 = some (21, .aload_n 0, 1, 0, 0, 0, [], []) := rfl
theorem k106_11 : az_cd 106 11 = some (22, .getfield 29, 3, 8, 3, 0, [], [231]) := rfl
theorem k106_12 : az_cd 106 12 = some (25, .invokevirtual 155, 3, 36, 0, 0, [], [564, 565, 50, 567, 566]) := rfl
theorem k106_13 : az_cd 106 13 = some (28, .ireturn, 1, 0, 0, 0, [], []) := rfl
theorem k107_0 : az_cd 107 0 = some (0, .aload_n 0, 1, 0, 0, 0, [], []) := rfl
theorem k107_1 : az_cd 107 1 = some (1, .getfield 29, 3, 8, 3, 0, [], [231]) := rfl
theorem k107_2 : az_cd 107 2 = some (4, .invokevirtual 155, 3, 36, 0, 0, [], [564, 565, 50, 567, 566]) := rfl
theorem k107_3 : az_cd 107 3 = some (7, .istore_n 1, 1, 0, 0, 0, [], []) := rfl
theorem k107_4 : az_cd 107 4 = some (8, .aload_n 0, 1, 0, 0, 0, [], []) := rfl
theorem k107_5 : az_cd 107 5 = some (9, .getfield 29, 3, 8, 3, 0, [], [231]) := rfl
theorem k107_6 : az_cd 107 6 = some (12, .invokevirtual 158, 3, 39, 0, 0, [], [572, 573, 50, 575, 574]) := rfl
theorem k107_7 : az_cd 107 7 = some (15, .iload_n 1, 1, 0, 0, 0, [], []) := rfl
theorem k107_8 : az_cd 107 8 = some (16, .ireturn, 1, 0, 0, 0, [], []) := rfl
theorem k108_0 : az_cd 108 0 = some (0, .aload_n 0, 1, 0, 0, 0, [], []) := rfl
theorem k108_1 : az_cd 108 1 = some (1, .getfield 22, 3, 8, 2, 0, [], [230]) := rfl
theorem k108_2 : az_cd 108 2 = some (4, .invokevirtual 159, 3, 32, 0, 0, [], [580, 581, 49, 583, 582]) := rfl
theorem k108_3 : az_cd 108 3 = some (7, .ifCond .ne 6, 3, 6, 0, 0, [], []) := rfl
theorem k108_4 : az_cd 108 4 = some (10, .bipush (-5), 2, 0, 0, (-5), [], []) := rfl
theorem k108_5 : az_cd 108 5 = some (12, .ireturn, 1, 0, 0, 0, [], []) := rfl
theorem k108_6 : az_cd 108 6 = some (13, .aload_n 0, 1, 0, 0, 0, [], []) := rfl
theorem k108_7 : az_cd 108 7 = some (14, .getfield 22, 3, 8, 2, 0, [], [230]) := rfl
theorem k108_8 : az_cd 108 8 = some (17, .aload_n 0, 1, 0, 0, 0, [], []) := rfl
theorem k108_9 : az_cd 108 9 = some (18, .getfield 12, 3, 8, 0, 0, [], [228]) := rfl
theorem k108_10 : az_cd 108 10 = some (21, .invokevirtual 162, 3, 34, 1, 0, [], [584, 585, 49, 587, 586]) := rfl
theorem k108_11 : az_cd 108 11 = some (24, .aload_n 0, 1, 0, 0, 0, [], []) := rfl
theorem k108_12 : az_cd 108 12 = some (25, .getfield 22, 3, 8, 2, 0, [], [230]) := rfl
theorem k108_13 : az_cd 108 13 = some (28, .invokevirtual 159, 3, 32, 0, 0, [], [580, 581, 49, 583, 582]) := rfl
theorem k108_14 : az_cd 108 14 = some (31, .ireturn, 1, 0, 0, 0, [], []) := rfl
theorem k109_0 : az_cd 109 0 = some (0, .aload_n 0, 1, 0, 0, 0, [], []) := rfl
theorem k109_1 : az_cd 109 1 = some (1, .getfield 16, 3, 8, 1, 0, [], [229]) := rfl
theorem k109_2 : az_cd 109 2 = some (4, .aload_n 0, 1, 0, 0, 0, [], []) := rfl
theorem k109_3 : az_cd 109 3 = some (5, .getfield 12, 3, 8, 0, 0, [], [228]) := rfl
theorem k109_4 : az_cd 109 4 = some (8, .invokevirtual 165, 3, 82, 1, 0, [], [592, 272, 43, 274, 273]) := rfl
theorem k109_5 : az_cd 109 5 = some (11, .aload_n 0, 1, 0, 0, 0, [], []) := rfl
theorem k109_6 : az_cd 109 6 = some (12, .iconst 1, 1, 0, 0, 1, [], []) := rfl
theorem k109_7 : az_cd 109 7 = some (13, .putfield 33, 3, 8, 4, 0, [], [232]) := rfl
theorem k109_8 : az_cd 109 8 = some (16, .aload_n 0, 1, 0, 0, 0, [], []) := rfl
theorem k109_9 : az_cd 109 9 = some (17, .getfield 12, 3, 8, 0, 0, [], [228]) := rfl
theorem k109_10 : az_cd 109 10 = some (20, .invokevirtual 116, 3, 64, 0, 0, [], [522, 404, 43, 406, 405]) := rfl
theorem k109_11 : az_cd 109 11 = some (23, .invokevirtual 120, 3, 22, 0, 0, [], [523, 462, 45, 464, 463]) := rfl
theorem k109_12 : az_cd 109 12 = some (26, .ireturn, 1, 0, 0, 0, [], []) := rfl
theorem k110_0 : az_cd 110 0 = some (0, .aload_n 0, 1, 0, 0, 0, [], []) := rfl
theorem k110_1 : az_cd 110 1 = some (1, .getfield 33, 3, 8, 4, 0, [], [232]) := rfl
theorem k110_2 : az_cd 110 2 = some (4, .ifCond .ne 6, 3, 5, 0, 0, [], []) := rfl
theorem k110_3 : az_cd 110 3 = some (7, .bipush (-5), 2, 0, 0, (-5), [], []) := rfl
theorem k110_4 : az_cd 110 4 = some (9, .ireturn, 1, 0, 0, 0, [], []) := rfl
theorem k110_5 : az_cd 110 5 = some (10, .aload_n 0, 1, 0, 0, 0, [], []) := rfl
theorem k110_6 : az_cd 110 6 = some (11, .getfield 22, 3, 8, 2, 0, [], [230]) := rfl
theorem k110_7 : az_cd 110 7 = some (14, .aload_n 0, 1, 0, 0, 0, [], []) := rfl
theorem k110_8 : az_cd 110 8 = some (15, .getfield 12, 3, 8, 0, 0, [], [228]) := rfl
theorem k110_9 : az_cd 110 9 = some (18, .invokevirtual 65, 3, 33, 1, 0, [], [264, 265, 49, 267, 266]) := rfl
theorem k110_10 : az_cd 110 10 = some (21, .aload_n 0, 1, 0, 0, 0, [], []) := rfl
theorem k110_11 : az_cd 110 11 = some (22, .getfield 12, 3, 8, 0, 0, [], [228]) := rfl
theorem k110_12 : az_cd 110 12 = some (25, .aload_n 0, 1, 0, 0, 0, [], []) := rfl
theorem k110_13 : az_cd 110 13 = some (26, .getfield 16, 3, 8, 1, 0, [], [229]) := rfl
theorem k110_14 : az_cd 110 14 = some (29, .invokevirtual 165, 3, 82, 1, 0, [], [592, 272, 43, 274, 273]) := rfl
theorem k110_15 : az_cd 110 15 = some (32, .aload_n 0, 1, 0, 0, 0, [], []) := rfl
theorem k110_16 : az_cd 110 16 = some (33, .getfield 12, 3, 8, 0, 0, [], [228]) := rfl
theorem k110_17 : az_cd 110 17 = some (36, .invokevirtual 116, 3, 64, 0, 0, [], [522, 404, 43, 406, 405]) := rfl
theorem k110_18 : az_cd 110 18 = some (39, .invokevirtual 120, 3, 22, 0, 0, [], [523, 462, 45, 464, 463]) := rfl
theorem k110_19 : az_cd 110 19 = some (42, .ireturn, 1, 0, 0, 0, [], []) := rfl
theorem k111_0 : az_cd 111 0 = some (0, .iload_n 1, 1, 0, 0, 0, [], []) := rfl
theorem k111_1 : az_cd 111 1 = some (1, .invokestatic 37, 3, 121, 1, 0, [], [248, 249, 42, 250]) := rfl
theorem k111_2 : az_cd 111 2 = some (4, .ifCond .ne 5, 3, 5, 0, 0, [], []) := rfl
theorem k111_3 : az_cd 111 3 = some (7, .iconst (-1), 1, 0, 0, (-1), [], []) := rfl
theorem k111_4 : az_cd 111 4 = some (8, .ireturn, 1, 0, 0, 0, [], []) := rfl
theorem k111_5 : az_cd 111 5 = some (9, .aload_n 0, 1, 0, 0, 0, [], []) := rfl
theorem k111_6 : az_cd 111 6 = some (10, .getfield 12, 3, 8, 0, 0, [], [228]) := rfl
theorem k111_7 : az_cd 111 7 = some (13, .iload_n 1, 1, 0, 0, 0, [], []) := rfl
theorem k111_8 : az_cd 111 8 = some (14, .invokevirtual 168, 3, 65, 1, 0, [], [601, 602, 43, 604, 603]) := rfl
theorem k111_9 : az_cd 111 9 = some (17, .ireturn, 1, 0, 0, 0, [], []) := rfl
theorem k112_0 : az_cd 112 0 = some (0, .iload_n 1, 1, 0, 0, 0, [], []) := rfl
theorem k112_1 : az_cd 112 1 = some (1, .invokestatic 37, 3, 121, 1, 0, [], [248, 249, 42, 250]) := rfl
theorem k112_2 : az_cd 112 2 = some (4, .ifCond .ne 5, 3, 5, 0, 0, [], []) := rfl
theorem k112_3 : az_cd 112 3 = some (7, .iconst (-1), 1, 0, 0, (-1), [], []) := rfl
theorem k112_4 : az_cd 112 4 = some (8, .ireturn, 1, 0, 0, 0, [], []) := rfl
theorem k112_5 : az_cd 112 5 = some (9, .aload_n 0, 1, 0, 0, 0, [], []) := rfl
theorem k112_6 : az_cd 112 6 = some (10, .getfield 12, 3, 8, 0, 0, [], [228]) := rfl
theorem k112_7 : az_cd 112 7 = some (13, .iload_n 1, 1, 0, 0, 0, [], []) := rfl
theorem k112_8 : az_cd 112 8 = some (14, .invokevirtual 171, 3, 66, 1, 0, [], [613, 614, 43, 616, 615]) := rfl
theorem k112_9 : az_cd 112 9 = some (17, .ireturn, 1, 0, 0, 0, [], []) := rfl
theorem k113_0 : az_cd 113 0 = some (0, .aload_n 0, 1, 0, 0, 0, [], []) := rfl
theorem k113_1 : az_cd 113 1 = some (1, .getfield 12, 3, 8, 0, 0, [], [228]) := rfl
theorem k113_2 : az_cd 113 2 = some (4, .getfield 125, 3, 6, 5, 1, [], [163]) := rfl
theorem k113_3 : az_cd 113 3 = some (7, .iload_n 1, 1, 0, 0, 0, [], []) := rfl
theorem k113_4 : az_cd 113 4 = some (8, .invokevirtual 138, 3, 49, 1, 0, [], [540, 541, 48, 543, 542]) := rfl
theorem k113_5 : az_cd 113 5 = some (11, .ifCond .eq 10, 3, 9, 0, 0, [], []) := rfl
theorem k113_6 : az_cd 113 6 = some (14, .iload_n 2, 1, 0, 0, 0, [], []) := rfl
theorem k113_7 : az_cd 113 7 = some (15, .invokestatic 37, 3, 121, 1, 0, [], [248, 249, 42, 250]) := rfl
theorem k113_8 : az_cd 113 8 = some (18, .ifCond .ne 5, 3, 11, 0, 0, [], []) := rfl
theorem k113_9 : az_cd 113 9 = some (21, .iconst (-1), 1, 0, 0, (-1), [], []) := rfl
theorem k113_10 : az_cd 113 10 = some (22, .ireturn, 1, 0, 0, 0, [], []) := rfl
theorem k113_11 : az_cd 113 11 = some (23, .aload_n 0, 1, 0, 0, 0, [], []) := rfl
theorem k113_12 : az_cd 113 12 = some (24, .getfield 12, 3, 8, 0, 0, [], [228]) := rfl
theorem k113_13 : az_cd 113 13 = some (27, .getfield 174, 3, 6, 0, 1, [], [155]) := rfl
theorem k113_14 : az_cd 113 14 = some (30, .aload_n 0, 1, 0, 0, 0, [], []) := rfl
theorem k113_15 : az_cd 113 15 = some (31, .getfield 12, 3, 8, 0, 0, [], [228]) := rfl
theorem k113_16 : az_cd 113 16 = some (34, .getfield 125, 3, 6, 5, 1, [], [163]) := rfl
theorem k113_17 : az_cd 113 17 = some (37, .iload_n 1, 1, 0, 0, 0, [], []) := rfl
theorem k113_18 : az_cd 113 18 = some (38, .iload_n 2, 1, 0, 0, 0, [], []) := rfl
theorem k113_19 : az_cd 113 19 = some (39, .invokevirtual 178, 3, 57, 2, 0, [], [622, 623, 48, 625, 624]) := rfl
theorem k113_20 : az_cd 113 20 = some (42, .invokevirtual 181, 3, 4, 1, 0, [], [628, 606, 44, 608, 607]) := rfl
theorem k113_21 : az_cd 113 21 = some (45, .ireturn, 1, 0, 0, 0, [], []) := rfl
theorem k114_0 : az_cd 114 0 = some (0, .iload_n 1, 1, 0, 0, 0, [], []) := rfl
theorem k114_1 : az_cd 114 1 = some (1, .invokestatic 186, 3, 122, 1, 0, [], [633, 429, 42, 430]) := rfl
theorem k114_2 : az_cd 114 2 = some (4, .ifCond .ne 5, 3, 5, 0, 0, [], []) := rfl
theorem k114_3 : az_cd 114 3 = some (7, .iconst (-1), 1, 0, 0, (-1), [], []) := rfl
theorem k114_4 : az_cd 114 4 = some (8, .ireturn, 1, 0, 0, 0, [], []) := rfl
theorem k114_5 : az_cd 114 5 = some (9, .iload_n 2, 1, 0, 0, 0, [], []) := rfl
theorem k114_6 : az_cd 114 6 = some (10, .tableswitch 145 0 7 #[46, 58, 70, 85, 97, 109, 121, 133], 46, 56, 0, 0, [7, 13, 19, 26, 32, 38, 44, 50], []) := rfl
theorem k114_7 : az_cd 114 7 = some (56, .aload_n 0, 1, 0, 0, 0, [], []) := rfl
theorem k114_8 : az_cd 114 8 = some (57, .getfield 12, 3, 8, 0, 0, [], [228]) := rfl
theorem k114_9 : az_cd 114 9 = some (60, .getfield 174, 3, 6, 0, 1, [], [155]) := rfl
theorem k114_10 : az_cd 114 10 = some (63, .iload_n 1, 1, 0, 0, 0, [], []) := rfl
theorem k114_11 : az_cd 114 11 = some (64, .invokevirtual 181, 3, 4, 1, 0, [], [628, 606, 44, 608, 607]) := rfl
theorem k114_12 : az_cd 114 12 = some (67, .ireturn, 1, 0, 0, 0, [], []) := rfl
theorem k114_13 : az_cd 114 13 = some (68, .aload_n 0, 1, 0, 0, 0, [], []) := rfl
theorem k114_14 : az_cd 114 14 = some (69, .getfield 12, 3, 8, 0, 0, [], [228]) := rfl
theorem k114_15 : az_cd 114 15 = some (72, .getfield 174, 3, 6, 0, 1, [], [155]) := rfl
theorem k114_16 : az_cd 114 16 = some (75, .iload_n 1, 1, 0, 0, 0, [], []) := rfl
theorem k114_17 : az_cd 114 17 = some (76, .invokevirtual 189, 3, 5, 1, 0, [], [634, 635, 44, 637, 636]) := rfl
theorem k114_18 : az_cd 114 18 = some (79, .ireturn, 1, 0, 0, 0, [], []) := rfl
theorem k114_19 : az_cd 114 19 = some (80, .aload_n 0, 1, 0, 0, 0, [], []) := rfl
theorem k114_20 : az_cd 114 20 = some (81, .getfield 12, 3, 8, 0, 0, [], [228]) := rfl
theorem k114_21 : az_cd 114 21 = some (84, .getfield 174, 3, 6, 0, 1, [], [155]) := rfl
theorem k114_22 : az_cd 114 22 = some (87, .iload_n 1, 1, 0, 0, 0, [], []) := rfl
theorem k114_23 : az_cd 114 23 = some (88, .invokevirtual 192, 3, 7, 1, 0, [], [638, 639, 44, 641, 640]) := rfl
theorem k114_24 : az_cd 114 24 = some (91, .invokestatic 195, 3, 123, 1, 0, [], [642, 643, 42, 644]) := rfl
theorem k114_25 : az_cd 114 25 = some (94, .ireturn, 1, 0, 0, 0, [], []) := rfl
theorem k114_26 : az_cd 114 26 = some (95, .aload_n 0, 1, 0, 0, 0, [], []) := rfl
theorem k114_27 : az_cd 114 27 = some (96, .getfield 12, 3, 8, 0, 0, [], [228]) := rfl
theorem k114_28 : az_cd 114 28 = some (99, .getfield 174, 3, 6, 0, 1, [], [155]) := rfl
theorem k114_29 : az_cd 114 29 = some (102, .iload_n 1, 1, 0, 0, 0, [], []) := rfl
theorem k114_30 : az_cd 114 30 = some (103, .invokevirtual 199, 3, 6, 1, 0, [], [645, 425, 44, 427, 426]) := rfl
theorem k114_31 : az_cd 114 31 = some (106, .ireturn, 1, 0, 0, 0, [], []) := rfl
theorem k114_32 : az_cd 114 32 = some (107, .aload_n 0, 1, 0, 0, 0, [], []) := rfl
theorem k114_33 : az_cd 114 33 = some (108, .getfield 12, 3, 8, 0, 0, [], [228]) := rfl
theorem k114_34 : az_cd 114 34 = some (111, .iload_n 1, 1, 0, 0, 0, [], []) := rfl
theorem k114_35 : az_cd 114 35 = some (112, .invokevirtual 202, 3, 67, 1, 0, [], [646, 400, 43, 402, 401]) := rfl
theorem k114_36 : az_cd 114 36 = some (115, .invokestatic 195, 3, 123, 1, 0, [], [642, 643, 42, 644]) := rfl
theorem k114_37 : az_cd 114 37 = some (118, .ireturn, 1, 0, 0, 0, [], []) := rfl
theorem k114_38 : az_cd 114 38 = some (119, .aload_n 0, 1, 0, 0, 0, [], []) := rfl
theorem k114_39 : az_cd 114 39 = some (120, .getfield 12, 3, 8, 0, 0, [], [228]) := rfl
theorem k114_40 : az_cd 114 40 = some (123, .invokevirtual 116, 3, 64, 0, 0, [], [522, 404, 43, 406, 405]) := rfl
theorem k114_41 : az_cd 114 41 = some (126, .iload_n 1, 1, 0, 0, 0, [], []) := rfl
theorem k114_42 : az_cd 114 42 = some (127, .invokevirtual 205, 3, 27, 1, 0, [], [647, 412, 45, 414, 413]) := rfl
theorem k114_43 : az_cd 114 43 = some (130, .ireturn, 1, 0, 0, 0, [], []) := rfl
theorem k114_44 : az_cd 114 44 = some (131, .aload_n 0, 1, 0, 0, 0, [], []) := rfl
theorem k114_45 : az_cd 114 45 = some (132, .getfield 12, 3, 8, 0, 0, [], [228]) := rfl
theorem k114_46 : az_cd 114 46 = some (135, .getfield 125, 3, 6, 5, 1, [], [163]) := rfl
theorem k114_47 : az_cd 114 47 = some (138, .iload_n 1, 1, 0, 0, 0, [], []) := rfl
theorem k114_48 : az_cd 114 48 = some (139, .invokevirtual 208, 3, 52, 1, 0, [], [648, 416, 48, 418, 417]) := rfl
theorem k114_49 : az_cd 114 49 = some (142, .ireturn, 1, 0, 0, 0, [], []) := rfl
theorem k114_50 : az_cd 114 50 = some (143, .aload_n 0, 1, 0, 0, 0, [], []) := rfl
theorem k114_51 : az_cd 114 51 = some (144, .getfield 12, 3, 8, 0, 0, [], [228]) := rfl
theorem k114_52 : az_cd 114 52 = some (147, .getfield 47, 3, 6, 4, 1, [], [161]) := rfl
theorem k114_53 : az_cd 114 53 = some (150, .iload_n 1, 1, 0, 0, 0, [], []) := rfl
theorem k114_54 : az_cd 114 54 = some (151, .invokevirtual 211, 3, 91, 1, 0, [], [649, 421, 47, 423, 422]) := rfl
theorem k114_55 : az_cd 114 55 = some (154, .ireturn, 1, 0, 0, 0, [], []) := rfl
theorem k114_56 : az_cd 114 56 = some (155, .bipush (-2), 2, 0, 0, (-2), [], []) := rfl
theorem k114_57 : az_cd 114 57 = some (157, .ireturn, 1, 0, 0, 0, [], []) := rfl
theorem k115_0 : az_cd 115 0 = some (0, .iload_n 1, 1, 0, 0, 0, [], []) := rfl
theorem k115_1 : az_cd 115 1 = some (1, .ifCond .eq 10, 3, 7, 0, 0, [], []) := rfl
theorem k115_2 : az_cd 115 2 = some (4, .iload_n 1, 1, 0, 0, 0, [], []) := rfl
theorem k115_3 : az_cd 115 3 = some (5, .iconst 1, 1, 0, 0, 1, [], []) := rfl
theorem k115_4 : az_cd 115 4 = some (6, .if_icmp .eq 5, 3, 7, 0, 0, [], []) := rfl
theorem k115_5 : az_cd 115 5 = some (9, .iconst (-1), 1, 0, 0, (-1), [], []) := rfl
theorem k115_6 : az_cd 115 6 = some (10, .ireturn, 1, 0, 0, 0, [], []) := rfl
theorem k115_7 : az_cd 115 7 = some (11, .aload_n 0, 1, 0, 0, 0, [], []) := rfl
theorem k115_8 : az_cd 115 8 = some (12, .getfield 12, 3, 8, 0, 0, [], [228]) := rfl
theorem k115_9 : az_cd 115 9 = some (15, .iload_n 1, 1, 0, 0, 0, [], []) := rfl
theorem k115_10 : az_cd 115 10 = some (16, .invokevirtual 214, 3, 63, 1, 0, [], [654, 408, 43, 410, 409]) := rfl
theorem k115_11 : az_cd 115 11 = some (19, .astore_n 3, 1, 0, 0, 0, [], []) := rfl
theorem k115_12 : az_cd 115 12 = some (20, .iload_n 2, 1, 0, 0, 0, [], []) := rfl
theorem k115_13 : az_cd 115 13 = some (21, .tableswitch 69 0 3 #[31, 36, 44, 64], 31, 34, 0, 0, [14, 17, 21, 31], []) := rfl
theorem k115_14 : az_cd 115 14 = some (52, .aload_n 3, 1, 0, 0, 0, [], []) := rfl
theorem k115_15 : az_cd 115 15 = some (53, .invokevirtual 120, 3, 22, 0, 0, [], [523, 462, 45, 464, 463]) := rfl
theorem k115_16 : az_cd 115 16 = some (56, .ireturn, 1, 0, 0, 0, [], []) := rfl
theorem k115_17 : az_cd 115 17 = some (57, .aload_n 3, 1, 0, 0, 0, [], []) := rfl
theorem k115_18 : az_cd 115 18 = some (58, .invokevirtual 218, 3, 23, 0, 0, [], [655, 656, 45, 658, 657]) := rfl
theorem k115_19 : az_cd 115 19 = some (61, .invokestatic 195, 3, 123, 1, 0, [], [642, 643, 42, 644]) := rfl
theorem k115_20 : az_cd 115 20 = some (64, .ireturn, 1, 0, 0, 0, [], []) := rfl
theorem k115_21 : az_cd 115 21 = some (65, .iload_n 1, 1, 0, 0, 0, [], []) := rfl
theorem k115_22 : az_cd 115 22 = some (66, .aload_n 0, 1, 0, 0, 0, [], []) := rfl
theorem k115_23 : az_cd 115 23 = some (67, .getfield 12, 3, 8, 0, 0, [], [228]) := rfl
theorem k115_24 : az_cd 115 24 = some (70, .invokevirtual 220, 3, 60, 0, 0, [], [659, 660, 43, 662, 661]) := rfl
theorem k115_25 : az_cd 115 25 = some (73, .if_icmp .ne 7, 3, 28, 0, 0, [], []) := rfl
theorem k115_26 : az_cd 115 26 = some (76, .iconst 1, 1, 0, 0, 1, [], []) := rfl
theorem k115_27 : az_cd 115 27 = some (77, .goto 4, 3, 29, 0, 0, [], []) := rfl
theorem k115_28 : az_cd 115 28 = some (80, .iconst 0, 1, 0, 0, 0, [], []) := rfl
theorem k115_29 : az_cd 115 29 = some (81, .invokestatic 195, 3, 123, 1, 0, [], [642, 643, 42, 644]) := rfl
theorem k115_30 : az_cd 115 30 = some (84, .ireturn, 1, 0, 0, 0, [], []) := rfl
theorem k115_31 : az_cd 115 31 = some (85, .aload_n 3, 1, 0, 0, 0, [], []) := rfl
theorem k115_32 : az_cd 115 32 = some (86, .invokevirtual 223, 3, 28, 0, 0, [], [663, 664, 45, 666, 665]) := rfl
theorem k115_33 : az_cd 115 33 = some (89, .ireturn, 1, 0, 0, 0, [], []) := rfl
theorem k115_34 : az_cd 115 34 = some (90, .iload_n 2, 1, 0, 0, 0, [], []) := rfl
theorem k115_35 : az_cd 115 35 = some (91, .bipush 10, 2, 0, 0, 10, [], []) := rfl
theorem k115_36 : az_cd 115 36 = some (93, .if_icmp .lt 9, 3, 40, 0, 0, [], []) := rfl
theorem k115_37 : az_cd 115 37 = some (96, .iload_n 2, 1, 0, 0, 0, [], []) := rfl
theorem k115_38 : az_cd 115 38 = some (97, .bipush 18, 2, 0, 0, 18, [], []) := rfl
theorem k115_39 : az_cd 115 39 = some (99, .if_icmp .lt 6, 3, 42, 0, 0, [], []) := rfl
theorem k115_40 : az_cd 115 40 = some (102, .bipush (-2), 2, 0, 0, (-2), [], []) := rfl
theorem k115_41 : az_cd 115 41 = some (104, .ireturn, 1, 0, 0, 0, [], []) := rfl
theorem k115_42 : az_cd 115 42 = some (105, .aload_n 3, 1, 0, 0, 0, [], []) := rfl
theorem k115_43 : az_cd 115 43 = some (106, .iload_n 2, 1, 0, 0, 0, [], []) := rfl
theorem k115_44 : az_cd 115 44 = some (107, .bipush 10, 2, 0, 0, 10, [], []) := rfl
theorem k115_45 : az_cd 115 45 = some (109, .isub, 1, 0, 0, 0, [], []) := rfl
theorem k115_46 : az_cd 115 46 = some (110, .invokevirtual 226, 3, 25, 1, 0, [], [667, 479, 45, 481, 480]) := rfl
theorem k115_47 : az_cd 115 47 = some (113, .ireturn, 1, 0, 0, 0, [], []) := rfl
theorem k116_0 : az_cd 116 0 = some (0, .iload_n 1, 1, 0, 0, 0, [], []) := rfl
theorem k116_1 : az_cd 116 1 = some (1, .ifCond .lt 12, 3, 7, 0, 0, [], []) := rfl
theorem k116_2 : az_cd 116 2 = some (4, .iload_n 2, 1, 0, 0, 0, [], []) := rfl
theorem k116_3 : az_cd 116 3 = some (5, .ifCond .lt 8, 3, 7, 0, 0, [], []) := rfl
theorem k116_4 : az_cd 116 4 = some (8, .iload_n 2, 1, 0, 0, 0, [], []) := rfl
theorem k116_5 : az_cd 116 5 = some (9, .iconst 1, 1, 0, 0, 1, [], []) := rfl
theorem k116_6 : az_cd 116 6 = some (10, .if_icmp .le 6, 3, 9, 0, 0, [], []) := rfl
theorem k116_7 : az_cd 116 7 = some (13, .bipush (-2), 2, 0, 0, (-2), [], []) := rfl
theorem k116_8 : az_cd 116 8 = some (15, .ireturn, 1, 0, 0, 0, [], []) := rfl
theorem k116_9 : az_cd 116 9 = some (16, .iload_n 1, 1, 0, 0, 0, [], []) := rfl
theorem k116_10 : az_cd 116 10 = some (17, .aload_n 0, 1, 0, 0, 0, [], []) := rfl
theorem k116_11 : az_cd 116 11 = some (18, .getfield 12, 3, 8, 0, 0, [], [228]) := rfl
theorem k116_12 : az_cd 116 12 = some (21, .invokevirtual 95, 3, 71, 0, 0, [], [365, 366, 43, 368, 367]) := rfl
theorem k116_13 : az_cd 116 13 = some (24, .if_icmp .lt 6, 3, 16, 0, 0, [], []) := rfl
theorem k116_14 : az_cd 116 14 = some (27, .bipush (-5), 2, 0, 0, (-5), [], []) := rfl
theorem k116_15 : az_cd 116 15 = some (29, .ireturn, 1, 0, 0, 0, [], []) := rfl
theorem k116_16 : az_cd 116 16 = some (30, .iload_n 2, 1, 0, 0, 0, [], []) := rfl
theorem k116_17 : az_cd 116 17 = some (31, .ifCond .ne 14, 3, 23, 0, 0, [], []) := rfl
theorem k116_18 : az_cd 116 18 = some (34, .aload_n 0, 1, 0, 0, 0, [], []) := rfl
theorem k116_19 : az_cd 116 19 = some (35, .getfield 12, 3, 8, 0, 0, [], [228]) := rfl
theorem k116_20 : az_cd 116 20 = some (38, .iload_n 1, 1, 0, 0, 0, [], []) := rfl
theorem k116_21 : az_cd 116 21 = some (39, .invokevirtual 228, 3, 73, 1, 0, [], [672, 387, 43, 389, 388]) := rfl
theorem k116_22 : az_cd 116 22 = some (42, .goto 11, 3, 27, 0, 0, [], []) := rfl
theorem k116_23 : az_cd 116 23 = some (45, .aload_n 0, 1, 0, 0, 0, [], []) := rfl
theorem k116_24 : az_cd 116 24 = some (46, .getfield 12, 3, 8, 0, 0, [], [228]) := rfl
theorem k116_25 : az_cd 116 25 = some (49, .iload_n 1, 1, 0, 0, 0, [], []) := rfl
theorem k116_26 : az_cd 116 26 = some (50, .invokevirtual 231, 3, 74, 1, 0, [], [673, 674, 43, 676, 675]) := rfl
theorem k116_27 : az_cd 116 27 = some (53, .ireturn, 1, 0, 0, 0, [], []) := rfl
theorem k117_0 : az_cd 117 0 = some (0, .aload_n 0, 1, 0, 0, 0, [], []) := rfl
theorem k117_1 : az_cd 117 1 = some (1, .getfield 12, 3, 8, 0, 0, [], [228]) := rfl
theorem k117_2 : az_cd 117 2 = some (4, .getfield 125, 3, 6, 5, 1, [], [163]) := rfl
theorem k117_3 : az_cd 117 3 = some (7, .iload_n 1, 1, 0, 0, 0, [], []) := rfl
theorem k117_4 : az_cd 117 4 = some (8, .invokevirtual 138, 3, 49, 1, 0, [], [540, 541, 48, 543, 542]) := rfl
theorem k117_5 : az_cd 117 5 = some (11, .ifCond .ne 5, 3, 8, 0, 0, [], []) := rfl
theorem k117_6 : az_cd 117 6 = some (14, .iconst (-1), 1, 0, 0, (-1), [], []) := rfl
theorem k117_7 : az_cd 117 7 = some (15, .ireturn, 1, 0, 0, 0, [], []) := rfl
theorem k117_8 : az_cd 117 8 = some (16, .aload_n 0, 1, 0, 0, 0, [], []) := rfl
theorem k117_9 : az_cd 117 9 = some (17, .getfield 12, 3, 8, 0, 0, [], [228]) := rfl
theorem k117_10 : az_cd 117 10 = some (20, .getfield 125, 3, 6, 5, 1, [], [163]) := rfl
theorem k117_11 : az_cd 117 11 = some (23, .iload_n 1, 1, 0, 0, 0, [], []) := rfl
theorem k117_12 : az_cd 117 12 = some (24, .invokevirtual 234, 3, 56, 1, 0, [], [681, 682, 48, 684, 683]) := rfl
theorem k117_13 : az_cd 117 13 = some (27, .ireturn, 1, 0, 0, 0, [], []) := rfl
theorem k118_0 : az_cd 118 0 = some (0, .aload_n 0, 1, 0, 0, 0, [], []) := rfl
theorem k118_1 : az_cd 118 1 = some (1, .getfield 12, 3, 8, 0, 0, [], [228]) := rfl
theorem k118_2 : az_cd 118 2 = some (4, .getfield 174, 3, 6, 0, 1, [], [155]) := rfl
theorem k118_3 : az_cd 118 3 = some (7, .invokevirtual 237, 3, 9, 0, 0, [], [690, 691, 44, 693, 692]) := rfl
theorem k118_4 : az_cd 118 4 = some (10, .i2d, 1, 0, 0, 0, [], []) := rfl
theorem k118_5 : az_cd 118 5 = some (11, .aload_n 0, 1, 0, 0, 0, [], []) := rfl
theorem k118_6 : az_cd 118 6 = some (12, .getfield 12, 3, 8, 0, 0, [], [228]) := rfl
theorem k118_7 : az_cd 118 7 = some (15, .getfield 174, 3, 6, 0, 1, [], [155]) := rfl
theorem k118_8 : az_cd 118 8 = some (18, .invokevirtual 240, 3, 10, 0, 0, [], [694, 695, 44, 697, 696]) := rfl
theorem k118_9 : az_cd 118 9 = some (21, .i2d, 1, 0, 0, 0, [], []) := rfl
theorem k118_10 : az_cd 118 10 = some (22, .ldc2_w 243, 3, 4627448617123184640, 2, 0, [], [698]) := rfl
theorem k118_11 : az_cd 118 11 = some (25, .ddiv, 1, 0, 0, 0, [], []) := rfl
theorem k118_12 : az_cd 118 12 = some (26, .dsub, 1, 0, 0, 0, [], []) := rfl
theorem k118_13 : az_cd 118 13 = some (27, .dreturn, 1, 0, 0, 0, [], []) := rfl
theorem k119_0 : az_cd 119 0 = some (0, .aload_n 0, 1, 0, 0, 0, [], []) := rfl
theorem k119_1 : az_cd 119 1 = some (1, .invokevirtual 245, 3, 118, 0, 0, [], [703, 687, 42, 689, 688]) := rfl
theorem k119_2 : az_cd 119 2 = some (4, .d2f, 1, 0, 0, 0, [], []) := rfl
theorem k119_3 : az_cd 119 3 = some (5, .invokestatic 249, 3, 126, 1, 0, [], [704, 705, 42, 706]) := rfl
theorem k119_4 : az_cd 119 4 = some (8, .ireturn, 1, 0, 0, 0, [], []) := rfl
theorem k120_0 : az_cd 120 0 = some (0, .iload_n 1, 1, 0, 0, 0, [], []) := rfl
theorem k120_1 : az_cd 120 1 = some (1, .tableswitch 243 0 16 #[83, 94, 102, 113, 124, 132, 143, 151, 162, 173, 181, 192, 203, 211, 219, 227, 235], 83, 78, 0, 0, [2, 7, 11, 16, 21, 25, 30, 34, 39, 44, 48, 53, 58, 62, 66, 70, 74], []) := rfl
theorem k120_2 : az_cd 120 2 = some (84, .aload_n 0, 1, 0, 0, 0, [], []) := rfl
theorem k120_3 : az_cd 120 3 = some (85, .getfield 12, 3, 8, 0, 0, [], [228]) := rfl
theorem k120_4 : az_cd 120 4 = some (88, .invokevirtual 116, 3, 64, 0, 0, [], [522, 404, 43, 406, 405]) := rfl
theorem k120_5 : az_cd 120 5 = some (91, .invokevirtual 120, 3, 22, 0, 0, [], [523, 462, 45, 464, 463]) := rfl
theorem k120_6 : az_cd 120 6 = some (94, .ireturn, 1, 0, 0, 0, [], []) := rfl
theorem k120_7 : az_cd 120 7 = some (95, .aload_n 0, 1, 0, 0, 0, [], []) := rfl
theorem k120_8 : az_cd 120 8 = some (96, .getfield 12, 3, 8, 0, 0, [], [228]) := rfl
theorem k120_9 : az_cd 120 9 = some (99, .invokevirtual 220, 3, 60, 0, 0, [], [659, 660, 43, 662, 661]) := rfl
theorem k120_10 : az_cd 120 10 = some (102, .ireturn, 1, 0, 0, 0, [], []) := rfl
theorem k120_11 : az_cd 120 11 = some (103, .aload_n 0, 1, 0, 0, 0, [], []) := rfl
theorem k120_12 : az_cd 120 12 = some (104, .getfield 12, 3, 8, 0, 0, [], [228]) := rfl
theorem k120_13 : az_cd 120 13 = some (107, .invokevirtual 116, 3, 64, 0, 0, [], [522, 404, 43, 406, 405]) := rfl
theorem k120_14 : az_cd 120 14 = some (110, .invokevirtual 253, 3, 29, 0, 0, [], [712, 713, 45, 715, 714]) := rfl
theorem k120_15 : az_cd 120 15 = some (113, .ireturn, 1, 0, 0, 0, [], []) := rfl
theorem k120_16 : az_cd 120 16 = some (114, .aload_n 0, 1, 0, 0, 0, [], []) := rfl
theorem k120_17 : az_cd 120 17 = some (115, .getfield 12, 3, 8, 0, 0, [], [228]) := rfl
theorem k120_18 : az_cd 120 18 = some (118, .getfield 57, 3, 6, 3, 1, [], [159]) := rfl
theorem k120_19 : az_cd 120 19 = some (121, .invokevirtual 73, 3, 17, 0, 0, [], [306, 307, 46, 309, 308]) := rfl
theorem k120_20 : az_cd 120 20 = some (124, .ireturn, 1, 0, 0, 0, [], []) := rfl
theorem k120_21 : az_cd 120 21 = some (125, .aload_n 0, 1, 0, 0, 0, [], []) := rfl
theorem k120_22 : az_cd 120 22 = some (126, .getfield 12, 3, 8, 0, 0, [], [228]) := rfl
theorem k120_23 : az_cd 120 23 = some (129, .invokevirtual 95, 3, 71, 0, 0, [], [365, 366, 43, 368, 367]) := rfl
theorem k120_24 : az_cd 120 24 = some (132, .ireturn, 1, 0, 0, 0, [], []) := rfl
theorem k120_25 : az_cd 120 25 = some (133, .aload_n 0, 1, 0, 0, 0, [], []) := rfl
theorem k120_26 : az_cd 120 26 = some (134, .getfield 12, 3, 8, 0, 0, [], [228]) := rfl
theorem k120_27 : az_cd 120 27 = some (137, .getfield 47, 3, 6, 4, 1, [], [161]) := rfl
theorem k120_28 : az_cd 120 28 = some (140, .invokevirtual 104, 3, 85, 0, 0, [], [504, 375, 47, 377, 376]) := rfl
theorem k120_29 : az_cd 120 29 = some (143, .ireturn, 1, 0, 0, 0, [], []) := rfl
theorem k120_30 : az_cd 120 30 = some (144, .aload_n 0, 1, 0, 0, 0, [], []) := rfl
theorem k120_31 : az_cd 120 31 = some (145, .getfield 12, 3, 8, 0, 0, [], [228]) := rfl
theorem k120_32 : az_cd 120 32 = some (148, .invokevirtual 256, 3, 68, 0, 0, [], [723, 724, 43, 726, 725]) := rfl
theorem k120_33 : az_cd 120 33 = some (151, .ireturn, 1, 0, 0, 0, [], []) := rfl
theorem k120_34 : az_cd 120 34 = some (152, .aload_n 0, 1, 0, 0, 0, [], []) := rfl
theorem k120_35 : az_cd 120 35 = some (153, .getfield 12, 3, 8, 0, 0, [], [228]) := rfl
theorem k120_36 : az_cd 120 36 = some (156, .getfield 174, 3, 6, 0, 1, [], [155]) := rfl
theorem k120_37 : az_cd 120 37 = some (159, .invokevirtual 259, 3, 8, 0, 0, [], [727, 728, 44, 730, 729]) := rfl
theorem k120_38 : az_cd 120 38 = some (162, .ireturn, 1, 0, 0, 0, [], []) := rfl
theorem k120_39 : az_cd 120 39 = some (163, .aload_n 0, 1, 0, 0, 0, [], []) := rfl
theorem k120_40 : az_cd 120 40 = some (164, .getfield 12, 3, 8, 0, 0, [], [228]) := rfl
theorem k120_41 : az_cd 120 41 = some (167, .getfield 125, 3, 6, 5, 1, [], [163]) := rfl
theorem k120_42 : az_cd 120 42 = some (170, .invokevirtual 145, 3, 51, 0, 0, [], [548, 549, 48, 551, 550]) := rfl
theorem k120_43 : az_cd 120 43 = some (173, .ireturn, 1, 0, 0, 0, [], []) := rfl
theorem k120_44 : az_cd 120 44 = some (174, .aload_n 0, 1, 0, 0, 0, [], []) := rfl
theorem k120_45 : az_cd 120 45 = some (175, .getfield 12, 3, 8, 0, 0, [], [228]) := rfl
theorem k120_46 : az_cd 120 46 = some (178, .invokevirtual 262, 3, 61, 0, 0, [], [732, 733, 43, 735, 734]) := rfl
theorem k120_47 : az_cd 120 47 = some (181, .ireturn, 1, 0, 0, 0, [], []) := rfl
theorem k120_48 : az_cd 120 48 = some (182, .aload_n 0, 1, 0, 0, 0, [], []) := rfl
theorem k120_49 : az_cd 120 49 = some (183, .getfield 12, 3, 8, 0, 0, [], [228]) := rfl
theorem k120_50 : az_cd 120 50 = some (186, .getfield 174, 3, 6, 0, 1, [], [155]) := rfl
theorem k120_51 : az_cd 120 51 = some (189, .invokevirtual 237, 3, 9, 0, 0, [], [690, 691, 44, 693, 692]) := rfl
theorem k120_52 : az_cd 120 52 = some (192, .ireturn, 1, 0, 0, 0, [], []) := rfl
theorem k120_53 : az_cd 120 53 = some (193, .aload_n 0, 1, 0, 0, 0, [], []) := rfl
theorem k120_54 : az_cd 120 54 = some (194, .getfield 12, 3, 8, 0, 0, [], [228]) := rfl
theorem k120_55 : az_cd 120 55 = some (197, .getfield 174, 3, 6, 0, 1, [], [155]) := rfl
theorem k120_56 : az_cd 120 56 = some (200, .invokevirtual 240, 3, 10, 0, 0, [], [694, 695, 44, 697, 696]) := rfl
theorem k120_57 : az_cd 120 57 = some (203, .ireturn, 1, 0, 0, 0, [], []) := rfl
theorem k120_58 : az_cd 120 58 = some (204, .aload_n 0, 1, 0, 0, 0, [], []) := rfl
theorem k120_59 : az_cd 120 59 = some (205, .getfield 12, 3, 8, 0, 0, [], [228]) := rfl
theorem k120_60 : az_cd 120 60 = some (208, .invokevirtual 265, 3, 69, 0, 0, [], [736, 737, 43, 739, 738]) := rfl
theorem k120_61 : az_cd 120 61 = some (211, .ireturn, 1, 0, 0, 0, [], []) := rfl
theorem k120_62 : az_cd 120 62 = some (212, .aload_n 0, 1, 0, 0, 0, [], []) := rfl
theorem k120_63 : az_cd 120 63 = some (213, .getfield 12, 3, 8, 0, 0, [], [228]) := rfl
theorem k120_64 : az_cd 120 64 = some (216, .invokevirtual 268, 3, 62, 0, 0, [], [740, 741, 43, 743, 742]) := rfl
theorem k120_65 : az_cd 120 65 = some (219, .ireturn, 1, 0, 0, 0, [], []) := rfl
theorem k120_66 : az_cd 120 66 = some (220, .aload_n 0, 1, 0, 0, 0, [], []) := rfl
theorem k120_67 : az_cd 120 67 = some (221, .getfield 22, 3, 8, 2, 0, [], [230]) := rfl
theorem k120_68 : az_cd 120 68 = some (224, .invokevirtual 159, 3, 32, 0, 0, [], [580, 581, 49, 583, 582]) := rfl
theorem k120_69 : az_cd 120 69 = some (227, .ireturn, 1, 0, 0, 0, [], []) := rfl
theorem k120_70 : az_cd 120 70 = some (228, .aload_n 0, 1, 0, 0, 0, [], []) := rfl
theorem k120_71 : az_cd 120 71 = some (229, .getfield 29, 3, 8, 3, 0, [], [231]) := rfl
theorem k120_72 : az_cd 120 72 = some (232, .invokevirtual 155, 3, 36, 0, 0, [], [564, 565, 50, 567, 566]) := rfl
theorem k120_73 : az_cd 120 73 = some (235, .ireturn, 1, 0, 0, 0, [], []) := rfl
theorem k120_74 : az_cd 120 74 = some (236, .aload_n 0, 1, 0, 0, 0, [], []) := rfl
theorem k120_75 : az_cd 120 75 = some (237, .getfield 12, 3, 8, 0, 0, [], [228]) := rfl
theorem k120_76 : az_cd 120 76 = some (240, .invokevirtual 271, 3, 72, 0, 0, [], [744, 391, 43, 393, 392]) := rfl
theorem k120_77 : az_cd 120 77 = some (243, .ireturn, 1, 0, 0, 0, [], []) := rfl
theorem k120_78 : az_cd 120 78 = some (244, .bipush (-2), 2, 0, 0, (-2), [], []) := rfl
theorem k120_79 : az_cd 120 79 = some (246, .ireturn, 1, 0, 0, 0, [], []) := rfl
theorem k121_0 : az_cd 121 0 = some (0, .iload_n 0, 1, 0, 0, 0, [], []) := rfl
theorem k121_1 : az_cd 121 1 = some (1, .ifCond .lt 13, 3, 7, 0, 0, [], []) := rfl
theorem k121_2 : az_cd 121 2 = some (4, .iload_n 0, 1, 0, 0, 0, [], []) := rfl
theorem k121_3 : az_cd 121 3 = some (5, .bipush 8, 2, 0, 0, 8, [], []) := rfl
theorem k121_4 : az_cd 121 4 = some (7, .if_icmp .ge 7, 3, 7, 0, 0, [], []) := rfl
theorem k121_5 : az_cd 121 5 = some (10, .iconst 1, 1, 0, 0, 1, [], []) := rfl
theorem k121_6 : az_cd 121 6 = some (11, .goto 4, 3, 8, 0, 0, [], []) := rfl
theorem k121_7 : az_cd 121 7 = some (14, .iconst 0, 1, 0, 0, 0, [], []) := rfl
theorem k121_8 : az_cd 121 8 = some (15, .ireturn, 1, 0, 0, 0, [], []) := rfl
theorem k122_0 : az_cd 122 0 = some (0, .iload_n 0, 1, 0, 0, 0, [], []) := rfl
theorem k122_1 : az_cd 122 1 = some (1, .ifCond .lt 13, 3, 7, 0, 0, [], []) := rfl
theorem k122_2 : az_cd 122 2 = some (4, .iload_n 0, 1, 0, 0, 0, [], []) := rfl
theorem k122_3 : az_cd 122 3 = some (5, .bipush 24, 2, 0, 0, 24, [], []) := rfl
theorem k122_4 : az_cd 122 4 = some (7, .if_icmp .ge 7, 3, 7, 0, 0, [], []) := rfl
theorem k122_5 : az_cd 122 5 = some (10, .iconst 1, 1, 0, 0, 1, [], []) := rfl
theorem k122_6 : az_cd 122 6 = some (11, .goto 4, 3, 8, 0, 0, [], []) := rfl
theorem k122_7 : az_cd 122 7 = some (14, .iconst 0, 1, 0, 0, 0, [], []) := rfl
theorem k122_8 : az_cd 122 8 = some (15, .ireturn, 1, 0, 0, 0, [], []) := rfl
theorem k123_0 : az_cd 123 0 = some (0, .iload_n 0, 1, 0, 0, 0, [], []) := rfl
theorem k123_1 : az_cd 123 1 = some (1, .ifCond .eq 7, 3, 4, 0, 0, [], []) := rfl
theorem k123_2 : az_cd 123 2 = some (4, .iconst 1, 1, 0, 0, 1, [], []) := rfl
theorem k123_3 : az_cd 123 3 = some (5, .goto 4, 3, 5, 0, 0, [], []) := rfl
theorem k123_4 : az_cd 123 4 = some (8, .iconst 0, 1, 0, 0, 0, [], []) := rfl
theorem k123_5 : az_cd 123 5 = some (9, .ireturn, 1, 0, 0, 0, [], []) := rfl
theorem k124_0 : az_cd 124 0 = some (0, .iconst 0, 1, 0, 0, 0, [], []) := rfl
theorem k124_1 : az_cd 124 1 = some (1, .istore_n 2, 1, 0, 0, 0, [], []) := rfl
theorem k124_2 : az_cd 124 2 = some (2, .iload_n 2, 1, 0, 0, 0, [], []) := rfl
theorem k124_3 : az_cd 124 3 = some (3, .aload_n 0, 1, 0, 0, 0, [], []) := rfl
theorem k124_4 : az_cd 124 4 = some (4, .arraylength, 1, 0, 0, 0, [], []) := rfl
theorem k124_5 : az_cd 124 5 = some (5, .if_icmp .ge 13, 3, 12, 0, 0, [], []) := rfl
theorem k124_6 : az_cd 124 6 = some (8, .aload_n 0, 1, 0, 0, 0, [], []) := rfl
theorem k124_7 : az_cd 124 7 = some (9, .iload_n 2, 1, 0, 0, 0, [], []) := rfl
theorem k124_8 : az_cd 124 8 = some (10, .iload_n 1, 1, 0, 0, 0, [], []) := rfl
theorem k124_9 : az_cd 124 9 = some (11, .iastore, 1, 0, 0, 0, [], []) := rfl
theorem k124_10 : az_cd 124 10 = some (12, .iinc 2 1, 3, 0, 0, 1, [], []) := rfl
theorem k124_11 : az_cd 124 11 = some (15, .goto (-13), 3, 2, 0, 0, [], []) := rfl
theorem k124_12 : az_cd 124 12 = some (18, .return_, 1, 0, 0, 0, [], []) := rfl
theorem k125_0 : az_cd 125 0 = some (0, .iconst 0, 1, 0, 0, 0, [], []) := rfl
theorem k125_1 : az_cd 125 1 = some (1, .istore_n 2, 1, 0, 0, 0, [], []) := rfl
theorem k125_2 : az_cd 125 2 = some (2, .iload_n 2, 1, 0, 0, 0, [], []) := rfl
theorem k125_3 : az_cd 125 3 = some (3, .aload_n 0, 1, 0, 0, 0, [], []) := rfl
theorem k125_4 : az_cd 125 4 = some (4, .arraylength, 1, 0, 0, 0, [], []) := rfl
theorem k125_5 : az_cd 125 5 = some (5, .if_icmp .ge 21, 3, 18, 0, 0, [], []) := rfl
theorem k125_6 : az_cd 125 6 = some (8, .iload_n 2, 1, 0, 0, 0, [], []) := rfl
theorem k125_7 : az_cd 125 7 = some (9, .aload_n 1, 1, 0, 0, 0, [], []) := rfl
theorem k125_8 : az_cd 125 8 = some (10, .arraylength, 1, 0, 0, 0, [], []) := rfl
theorem k125_9 : az_cd 125 9 = some (11, .if_icmp .ge 15, 3, 18, 0, 0, [], []) := rfl
theorem k125_10 : az_cd 125 10 = some (14, .aload_n 1, 1, 0, 0, 0, [], []) := rfl
theorem k125_11 : az_cd 125 11 = some (15, .iload_n 2, 1, 0, 0, 0, [], []) := rfl
theorem k125_12 : az_cd 125 12 = some (16, .aload_n 0, 1, 0, 0, 0, [], []) := rfl
theorem k125_13 : az_cd 125 13 = some (17, .iload_n 2, 1, 0, 0, 0, [], []) := rfl
theorem k125_14 : az_cd 125 14 = some (18, .iaload, 1, 0, 0, 0, [], []) := rfl
theorem k125_15 : az_cd 125 15 = some (19, .iastore, 1, 0, 0, 0, [], []) := rfl
theorem k125_16 : az_cd 125 16 = some (20, .iinc 2 1, 3, 0, 0, 1, [], []) := rfl
theorem k125_17 : az_cd 125 17 = some (23, .goto (-21), 3, 2, 0, 0, [], []) := rfl
theorem k125_18 : az_cd 125 18 = some (26, .return_, 1, 0, 0, 0, [], []) := rfl
theorem k126_0 : az_cd 126 0 = some (0, .fload_n 0, 1, 0, 0, 0, [], []) := rfl
theorem k126_1 : az_cd 126 1 = some (1, .fconst 0, 1, 0, 0, 0, [], []) := rfl
theorem k126_2 : az_cd 126 2 = some (2, .fcmp .l, 1, 0, 0, 0, [], []) := rfl
theorem k126_3 : az_cd 126 3 = some (3, .ifCond .gt 5, 3, 6, 0, 0, [], []) := rfl
theorem k126_4 : az_cd 126 4 = some (6, .iconst 0, 1, 0, 0, 0, [], []) := rfl
theorem k126_5 : az_cd 126 5 = some (7, .ireturn, 1, 0, 0, 0, [], []) := rfl
theorem k126_6 : az_cd 126 6 = some (8, .fload_n 0, 1, 0, 0, 0, [], []) := rfl
theorem k126_7 : az_cd 126 7 = some (9, .fstore_n 1, 1, 0, 0, 0, [], []) := rfl
theorem k126_8 : az_cd 126 8 = some (10, .bipush 127, 2, 0, 0, 127, [], []) := rfl
theorem k126_9 : az_cd 126 9 = some (12, .istore_n 2, 1, 0, 0, 0, [], []) := rfl
theorem k126_10 : az_cd 126 10 = some (13, .fload_n 1, 1, 0, 0, 0, [], []) := rfl
theorem k126_11 : az_cd 126 11 = some (14, .fconst 2, 1, 0, 0, 0, [], []) := rfl
theorem k126_12 : az_cd 126 12 = some (15, .fcmp .l, 1, 0, 0, 0, [], []) := rfl
theorem k126_13 : az_cd 126 13 = some (16, .ifCond .lt 20, 3, 23, 0, 0, [], []) := rfl
theorem k126_14 : az_cd 126 14 = some (19, .iload_n 2, 1, 0, 0, 0, [], []) := rfl
theorem k126_15 : az_cd 126 15 = some (20, .sipush 254, 3, 0, 0, 254, [], []) := rfl
theorem k126_16 : az_cd 126 16 = some (23, .if_icmp .ge 13, 3, 23, 0, 0, [], []) := rfl
theorem k126_17 : az_cd 126 17 = some (26, .fload_n 1, 1, 0, 0, 0, [], []) := rfl
theorem k126_18 : az_cd 126 18 = some (27, .fconst 2, 1, 0, 0, 0, [], []) := rfl
theorem k126_19 : az_cd 126 19 = some (28, .fdiv, 1, 0, 0, 0, [], []) := rfl
theorem k126_20 : az_cd 126 20 = some (29, .fstore_n 1, 1, 0, 0, 0, [], []) := rfl
theorem k126_21 : az_cd 126 21 = some (30, .iinc 2 1, 3, 0, 0, 1, [], []) := rfl
theorem k126_22 : az_cd 126 22 = some (33, .goto (-20), 3, 10, 0, 0, [], []) := rfl
theorem k126_23 : az_cd 126 23 = some (36, .fload_n 1, 1, 0, 0, 0, [], []) := rfl
theorem k126_24 : az_cd 126 24 = some (37, .fconst 1, 1, 0, 0, 0, [], []) := rfl
theorem k126_25 : az_cd 126 25 = some (38, .fcmp .g, 1, 0, 0, 0, [], []) := rfl
theorem k126_26 : az_cd 126 26 = some (39, .ifCond .ge 18, 3, 36, 0, 0, [], []) := rfl
theorem k126_27 : az_cd 126 27 = some (42, .iload_n 2, 1, 0, 0, 0, [], []) := rfl
theorem k126_28 : az_cd 126 28 = some (43, .iconst 1, 1, 0, 0, 1, [], []) := rfl
theorem k126_29 : az_cd 126 29 = some (44, .if_icmp .le 13, 3, 36, 0, 0, [], []) := rfl
theorem k126_30 : az_cd 126 30 = some (47, .fload_n 1, 1, 0, 0, 0, [], []) := rfl
theorem k126_31 : az_cd 126 31 = some (48, .fconst 2, 1, 0, 0, 0, [], []) := rfl
theorem k126_32 : az_cd 126 32 = some (49, .fmul, 1, 0, 0, 0, [], []) := rfl
theorem k126_33 : az_cd 126 33 = some (50, .fstore_n 1, 1, 0, 0, 0, [], []) := rfl
theorem k126_34 : az_cd 126 34 = some (51, .iinc 2 (-1), 3, 0, 0, (-1), [], []) := rfl
theorem k126_35 : az_cd 126 35 = some (54, .goto (-18), 3, 23, 0, 0, [], []) := rfl
theorem k126_36 : az_cd 126 36 = some (57, .fload_n 1, 1, 0, 0, 0, [], []) := rfl
theorem k126_37 : az_cd 126 37 = some (58, .fconst 1, 1, 0, 0, 0, [], []) := rfl
theorem k126_38 : az_cd 126 38 = some (59, .fsub, 1, 0, 0, 0, [], []) := rfl
theorem k126_39 : az_cd 126 39 = some (60, .ldc_w 274, 3, 1258291200, 1, 0, [], [707]) := rfl
theorem k126_40 : az_cd 126 40 = some (63, .fmul, 1, 0, 0, 0, [], []) := rfl
theorem k126_41 : az_cd 126 41 = some (64, .f2i, 1, 0, 0, 0, [], []) := rfl
theorem k126_42 : az_cd 126 42 = some (65, .istore_n 3, 1, 0, 0, 0, [], []) := rfl
theorem k126_43 : az_cd 126 43 = some (66, .iload_n 2, 1, 0, 0, 0, [], []) := rfl
theorem k126_44 : az_cd 126 44 = some (67, .bipush 23, 2, 0, 0, 23, [], []) := rfl
theorem k126_45 : az_cd 126 45 = some (69, .ishl, 1, 0, 0, 0, [], []) := rfl
theorem k126_46 : az_cd 126 46 = some (70, .iload_n 3, 1, 0, 0, 0, [], []) := rfl
theorem k126_47 : az_cd 126 47 = some (71, .ior, 1, 0, 0, 0, [], []) := rfl
theorem k126_48 : az_cd 126 48 = some (72, .ireturn, 1, 0, 0, 0, [], []) := rfl
theorem k127_0 : az_cd 127 0 = some (0, .aload_n 0, 1, 0, 0, 0, [], []) := rfl
theorem k127_1 : az_cd 127 1 = some (1, .invokespecial 1, 3, 196, 0, 2, [], [750, 61, 62]) := rfl
theorem k127_2 : az_cd 127 2 = some (4, .aload_n 0, 1, 0, 0, 0, [], []) := rfl
theorem k127_3 : az_cd 127 3 = some (5, .sipush 153, 3, 0, 0, 153, [], []) := rfl
theorem k127_4 : az_cd 127 4 = some (8, .newarray .int, 2, 0, 0, 0, [], [91]) := rfl
theorem k127_5 : az_cd 127 5 = some (10, .putfield 7, 3, 9, 0, 0, [], [751]) := rfl
theorem k127_6 : az_cd 127 6 = some (13, .aload_n 0, 1, 0, 0, 0, [], []) := rfl
theorem k127_7 : az_cd 127 7 = some (14, .sipush 612, 3, 0, 0, 612, [], []) := rfl
theorem k127_8 : az_cd 127 8 = some (17, .newarray .int, 2, 0, 0, 0, [], [91]) := rfl
theorem k127_9 : az_cd 127 9 = some (19, .putfield 13, 3, 9, 1, 0, [], [752]) := rfl
theorem k127_10 : az_cd 127 10 = some (22, .aload_n 0, 1, 0, 0, 0, [], []) := rfl
theorem k127_11 : az_cd 127 11 = some (23, .sipush 153, 3, 0, 0, 153, [], []) := rfl
theorem k127_12 : az_cd 127 12 = some (26, .newarray .int, 2, 0, 0, 0, [], [91]) := rfl
theorem k127_13 : az_cd 127 13 = some (28, .putfield 16, 3, 9, 3, 0, [], [754]) := rfl
theorem k127_14 : az_cd 127 14 = some (31, .aload_n 0, 1, 0, 0, 0, [], []) := rfl
theorem k127_15 : az_cd 127 15 = some (32, .bipush 60, 2, 0, 0, 60, [], []) := rfl
theorem k127_16 : az_cd 127 16 = some (34, .newarray .char, 2, 0, 1, 0, [], [227]) := rfl
theorem k127_17 : az_cd 127 17 = some (36, .putfield 19, 3, 9, 5, 0, [], [756]) := rfl
theorem k127_18 : az_cd 127 18 = some (39, .aload_n 0, 1, 0, 0, 0, [], []) := rfl
theorem k127_19 : az_cd 127 19 = some (40, .bipush 42, 2, 0, 0, 42, [], []) := rfl
theorem k127_20 : az_cd 127 20 = some (42, .newarray .int, 2, 0, 0, 0, [], [91]) := rfl
theorem k127_21 : az_cd 127 21 = some (44, .putfield 23, 3, 9, 8, 0, [], [759]) := rfl
theorem k127_22 : az_cd 127 22 = some (47, .iconst 0, 1, 0, 0, 0, [], []) := rfl
theorem k127_23 : az_cd 127 23 = some (48, .istore_n 1, 1, 0, 0, 0, [], []) := rfl
theorem k127_24 : az_cd 127 24 = some (49, .iload_n 1, 1, 0, 0, 0, [], []) := rfl
theorem k127_25 : az_cd 127 25 = some (50, .bipush 24, 2, 0, 0, 24, [], []) := rfl
theorem k127_26 : az_cd 127 26 = some (52, .if_icmp .ge 20, 3, 36, 0, 0, [], []) := rfl
theorem k127_27 : az_cd 127 27 = some (55, .aload_n 0, 1, 0, 0, 0, [], []) := rfl
theorem k127_28 : az_cd 127 28 = some (56, .getfield 7, 3, 9, 0, 0, [], [751]) := rfl
theorem k127_29 : az_cd 127 29 = some (59, .bipush 24, 2, 0, 0, 24, [], []) := rfl
theorem k127_30 : az_cd 127 30 = some (61, .iload_n 1, 1, 0, 0, 0, [], []) := rfl
theorem k127_31 : az_cd 127 31 = some (62, .iadd, 1, 0, 0, 0, [], []) := rfl
theorem k127_32 : az_cd 127 32 = some (63, .bipush 11, 2, 0, 0, 11, [], []) := rfl
theorem k127_33 : az_cd 127 33 = some (65, .iastore, 1, 0, 0, 0, [], []) := rfl
theorem k127_34 : az_cd 127 34 = some (66, .iinc 1 1, 3, 0, 0, 1, [], []) := rfl
theorem k127_35 : az_cd 127 35 = some (69, .goto (-20), 3, 24, 0, 0, [], []) := rfl
theorem k127_36 : az_cd 127 36 = some (72, .aload_n 0, 1, 0, 0, 0, [], []) := rfl
theorem k127_37 : az_cd 127 37 = some (73, .getfield 7, 3, 9, 0, 0, [], [751]) := rfl
theorem k127_38 : az_cd 127 38 = some (76, .bipush 72, 2, 0, 0, 72, [], []) := rfl
theorem k127_39 : az_cd 127 39 = some (78, .iconst 1, 1, 0, 0, 1, [], []) := rfl
theorem k127_40 : az_cd 127 40 = some (79, .iastore, 1, 0, 0, 0, [], []) := rfl
theorem k127_41 : az_cd 127 41 = some (80, .iconst 0, 1, 0, 0, 0, [], []) := rfl
theorem k127_42 : az_cd 127 42 = some (81, .istore_n 1, 1, 0, 0, 0, [], []) := rfl
theorem k127_43 : az_cd 127 43 = some (82, .iload_n 1, 1, 0, 0, 0, [], []) := rfl
theorem k127_44 : az_cd 127 44 = some (83, .bipush 8, 2, 0, 0, 8, [], []) := rfl
theorem k127_45 : az_cd 127 45 = some (85, .if_icmp .ge 53, 3, 76, 0, 0, [], []) := rfl
theorem k127_46 : az_cd 127 46 = some (88, .aload_n 0, 1, 0, 0, 0, [], []) := rfl
theorem k127_47 : az_cd 127 47 = some (89, .getfield 7, 3, 9, 0, 0, [], [751]) := rfl
theorem k127_48 : az_cd 127 48 = some (92, .bipush 74, 2, 0, 0, 74, [], []) := rfl
theorem k127_49 : az_cd 127 49 = some (94, .iload_n 1, 1, 0, 0, 0, [], []) := rfl
theorem k127_50 : az_cd 127 50 = some (95, .iadd, 1, 0, 0, 0, [], []) := rfl
theorem k127_51 : az_cd 127 51 = some (96, .bipush (-5), 2, 0, 0, (-5), [], []) := rfl
theorem k127_52 : az_cd 127 52 = some (98, .iastore, 1, 0, 0, 0, [], []) := rfl
theorem k127_53 : az_cd 127 53 = some (99, .aload_n 0, 1, 0, 0, 0, [], []) := rfl
theorem k127_54 : az_cd 127 54 = some (100, .getfield 7, 3, 9, 0, 0, [], [751]) := rfl
theorem k127_55 : az_cd 127 55 = some (103, .bipush 84, 2, 0, 0, 84, [], []) := rfl
theorem k127_56 : az_cd 127 56 = some (105, .iload_n 1, 1, 0, 0, 0, [], []) := rfl
theorem k127_57 : az_cd 127 57 = some (106, .iadd, 1, 0, 0, 0, [], []) := rfl
theorem k127_58 : az_cd 127 58 = some (107, .bipush (-5), 2, 0, 0, (-5), [], []) := rfl
theorem k127_59 : az_cd 127 59 = some (109, .iastore, 1, 0, 0, 0, [], []) := rfl
theorem k127_60 : az_cd 127 60 = some (110, .aload_n 0, 1, 0, 0, 0, [], []) := rfl
theorem k127_61 : az_cd 127 61 = some (111, .getfield 7, 3, 9, 0, 0, [], [751]) := rfl
theorem k127_62 : az_cd 127 62 = some (114, .bipush 93, 2, 0, 0, 93, [], []) := rfl
theorem k127_63 : az_cd 127 63 = some (116, .iload_n 1, 1, 0, 0, 0, [], []) := rfl
theorem k127_64 : az_cd 127 64 = some (117, .iadd, 1, 0, 0, 0, [], []) := rfl
theorem k127_65 : az_cd 127 65 = some (118, .bipush (-5), 2, 0, 0, (-5), [], []) := rfl
theorem k127_66 : az_cd 127 66 = some (120, .iastore, 1, 0, 0, 0, [], []) := rfl
theorem k127_67 : az_cd 127 67 = some (121, .aload_n 0, 1, 0, 0, 0, [], []) := rfl
theorem k127_68 : az_cd 127 68 = some (122, .getfield 7, 3, 9, 0, 0, [], [751]) := rfl
theorem k127_69 : az_cd 127 69 = some (125, .bipush 103, 2, 0, 0, 103, [], []) := rfl
theorem k127_70 : az_cd 127 70 = some (127, .iload_n 1, 1, 0, 0, 0, [], []) := rfl
theorem k127_71 : az_cd 127 71 = some (128, .iadd, 1, 0, 0, 0, [], []) := rfl
theorem k127_72 : az_cd 127 72 = some (129, .bipush (-5), 2, 0, 0, (-5), [], []) := rfl
theorem k127_73 : az_cd 127 73 = some (131, .iastore, 1, 0, 0, 0, [], []) := rfl
theorem k127_74 : az_cd 127 74 = some (132, .iinc 1 1, 3, 0, 0, 1, [], []) := rfl
theorem k127_75 : az_cd 127 75 = some (135, .goto (-53), 3, 43, 0, 0, [], []) := rfl
theorem k127_76 : az_cd 127 76 = some (138, .return_, 1, 0, 0, 0, [], []) := rfl
theorem k128_0 : az_cd 128 0 = some (0, .iload_n 0, 1, 0, 0, 0, [], []) := rfl
theorem k128_1 : az_cd 128 1 = some (1, .iload_n 1, 1, 0, 0, 0, [], []) := rfl
theorem k128_2 : az_cd 128 2 = some (2, .if_icmp .lt 12, 3, 8, 0, 0, [], []) := rfl
theorem k128_3 : az_cd 128 3 = some (5, .iload_n 0, 1, 0, 0, 0, [], []) := rfl
theorem k128_4 : az_cd 128 4 = some (6, .iload_n 2, 1, 0, 0, 0, [], []) := rfl
theorem k128_5 : az_cd 128 5 = some (7, .if_icmp .gt 7, 3, 8, 0, 0, [], []) := rfl
theorem k128_6 : az_cd 128 6 = some (10, .iconst 1, 1, 0, 0, 1, [], []) := rfl
theorem k128_7 : az_cd 128 7 = some (11, .goto 4, 3, 9, 0, 0, [], []) := rfl
theorem k128_8 : az_cd 128 8 = some (14, .iconst 0, 1, 0, 0, 0, [], []) := rfl
theorem k128_9 : az_cd 128 9 = some (15, .ireturn, 1, 0, 0, 0, [], []) := rfl
theorem k129_0 : az_cd 129 0 = some (0, .iload_n 0, 1, 0, 0, 0, [], []) := rfl
theorem k129_1 : az_cd 129 1 = some (1, .iconst 0, 1, 0, 0, 0, [], []) := rfl
theorem k129_2 : az_cd 129 2 = some (2, .bipush 7, 2, 0, 0, 7, [], []) := rfl
theorem k129_3 : az_cd 129 3 = some (4, .invokestatic 26, 3, 128, 3, 0, [], [789, 790, 51, 791]) := rfl
theorem k129_4 : az_cd 129 4 = some (7, .ireturn, 1, 0, 0, 0, [], []) := rfl
theorem k130_0 : az_cd 130 0 = some (0, .iconst 0, 1, 0, 0, 0, [], []) := rfl
theorem k130_1 : az_cd 130 1 = some (1, .istore 4, 2, 0, 0, 0, [], []) := rfl
theorem k130_2 : az_cd 130 2 = some (3, .iload 4, 2, 0, 0, 0, [], []) := rfl
theorem k130_3 : az_cd 130 3 = some (5, .sipush 153, 3, 0, 0, 153, [], []) := rfl
theorem k130_4 : az_cd 130 4 = some (8, .if_icmp .ge 21, 3, 17, 0, 0, [], []) := rfl
theorem k130_5 : az_cd 130 5 = some (11, .aload_n 2, 1, 0, 0, 0, [], []) := rfl
theorem k130_6 : az_cd 130 6 = some (12, .iload_n 3, 1, 0, 0, 0, [], []) := rfl
theorem k130_7 : az_cd 130 7 = some (13, .iload 4, 2, 0, 0, 0, [], []) := rfl
theorem k130_8 : az_cd 130 8 = some (15, .iadd, 1, 0, 0, 0, [], []) := rfl
theorem k130_9 : az_cd 130 9 = some (16, .aload_n 0, 1, 0, 0, 0, [], []) := rfl
theorem k130_10 : az_cd 130 10 = some (17, .iload_n 1, 1, 0, 0, 0, [], []) := rfl
theorem k130_11 : az_cd 130 11 = some (18, .iload 4, 2, 0, 0, 0, [], []) := rfl
theorem k130_12 : az_cd 130 12 = some (20, .iadd, 1, 0, 0, 0, [], []) := rfl
theorem k130_13 : az_cd 130 13 = some (21, .iaload, 1, 0, 0, 0, [], []) := rfl
theorem k130_14 : az_cd 130 14 = some (22, .iastore, 1, 0, 0, 0, [], []) := rfl
theorem k130_15 : az_cd 130 15 = some (23, .iinc 4 1, 3, 0, 0, 1, [], []) := rfl
theorem k130_16 : az_cd 130 16 = some (26, .goto (-23), 3, 2, 0, 0, [], []) := rfl
theorem k130_17 : az_cd 130 17 = some (29, .return_, 1, 0, 0, 0, [], []) := rfl
theorem k131_0 : az_cd 131 0 = some (0, .aload_n 0, 1, 0, 0, 0, [], []) := rfl
theorem k131_1 : az_cd 131 1 = some (1, .getfield 30, 3, 9, 2, 0, [], [753]) := rfl
theorem k131_2 : az_cd 131 2 = some (4, .iconst 4, 1, 0, 0, 4, [], []) := rfl
theorem k131_3 : az_cd 131 3 = some (5, .if_icmp .ne 44, 3, 27, 0, 0, [], []) := rfl
theorem k131_4 : az_cd 131 4 = some (8, .iconst 0, 1, 0, 0, 0, [], []) := rfl
theorem k131_5 : az_cd 131 5 = some (9, .istore_n 1, 1, 0, 0, 0, [], []) := rfl
theorem k131_6 : az_cd 131 6 = some (10, .iload_n 1, 1, 0, 0, 0, [], []) := rfl
theorem k131_7 : az_cd 131 7 = some (11, .sipush 459, 3, 0, 0, 459, [], []) := rfl
theorem k131_8 : az_cd 131 8 = some (14, .if_icmp .ge 25, 3, 21, 0, 0, [], []) := rfl
theorem k131_9 : az_cd 131 9 = some (17, .aload_n 0, 1, 0, 0, 0, [], []) := rfl
theorem k131_10 : az_cd 131 10 = some (18, .getfield 13, 3, 9, 1, 0, [], [752]) := rfl
theorem k131_11 : az_cd 131 11 = some (21, .iload_n 1, 1, 0, 0, 0, [], []) := rfl
theorem k131_12 : az_cd 131 12 = some (22, .aload_n 0, 1, 0, 0, 0, [], []) := rfl
theorem k131_13 : az_cd 131 13 = some (23, .getfield 13, 3, 9, 1, 0, [], [752]) := rfl
theorem k131_14 : az_cd 131 14 = some (26, .iload_n 1, 1, 0, 0, 0, [], []) := rfl
theorem k131_15 : az_cd 131 15 = some (27, .sipush 153, 3, 0, 0, 153, [], []) := rfl
theorem k131_16 : az_cd 131 16 = some (30, .iadd, 1, 0, 0, 0, [], []) := rfl
theorem k131_17 : az_cd 131 17 = some (31, .iaload, 1, 0, 0, 0, [], []) := rfl
theorem k131_18 : az_cd 131 18 = some (32, .iastore, 1, 0, 0, 0, [], []) := rfl
theorem k131_19 : az_cd 131 19 = some (33, .iinc 1 1, 3, 0, 0, 1, [], []) := rfl
theorem k131_20 : az_cd 131 20 = some (36, .goto (-26), 3, 6, 0, 0, [], []) := rfl
theorem k131_21 : az_cd 131 21 = some (39, .aload_n 0, 1, 0, 0, 0, [], []) := rfl
theorem k131_22 : az_cd 131 22 = some (40, .dup, 1, 0, 0, 0, [], []) := rfl
theorem k131_23 : az_cd 131 23 = some (41, .getfield 30, 3, 9, 2, 0, [], [753]) := rfl
theorem k131_24 : az_cd 131 24 = some (44, .iconst 1, 1, 0, 0, 1, [], []) := rfl
theorem k131_25 : az_cd 131 25 = some (45, .isub, 1, 0, 0, 0, [], []) := rfl
theorem k131_26 : az_cd 131 26 = some (46, .putfield 30, 3, 9, 2, 0, [], [753]) := rfl
theorem k131_27 : az_cd 131 27 = some (49, .aload_n 0, 1, 0, 0, 0, [], []) := rfl
theorem k131_28 : az_cd 131 28 = some (50, .getfield 7, 3, 9, 0, 0, [], [751]) := rfl
theorem k131_29 : az_cd 131 29 = some (53, .iconst 0, 1, 0, 0, 0, [], []) := rfl
theorem k131_30 : az_cd 131 30 = some (54, .aload_n 0, 1, 0, 0, 0, [], []) := rfl
theorem k131_31 : az_cd 131 31 = some (55, .getfield 13, 3, 9, 1, 0, [], [752]) := rfl
theorem k131_32 : az_cd 131 32 = some (58, .sipush 153, 3, 0, 0, 153, [], []) := rfl
theorem k131_33 : az_cd 131 33 = some (61, .aload_n 0, 1, 0, 0, 0, [], []) := rfl
theorem k131_34 : az_cd 131 34 = some (62, .getfield 30, 3, 9, 2, 0, [], [753]) := rfl
theorem k131_35 : az_cd 131 35 = some (65, .imul, 1, 0, 0, 0, [], []) := rfl
theorem k131_36 : az_cd 131 36 = some (66, .invokestatic 34, 3, 130, 4, 0, [], [800, 801, 51, 802]) := rfl
theorem k131_37 : az_cd 131 37 = some (69, .aload_n 0, 1, 0, 0, 0, [], []) := rfl
theorem k131_38 : az_cd 131 38 = some (70, .dup, 1, 0, 0, 0, [], []) := rfl
theorem k131_39 : az_cd 131 39 = some (71, .getfield 30, 3, 9, 2, 0, [], [753]) := rfl
theorem k131_40 : az_cd 131 40 = some (74, .iconst 1, 1, 0, 0, 1, [], []) := rfl
theorem k131_41 : az_cd 131 41 = some (75, .iadd, 1, 0, 0, 0, [], []) := rfl
theorem k131_42 : az_cd 131 42 = some (76, .putfield 30, 3, 9, 2, 0, [], [753]) := rfl
theorem k131_43 : az_cd 131 43 = some (79, .return_, 1, 0, 0, 0, [], []) := rfl
theorem k132_0 : az_cd 132 0 = some (0, .iload_n 0, 1, 0, 0, 0, [], []) := rfl
theorem k132_1 : az_cd 132 1 = some (1, .bipush 37, 2, 0, 0, 37, [], []) := rfl
theorem k132_2 : az_cd 132 2 = some (3, .imul, 1, 0, 0, 0, [], []) := rfl
theorem k132_3 : az_cd 132 3 = some (4, .bipush 11, 2, 0, 0, 11, [], []) := rfl
theorem k132_4 : az_cd 132 4 = some (6, .iadd, 1, 0, 0, 0, [], []) := rfl
theorem k132_5 : az_cd 132 5 = some (7, .bipush 101, 2, 0, 0, 101, [], []) := rfl
theorem k132_6 : az_cd 132 6 = some (9, .irem, 1, 0, 0, 0, [], []) := rfl
theorem k132_7 : az_cd 132 7 = some (10, .ireturn, 1, 0, 0, 0, [], []) := rfl
theorem k133_0 : az_cd 133 0 = some (0, .aload_n 0, 1, 0, 0, 0, [], []) := rfl
theorem k133_1 : az_cd 133 1 = some (1, .getfield 7, 3, 9, 0, 0, [], [751]) := rfl
theorem k133_2 : az_cd 133 2 = some (4, .bipush 72, 2, 0, 0, 72, [], []) := rfl
theorem k133_3 : az_cd 133 3 = some (6, .bipush 10, 2, 0, 0, 10, [], []) := rfl
theorem k133_4 : az_cd 133 4 = some (8, .aload_n 0, 1, 0, 0, 0, [], []) := rfl
theorem k133_5 : az_cd 133 5 = some (9, .getfield 7, 3, 9, 0, 0, [], [751]) := rfl
theorem k133_6 : az_cd 133 6 = some (12, .bipush 92, 2, 0, 0, 92, [], []) := rfl
theorem k133_7 : az_cd 133 7 = some (14, .iaload, 1, 0, 0, 0, [], []) := rfl
theorem k133_8 : az_cd 133 8 = some (15, .imul, 1, 0, 0, 0, [], []) := rfl
theorem k133_9 : az_cd 133 9 = some (16, .iadd, 1, 0, 0, 0, [], []) := rfl
theorem k133_10 : az_cd 133 10 = some (17, .iload_n 1, 1, 0, 0, 0, [], []) := rfl
theorem k133_11 : az_cd 133 11 = some (18, .iadd, 1, 0, 0, 0, [], []) := rfl
theorem k133_12 : az_cd 133 12 = some (19, .iaload, 1, 0, 0, 0, [], []) := rfl
theorem k133_13 : az_cd 133 13 = some (20, .ireturn, 1, 0, 0, 0, [], []) := rfl
theorem k134_0 : az_cd 134 0 = some (0, .iload_n 1, 1, 0, 0, 0, [], []) := rfl
theorem k134_1 : az_cd 134 1 = some (1, .iconst 0, 1, 0, 0, 0, [], []) := rfl
theorem k134_2 : az_cd 134 2 = some (2, .iconst 3, 1, 0, 0, 3, [], []) := rfl
theorem k134_3 : az_cd 134 3 = some (3, .invokestatic 26, 3, 128, 3, 0, [], [789, 790, 51, 791]) := rfl
theorem k134_4 : az_cd 134 4 = some (6, .ifCond .eq 23, 3, 17, 0, 0, [], []) := rfl
theorem k134_5 : az_cd 134 5 = some (9, .aload_n 0, 1, 0, 0, 0, [], []) := rfl
theorem k134_6 : az_cd 134 6 = some (10, .getfield 7, 3, 9, 0, 0, [], [751]) := rfl
theorem k134_7 : az_cd 134 7 = some (13, .bipush 111, 2, 0, 0, 111, [], []) := rfl
theorem k134_8 : az_cd 134 8 = some (15, .bipush 10, 2, 0, 0, 10, [], []) := rfl
theorem k134_9 : az_cd 134 9 = some (17, .iload_n 1, 1, 0, 0, 0, [], []) := rfl
theorem k134_10 : az_cd 134 10 = some (18, .imul, 1, 0, 0, 0, [], []) := rfl
theorem k134_11 : az_cd 134 11 = some (19, .iadd, 1, 0, 0, 0, [], []) := rfl
theorem k134_12 : az_cd 134 12 = some (20, .iaload, 1, 0, 0, 0, [], []) := rfl
theorem k134_13 : az_cd 134 13 = some (21, .iconst 1, 1, 0, 0, 1, [], []) := rfl
theorem k134_14 : az_cd 134 14 = some (22, .if_icmp .ne 7, 3, 17, 0, 0, [], []) := rfl
theorem k134_15 : az_cd 134 15 = some (25, .iconst 1, 1, 0, 0, 1, [], []) := rfl
theorem k134_16 : az_cd 134 16 = some (26, .goto 4, 3, 18, 0, 0, [], []) := rfl
theorem k134_17 : az_cd 134 17 = some (29, .iconst 0, 1, 0, 0, 0, [], []) := rfl
theorem k134_18 : az_cd 134 18 = some (30, .ireturn, 1, 0, 0, 0, [], []) := rfl
theorem k135_0 : az_cd 135 0 = some (0, .bipush (-5), 2, 0, 0, (-5), [], []) := rfl
theorem k135_1 : az_cd 135 1 = some (2, .istore_n 2, 1, 0, 0, 0, [], []) := rfl
theorem k135_2 : az_cd 135 2 = some (3, .iconst 0, 1, 0, 0, 0, [], []) := rfl
theorem k135_3 : az_cd 135 3 = some (4, .istore_n 3, 1, 0, 0, 0, [], []) := rfl
theorem k135_4 : az_cd 135 4 = some (5, .iload_n 3, 1, 0, 0, 0, [], []) := rfl
theorem k135_5 : az_cd 135 5 = some (6, .bipush 8, 2, 0, 0, 8, [], []) := rfl
theorem k135_6 : az_cd 135 6 = some (8, .if_icmp .ge 26, 3, 20, 0, 0, [], []) := rfl
theorem k135_7 : az_cd 135 7 = some (11, .aload_n 0, 1, 0, 0, 0, [], []) := rfl
theorem k135_8 : az_cd 135 8 = some (12, .iconst 2, 1, 0, 0, 2, [], []) := rfl
theorem k135_9 : az_cd 135 9 = some (13, .iload_n 3, 1, 0, 0, 0, [], []) := rfl
theorem k135_10 : az_cd 135 10 = some (14, .iadd, 1, 0, 0, 0, [], []) := rfl
theorem k135_11 : az_cd 135 11 = some (15, .invokevirtual 38, 3, 133, 1, 0, [], [875, 877, 51, 878, 23]) := rfl
theorem k135_12 : az_cd 135 12 = some (18, .iload_n 1, 1, 0, 0, 0, [], []) := rfl
theorem k135_13 : az_cd 135 13 = some (19, .if_icmp .ne 7, 3, 16, 0, 0, [], []) := rfl
theorem k135_14 : az_cd 135 14 = some (22, .iload_n 3, 1, 0, 0, 0, [], []) := rfl
theorem k135_15 : az_cd 135 15 = some (23, .goto 4, 3, 17, 0, 0, [], []) := rfl
theorem k135_16 : az_cd 135 16 = some (26, .iload_n 2, 1, 0, 0, 0, [], []) := rfl
theorem k135_17 : az_cd 135 17 = some (27, .istore_n 2, 1, 0, 0, 0, [], []) := rfl
theorem k135_18 : az_cd 135 18 = some (28, .iinc 3 1, 3, 0, 0, 1, [], []) := rfl
theorem k135_19 : az_cd 135 19 = some (31, .goto (-26), 3, 4, 0, 0, [], []) := rfl
theorem k135_20 : az_cd 135 20 = some (34, .iload_n 2, 1, 0, 0, 0, [], []) := rfl
theorem k135_21 : az_cd 135 21 = some (35, .ireturn, 1, 0, 0, 0, [], []) := rfl
theorem k136_0 : az_cd 136 0 = some (0, .iconst 0, 1, 0, 0, 0, [], []) := rfl
theorem k136_1 : az_cd 136 1 = some (1, .istore_n 3, 1, 0, 0, 0, [], []) := rfl
theorem k136_2 : az_cd 136 2 = some (2, .iconst 0, 1, 0, 0, 0, [], []) := rfl
theorem k136_3 : az_cd 136 3 = some (3, .istore 4, 2, 0, 0, 0, [], []) := rfl
theorem k136_4 : az_cd 136 4 = some (5, .iload 4, 2, 0, 0, 0, [], []) := rfl
theorem k136_5 : az_cd 136 5 = some (7, .bipush 8, 2, 0, 0, 8, [], []) := rfl
theorem k136_6 : az_cd 136 6 = some (9, .if_icmp .ge 48, 3, 33, 0, 0, [], []) := rfl
theorem k136_7 : az_cd 136 7 = some (12, .aload_n 0, 1, 0, 0, 0, [], []) := rfl
theorem k136_8 : az_cd 136 8 = some (13, .iload_n 1, 1, 0, 0, 0, [], []) := rfl
theorem k136_9 : az_cd 136 9 = some (14, .invokevirtual 42, 3, 134, 1, 0, [], [887, 889, 51, 890, 26]) := rfl
theorem k136_10 : az_cd 136 10 = some (17, .ifCond .eq 40, 3, 33, 0, 0, [], []) := rfl
theorem k136_11 : az_cd 136 11 = some (20, .iload_n 3, 1, 0, 0, 0, [], []) := rfl
theorem k136_12 : az_cd 136 12 = some (21, .ifCond .ne 24, 3, 27, 0, 0, [], []) := rfl
theorem k136_13 : az_cd 136 13 = some (24, .aload_n 0, 1, 0, 0, 0, [], []) := rfl
theorem k136_14 : az_cd 136 14 = some (25, .getfield 7, 3, 9, 0, 0, [], [751]) := rfl
theorem k136_15 : az_cd 136 15 = some (28, .bipush 111, 2, 0, 0, 111, [], []) := rfl
theorem k136_16 : az_cd 136 16 = some (30, .bipush 10, 2, 0, 0, 10, [], []) := rfl
theorem k136_17 : az_cd 136 17 = some (32, .iload_n 1, 1, 0, 0, 0, [], []) := rfl
theorem k136_18 : az_cd 136 18 = some (33, .imul, 1, 0, 0, 0, [], []) := rfl
theorem k136_19 : az_cd 136 19 = some (34, .iadd, 1, 0, 0, 0, [], []) := rfl
theorem k136_20 : az_cd 136 20 = some (35, .iconst 2, 1, 0, 0, 2, [], []) := rfl
theorem k136_21 : az_cd 136 21 = some (36, .iadd, 1, 0, 0, 0, [], []) := rfl
theorem k136_22 : az_cd 136 22 = some (37, .iload 4, 2, 0, 0, 0, [], []) := rfl
theorem k136_23 : az_cd 136 23 = some (39, .iadd, 1, 0, 0, 0, [], []) := rfl
theorem k136_24 : az_cd 136 24 = some (40, .iaload, 1, 0, 0, 0, [], []) := rfl
theorem k136_25 : az_cd 136 25 = some (41, .iload_n 2, 1, 0, 0, 0, [], []) := rfl
theorem k136_26 : az_cd 136 26 = some (42, .if_icmp .ne 7, 3, 29, 0, 0, [], []) := rfl
theorem k136_27 : az_cd 136 27 = some (45, .iconst 1, 1, 0, 0, 1, [], []) := rfl
theorem k136_28 : az_cd 136 28 = some (46, .goto 4, 3, 30, 0, 0, [], []) := rfl
theorem k136_29 : az_cd 136 29 = some (49, .iconst 0, 1, 0, 0, 0, [], []) := rfl
theorem k136_30 : az_cd 136 30 = some (50, .istore_n 3, 1, 0, 0, 0, [], []) := rfl
theorem k136_31 : az_cd 136 31 = some (51, .iinc 4 1, 3, 0, 0, 1, [], []) := rfl
theorem k136_32 : az_cd 136 32 = some (54, .goto (-49), 3, 4, 0, 0, [], []) := rfl
theorem k136_33 : az_cd 136 33 = some (57, .iload_n 3, 1, 0, 0, 0, [], []) := rfl
theorem k136_34 : az_cd 136 34 = some (58, .ireturn, 1, 0, 0, 0, [], []) := rfl
theorem k137_0 : az_cd 137 0 = some (0, .iconst 0, 1, 0, 0, 0, [], []) := rfl
theorem k137_1 : az_cd 137 1 = some (1, .istore_n 2, 1, 0, 0, 0, [], []) := rfl
theorem k137_2 : az_cd 137 2 = some (2, .iconst 0, 1, 0, 0, 0, [], []) := rfl
theorem k137_3 : az_cd 137 3 = some (3, .istore_n 3, 1, 0, 0, 0, [], []) := rfl
theorem k137_4 : az_cd 137 4 = some (4, .iload_n 3, 1, 0, 0, 0, [], []) := rfl
theorem k137_5 : az_cd 137 5 = some (5, .iconst 4, 1, 0, 0, 4, [], []) := rfl
theorem k137_6 : az_cd 137 6 = some (6, .if_icmp .ge 26, 3, 20, 0, 0, [], []) := rfl
theorem k137_7 : az_cd 137 7 = some (9, .iload_n 2, 1, 0, 0, 0, [], []) := rfl
theorem k137_8 : az_cd 137 8 = some (10, .aload_n 0, 1, 0, 0, 0, [], []) := rfl
theorem k137_9 : az_cd 137 9 = some (11, .iload_n 3, 1, 0, 0, 0, [], []) := rfl
theorem k137_10 : az_cd 137 10 = some (12, .iload_n 1, 1, 0, 0, 0, [], []) := rfl
theorem k137_11 : az_cd 137 11 = some (13, .invokevirtual 46, 3, 136, 2, 0, [], [883, 885, 51, 886, 25]) := rfl
theorem k137_12 : az_cd 137 12 = some (16, .ifCond .eq 7, 3, 15, 0, 0, [], []) := rfl
theorem k137_13 : az_cd 137 13 = some (19, .iconst 1, 1, 0, 0, 1, [], []) := rfl
theorem k137_14 : az_cd 137 14 = some (20, .goto 4, 3, 16, 0, 0, [], []) := rfl
theorem k137_15 : az_cd 137 15 = some (23, .iconst 0, 1, 0, 0, 0, [], []) := rfl
theorem k137_16 : az_cd 137 16 = some (24, .iadd, 1, 0, 0, 0, [], []) := rfl
theorem k137_17 : az_cd 137 17 = some (25, .istore_n 2, 1, 0, 0, 0, [], []) := rfl
theorem k137_18 : az_cd 137 18 = some (26, .iinc 3 1, 3, 0, 0, 1, [], []) := rfl
theorem k137_19 : az_cd 137 19 = some (29, .goto (-25), 3, 4, 0, 0, [], []) := rfl
theorem k137_20 : az_cd 137 20 = some (32, .iload_n 2, 1, 0, 0, 0, [], []) := rfl
theorem k137_21 : az_cd 137 21 = some (33, .ireturn, 1, 0, 0, 0, [], []) := rfl
theorem k138_0 : az_cd 138 0 = some (0, .bipush (-5), 2, 0, 0, (-5), [], []) := rfl
theorem k138_1 : az_cd 138 1 = some (2, .istore_n 2, 1, 0, 0, 0, [], []) := rfl
theorem k138_2 : az_cd 138 2 = some (3, .iconst 0, 1, 0, 0, 0, [], []) := rfl
theorem k138_3 : az_cd 138 3 = some (4, .istore_n 3, 1, 0, 0, 0, [], []) := rfl
theorem k138_4 : az_cd 138 4 = some (5, .iload_n 3, 1, 0, 0, 0, [], []) := rfl
theorem k138_5 : az_cd 138 5 = some (6, .bipush 8, 2, 0, 0, 8, [], []) := rfl
theorem k138_6 : az_cd 138 6 = some (8, .if_icmp .ge 28, 3, 21, 0, 0, [], []) := rfl
theorem k138_7 : az_cd 138 7 = some (11, .aload_n 0, 1, 0, 0, 0, [], []) := rfl
theorem k138_8 : az_cd 138 8 = some (12, .getfield 7, 3, 9, 0, 0, [], [751]) := rfl
theorem k138_9 : az_cd 138 9 = some (15, .bipush 103, 2, 0, 0, 103, [], []) := rfl
theorem k138_10 : az_cd 138 10 = some (17, .iload_n 3, 1, 0, 0, 0, [], []) := rfl
theorem k138_11 : az_cd 138 11 = some (18, .iadd, 1, 0, 0, 0, [], []) := rfl
theorem k138_12 : az_cd 138 12 = some (19, .iaload, 1, 0, 0, 0, [], []) := rfl
theorem k138_13 : az_cd 138 13 = some (20, .iload_n 1, 1, 0, 0, 0, [], []) := rfl
theorem k138_14 : az_cd 138 14 = some (21, .if_icmp .ne 7, 3, 17, 0, 0, [], []) := rfl
theorem k138_15 : az_cd 138 15 = some (24, .iload_n 3, 1, 0, 0, 0, [], []) := rfl
theorem k138_16 : az_cd 138 16 = some (25, .goto 4, 3, 18, 0, 0, [], []) := rfl
theorem k138_17 : az_cd 138 17 = some (28, .iload_n 2, 1, 0, 0, 0, [], []) := rfl
theorem k138_18 : az_cd 138 18 = some (29, .istore_n 2, 1, 0, 0, 0, [], []) := rfl
theorem k138_19 : az_cd 138 19 = some (30, .iinc 3 1, 3, 0, 0, 1, [], []) := rfl
theorem k138_20 : az_cd 138 20 = some (33, .goto (-28), 3, 4, 0, 0, [], []) := rfl
theorem k138_21 : az_cd 138 21 = some (36, .iload_n 2, 1, 0, 0, 0, [], []) := rfl
theorem k138_22 : az_cd 138 22 = some (37, .ireturn, 1, 0, 0, 0, [], []) := rfl
theorem k139_0 : az_cd 139 0 = some (0, .aload_n 0, 1, 0, 0, 0, [], []) := rfl
theorem k139_1 : az_cd 139 1 = some (1, .iload_n 1, 1, 0, 0, 0, [], []) := rfl
theorem k139_2 : az_cd 139 2 = some (2, .invokevirtual 50, 3, 135, 1, 0, [], [871, 873, 51, 874, 22]) := rfl
theorem k139_3 : az_cd 139 3 = some (5, .bipush (-5), 2, 0, 0, (-5), [], []) := rfl
theorem k139_4 : az_cd 139 4 = some (7, .if_icmp .ne 25, 3, 16, 0, 0, [], []) := rfl
theorem k139_5 : az_cd 139 5 = some (10, .aload_n 0, 1, 0, 0, 0, [], []) := rfl
theorem k139_6 : az_cd 139 6 = some (11, .iload_n 1, 1, 0, 0, 0, [], []) := rfl
theorem k139_7 : az_cd 139 7 = some (12, .invokevirtual 53, 3, 137, 1, 0, [], [879, 881, 51, 882, 24]) := rfl
theorem k139_8 : az_cd 139 8 = some (15, .ifCond .ne 17, 3, 16, 0, 0, [], []) := rfl
theorem k139_9 : az_cd 139 9 = some (18, .aload_n 0, 1, 0, 0, 0, [], []) := rfl
theorem k139_10 : az_cd 139 10 = some (19, .iload_n 1, 1, 0, 0, 0, [], []) := rfl
theorem k139_11 : az_cd 139 11 = some (20, .invokevirtual 56, 3, 138, 1, 0, [], [891, 893, 51, 894, 27]) := rfl
theorem k139_12 : az_cd 139 12 = some (23, .bipush (-5), 2, 0, 0, (-5), [], []) := rfl
theorem k139_13 : az_cd 139 13 = some (25, .if_icmp .ne 7, 3, 16, 0, 0, [], []) := rfl
theorem k139_14 : az_cd 139 14 = some (28, .iconst 1, 1, 0, 0, 1, [], []) := rfl
theorem k139_15 : az_cd 139 15 = some (29, .goto 4, 3, 17, 0, 0, [], []) := rfl
theorem k139_16 : az_cd 139 16 = some (32, .iconst 0, 1, 0, 0, 0, [], []) := rfl
theorem k139_17 : az_cd 139 17 = some (33, .ireturn, 1, 0, 0, 0, [], []) := rfl
theorem k140_0 : az_cd 140 0 = some (0, .aload_n 0, 1, 0, 0, 0, [], []) := rfl
theorem k140_1 : az_cd 140 1 = some (1, .getfield 7, 3, 9, 0, 0, [], [751]) := rfl
theorem k140_2 : az_cd 140 2 = some (4, .bipush 24, 2, 0, 0, 24, [], []) := rfl
theorem k140_3 : az_cd 140 3 = some (6, .iload_n 1, 1, 0, 0, 0, [], []) := rfl
theorem k140_4 : az_cd 140 4 = some (7, .iadd, 1, 0, 0, 0, [], []) := rfl
theorem k140_5 : az_cd 140 5 = some (8, .iaload, 1, 0, 0, 0, [], []) := rfl
theorem k140_6 : az_cd 140 6 = some (9, .aload_n 0, 1, 0, 0, 0, [], []) := rfl
theorem k140_7 : az_cd 140 7 = some (10, .getfield 7, 3, 9, 0, 0, [], [751]) := rfl
theorem k140_8 : az_cd 140 8 = some (13, .iconst 0, 1, 0, 0, 0, [], []) := rfl
theorem k140_9 : az_cd 140 9 = some (14, .iload_n 1, 1, 0, 0, 0, [], []) := rfl
theorem k140_10 : az_cd 140 10 = some (15, .iadd, 1, 0, 0, 0, [], []) := rfl
theorem k140_11 : az_cd 140 11 = some (16, .iaload, 1, 0, 0, 0, [], []) := rfl
theorem k140_12 : az_cd 140 12 = some (17, .invokestatic 59, 3, 132, 1, 0, [], [903, 904, 51, 905]) := rfl
theorem k140_13 : az_cd 140 13 = some (20, .if_icmp .eq 7, 3, 16, 0, 0, [], []) := rfl
theorem k140_14 : az_cd 140 14 = some (23, .iconst 1, 1, 0, 0, 1, [], []) := rfl
theorem k140_15 : az_cd 140 15 = some (24, .goto 4, 3, 17, 0, 0, [], []) := rfl
theorem k140_16 : az_cd 140 16 = some (27, .iconst 0, 1, 0, 0, 0, [], []) := rfl
theorem k140_17 : az_cd 140 17 = some (28, .ireturn, 1, 0, 0, 0, [], []) := rfl
theorem k141_0 : az_cd 141 0 = some (0, .bipush (-5), 2, 0, 0, (-5), [], []) := rfl
theorem k141_1 : az_cd 141 1 = some (2, .istore_n 1, 1, 0, 0, 0, [], []) := rfl
theorem k141_2 : az_cd 141 2 = some (3, .iconst 0, 1, 0, 0, 0, [], []) := rfl
theorem k141_3 : az_cd 141 3 = some (4, .istore_n 2, 1, 0, 0, 0, [], []) := rfl
theorem k141_4 : az_cd 141 4 = some (5, .iload_n 2, 1, 0, 0, 0, [], []) := rfl
theorem k141_5 : az_cd 141 5 = some (6, .bipush 24, 2, 0, 0, 24, [], []) := rfl
theorem k141_6 : az_cd 141 6 = some (8, .if_icmp .ge 50, 3, 33, 0, 0, [], []) := rfl
theorem k141_7 : az_cd 141 7 = some (11, .aload_n 0, 1, 0, 0, 0, [], []) := rfl
theorem k141_8 : az_cd 141 8 = some (12, .iload_n 2, 1, 0, 0, 0, [], []) := rfl
theorem k141_9 : az_cd 141 9 = some (13, .invokevirtual 62, 3, 139, 1, 0, [], [867, 869, 51, 870, 21]) := rfl
theorem k141_10 : az_cd 141 10 = some (16, .ifCond .eq 34, 3, 29, 0, 0, [], []) := rfl
theorem k141_11 : az_cd 141 11 = some (19, .iload_n 1, 1, 0, 0, 0, [], []) := rfl
theorem k141_12 : az_cd 141 12 = some (20, .bipush (-5), 2, 0, 0, (-5), [], []) := rfl
theorem k141_13 : az_cd 141 13 = some (22, .if_icmp .eq 24, 3, 27, 0, 0, [], []) := rfl
theorem k141_14 : az_cd 141 14 = some (25, .aload_n 0, 1, 0, 0, 0, [], []) := rfl
theorem k141_15 : az_cd 141 15 = some (26, .getfield 7, 3, 9, 0, 0, [], [751]) := rfl
theorem k141_16 : az_cd 141 16 = some (29, .bipush 48, 2, 0, 0, 48, [], []) := rfl
theorem k141_17 : az_cd 141 17 = some (31, .iload_n 2, 1, 0, 0, 0, [], []) := rfl
theorem k141_18 : az_cd 141 18 = some (32, .iadd, 1, 0, 0, 0, [], []) := rfl
theorem k141_19 : az_cd 141 19 = some (33, .iaload, 1, 0, 0, 0, [], []) := rfl
theorem k141_20 : az_cd 141 20 = some (34, .aload_n 0, 1, 0, 0, 0, [], []) := rfl
theorem k141_21 : az_cd 141 21 = some (35, .getfield 7, 3, 9, 0, 0, [], [751]) := rfl
theorem k141_22 : az_cd 141 22 = some (38, .bipush 48, 2, 0, 0, 48, [], []) := rfl
theorem k141_23 : az_cd 141 23 = some (40, .iload_n 1, 1, 0, 0, 0, [], []) := rfl
theorem k141_24 : az_cd 141 24 = some (41, .iadd, 1, 0, 0, 0, [], []) := rfl
theorem k141_25 : az_cd 141 25 = some (42, .iaload, 1, 0, 0, 0, [], []) := rfl
theorem k141_26 : az_cd 141 26 = some (43, .if_icmp .ge 7, 3, 29, 0, 0, [], []) := rfl
theorem k141_27 : az_cd 141 27 = some (46, .iload_n 2, 1, 0, 0, 0, [], []) := rfl
theorem k141_28 : az_cd 141 28 = some (47, .goto 4, 3, 30, 0, 0, [], []) := rfl
theorem k141_29 : az_cd 141 29 = some (50, .iload_n 1, 1, 0, 0, 0, [], []) := rfl
theorem k141_30 : az_cd 141 30 = some (51, .istore_n 1, 1, 0, 0, 0, [], []) := rfl
theorem k141_31 : az_cd 141 31 = some (52, .iinc 2 1, 3, 0, 0, 1, [], []) := rfl
theorem k141_32 : az_cd 141 32 = some (55, .goto (-50), 3, 4, 0, 0, [], []) := rfl
theorem k141_33 : az_cd 141 33 = some (58, .iload_n 1, 1, 0, 0, 0, [], []) := rfl
theorem k141_34 : az_cd 141 34 = some (59, .ireturn, 1, 0, 0, 0, [], []) := rfl
theorem k142_0 : az_cd 142 0 = some (0, .aload_n 0, 1, 0, 0, 0, [], []) := rfl
theorem k142_1 : az_cd 142 1 = some (1, .getfield 7, 3, 9, 0, 0, [], [751]) := rfl
theorem k142_2 : az_cd 142 2 = some (4, .iconst 0, 1, 0, 0, 0, [], []) := rfl
theorem k142_3 : az_cd 142 3 = some (5, .iload_n 1, 1, 0, 0, 0, [], []) := rfl
theorem k142_4 : az_cd 142 4 = some (6, .iadd, 1, 0, 0, 0, [], []) := rfl
theorem k142_5 : az_cd 142 5 = some (7, .iload_n 2, 1, 0, 0, 0, [], []) := rfl
theorem k142_6 : az_cd 142 6 = some (8, .iastore, 1, 0, 0, 0, [], []) := rfl
theorem k142_7 : az_cd 142 7 = some (9, .aload_n 0, 1, 0, 0, 0, [], []) := rfl
theorem k142_8 : az_cd 142 8 = some (10, .getfield 7, 3, 9, 0, 0, [], [751]) := rfl
theorem k142_9 : az_cd 142 9 = some (13, .bipush 24, 2, 0, 0, 24, [], []) := rfl
theorem k142_10 : az_cd 142 10 = some (15, .iload_n 1, 1, 0, 0, 0, [], []) := rfl
theorem k142_11 : az_cd 142 11 = some (16, .iadd, 1, 0, 0, 0, [], []) := rfl
theorem k142_12 : az_cd 142 12 = some (17, .iload_n 2, 1, 0, 0, 0, [], []) := rfl
theorem k142_13 : az_cd 142 13 = some (18, .invokestatic 59, 3, 132, 1, 0, [], [903, 904, 51, 905]) := rfl
theorem k142_14 : az_cd 142 14 = some (21, .iload_n 3, 1, 0, 0, 0, [], []) := rfl
theorem k142_15 : az_cd 142 15 = some (22, .iadd, 1, 0, 0, 0, [], []) := rfl
theorem k142_16 : az_cd 142 16 = some (23, .bipush 101, 2, 0, 0, 101, [], []) := rfl
theorem k142_17 : az_cd 142 17 = some (25, .irem, 1, 0, 0, 0, [], []) := rfl
theorem k142_18 : az_cd 142 18 = some (26, .iastore, 1, 0, 0, 0, [], []) := rfl
theorem k142_19 : az_cd 142 19 = some (27, .aload_n 0, 1, 0, 0, 0, [], []) := rfl
theorem k142_20 : az_cd 142 20 = some (28, .getfield 7, 3, 9, 0, 0, [], [751]) := rfl
theorem k142_21 : az_cd 142 21 = some (31, .bipush 48, 2, 0, 0, 48, [], []) := rfl
theorem k142_22 : az_cd 142 22 = some (33, .iload_n 1, 1, 0, 0, 0, [], []) := rfl
theorem k142_23 : az_cd 142 23 = some (34, .iadd, 1, 0, 0, 0, [], []) := rfl
theorem k142_24 : az_cd 142 24 = some (35, .dup2, 1, 0, 0, 0, [], []) := rfl
theorem k142_25 : az_cd 142 25 = some (36, .iaload, 1, 0, 0, 0, [], []) := rfl
theorem k142_26 : az_cd 142 26 = some (37, .iconst 1, 1, 0, 0, 1, [], []) := rfl
theorem k142_27 : az_cd 142 27 = some (38, .iadd, 1, 0, 0, 0, [], []) := rfl
theorem k142_28 : az_cd 142 28 = some (39, .iastore, 1, 0, 0, 0, [], []) := rfl
theorem k142_29 : az_cd 142 29 = some (40, .return_, 1, 0, 0, 0, [], []) := rfl
theorem k143_0 : az_cd 143 0 = some (0, .iconst 0, 1, 0, 0, 0, [], []) := rfl
theorem k143_1 : az_cd 143 1 = some (1, .istore_n 1, 1, 0, 0, 0, [], []) := rfl
theorem k143_2 : az_cd 143 2 = some (2, .iconst 0, 1, 0, 0, 0, [], []) := rfl
theorem k143_3 : az_cd 143 3 = some (3, .istore_n 2, 1, 0, 0, 0, [], []) := rfl
theorem k143_4 : az_cd 143 4 = some (4, .iload_n 2, 1, 0, 0, 0, [], []) := rfl
theorem k143_5 : az_cd 143 5 = some (5, .bipush 8, 2, 0, 0, 8, [], []) := rfl
theorem k143_6 : az_cd 143 6 = some (7, .if_icmp .ge 31, 3, 23, 0, 0, [], []) := rfl
theorem k143_7 : az_cd 143 7 = some (10, .iload_n 1, 1, 0, 0, 0, [], []) := rfl
theorem k143_8 : az_cd 143 8 = some (11, .aload_n 0, 1, 0, 0, 0, [], []) := rfl
theorem k143_9 : az_cd 143 9 = some (12, .getfield 7, 3, 9, 0, 0, [], [751]) := rfl
theorem k143_10 : az_cd 143 10 = some (15, .bipush 93, 2, 0, 0, 93, [], []) := rfl
theorem k143_11 : az_cd 143 11 = some (17, .iload_n 2, 1, 0, 0, 0, [], []) := rfl
theorem k143_12 : az_cd 143 12 = some (18, .iadd, 1, 0, 0, 0, [], []) := rfl
theorem k143_13 : az_cd 143 13 = some (19, .iaload, 1, 0, 0, 0, [], []) := rfl
theorem k143_14 : az_cd 143 14 = some (20, .bipush (-5), 2, 0, 0, (-5), [], []) := rfl
theorem k143_15 : az_cd 143 15 = some (22, .if_icmp .eq 7, 3, 18, 0, 0, [], []) := rfl
theorem k143_16 : az_cd 143 16 = some (25, .iconst 1, 1, 0, 0, 1, [], []) := rfl
theorem k143_17 : az_cd 143 17 = some (26, .goto 4, 3, 19, 0, 0, [], []) := rfl
theorem k143_18 : az_cd 143 18 = some (29, .iconst 0, 1, 0, 0, 0, [], []) := rfl
theorem k143_19 : az_cd 143 19 = some (30, .iadd, 1, 0, 0, 0, [], []) := rfl
theorem k143_20 : az_cd 143 20 = some (31, .istore_n 1, 1, 0, 0, 0, [], []) := rfl
theorem k143_21 : az_cd 143 21 = some (32, .iinc 2 1, 3, 0, 0, 1, [], []) := rfl
theorem k143_22 : az_cd 143 22 = some (35, .goto (-31), 3, 4, 0, 0, [], []) := rfl
theorem k143_23 : az_cd 143 23 = some (38, .iload_n 1, 1, 0, 0, 0, [], []) := rfl
theorem k143_24 : az_cd 143 24 = some (39, .ireturn, 1, 0, 0, 0, [], []) := rfl
theorem k144_0 : az_cd 144 0 = some (0, .iconst 0, 1, 0, 0, 0, [], []) := rfl
theorem k144_1 : az_cd 144 1 = some (1, .istore_n 1, 1, 0, 0, 0, [], []) := rfl
theorem k144_2 : az_cd 144 2 = some (2, .iload_n 1, 1, 0, 0, 0, [], []) := rfl
theorem k144_3 : az_cd 144 3 = some (3, .bipush 8, 2, 0, 0, 8, [], []) := rfl
theorem k144_4 : az_cd 144 4 = some (5, .if_icmp .ge 20, 3, 14, 0, 0, [], []) := rfl
theorem k144_5 : az_cd 144 5 = some (8, .aload_n 0, 1, 0, 0, 0, [], []) := rfl
theorem k144_6 : az_cd 144 6 = some (9, .getfield 7, 3, 9, 0, 0, [], [751]) := rfl
theorem k144_7 : az_cd 144 7 = some (12, .bipush 93, 2, 0, 0, 93, [], []) := rfl
theorem k144_8 : az_cd 144 8 = some (14, .iload_n 1, 1, 0, 0, 0, [], []) := rfl
theorem k144_9 : az_cd 144 9 = some (15, .iadd, 1, 0, 0, 0, [], []) := rfl
theorem k144_10 : az_cd 144 10 = some (16, .bipush (-5), 2, 0, 0, (-5), [], []) := rfl
theorem k144_11 : az_cd 144 11 = some (18, .iastore, 1, 0, 0, 0, [], []) := rfl
theorem k144_12 : az_cd 144 12 = some (19, .iinc 1 1, 3, 0, 0, 1, [], []) := rfl
theorem k144_13 : az_cd 144 13 = some (22, .goto (-20), 3, 2, 0, 0, [], []) := rfl
theorem k144_14 : az_cd 144 14 = some (25, .return_, 1, 0, 0, 0, [], []) := rfl
theorem k145_0 : az_cd 145 0 = some (0, .aload_n 0, 1, 0, 0, 0, [], []) := rfl
theorem k145_1 : az_cd 145 1 = some (1, .getfield 7, 3, 9, 0, 0, [], [751]) := rfl
theorem k145_2 : az_cd 145 2 = some (4, .bipush 93, 2, 0, 0, 93, [], []) := rfl
theorem k145_3 : az_cd 145 3 = some (6, .iload_n 1, 1, 0, 0, 0, [], []) := rfl
theorem k145_4 : az_cd 145 4 = some (7, .iadd, 1, 0, 0, 0, [], []) := rfl
theorem k145_5 : az_cd 145 5 = some (8, .iaload, 1, 0, 0, 0, [], []) := rfl
theorem k145_6 : az_cd 145 6 = some (9, .iload_n 2, 1, 0, 0, 0, [], []) := rfl
theorem k145_7 : az_cd 145 7 = some (10, .if_icmp .ne 6, 3, 10, 0, 0, [], []) := rfl
theorem k145_8 : az_cd 145 8 = some (13, .bipush (-5), 2, 0, 0, (-5), [], []) := rfl
theorem k145_9 : az_cd 145 9 = some (15, .ireturn, 1, 0, 0, 0, [], []) := rfl
theorem k145_10 : az_cd 145 10 = some (16, .aload_n 0, 1, 0, 0, 0, [], []) := rfl
theorem k145_11 : az_cd 145 11 = some (17, .invokevirtual 65, 3, 131, 0, 0, [], [796, 798, 51, 799, 9]) := rfl
theorem k145_12 : az_cd 145 12 = some (20, .aload_n 0, 1, 0, 0, 0, [], []) := rfl
theorem k145_13 : az_cd 145 13 = some (21, .getfield 7, 3, 9, 0, 0, [], [751]) := rfl
theorem k145_14 : az_cd 145 14 = some (24, .bipush 93, 2, 0, 0, 93, [], []) := rfl
theorem k145_15 : az_cd 145 15 = some (26, .iload_n 1, 1, 0, 0, 0, [], []) := rfl
theorem k145_16 : az_cd 145 16 = some (27, .iadd, 1, 0, 0, 0, [], []) := rfl
theorem k145_17 : az_cd 145 17 = some (28, .iload_n 2, 1, 0, 0, 0, [], []) := rfl
theorem k145_18 : az_cd 145 18 = some (29, .iastore, 1, 0, 0, 0, [], []) := rfl
theorem k145_19 : az_cd 145 19 = some (30, .aload_n 0, 1, 0, 0, 0, [], []) := rfl
theorem k145_20 : az_cd 145 20 = some (31, .invokevirtual 68, 3, 143, 0, 0, [], [803, 805, 51, 806, 10]) := rfl
theorem k145_21 : az_cd 145 21 = some (34, .ireturn, 1, 0, 0, 0, [], []) := rfl
theorem k146_0 : az_cd 146 0 = some (0, .iload_n 1, 1, 0, 0, 0, [], []) := rfl
theorem k146_1 : az_cd 146 1 = some (1, .invokestatic 72, 3, 129, 1, 0, [], [786, 787, 51, 788]) := rfl
theorem k146_2 : az_cd 146 2 = some (4, .ifCond .ne 5, 3, 5, 0, 0, [], []) := rfl
theorem k146_3 : az_cd 146 3 = some (7, .iconst (-1), 1, 0, 0, (-1), [], []) := rfl
theorem k146_4 : az_cd 146 4 = some (8, .ireturn, 1, 0, 0, 0, [], []) := rfl
theorem k146_5 : az_cd 146 5 = some (9, .iload_n 2, 1, 0, 0, 0, [], []) := rfl
theorem k146_6 : az_cd 146 6 = some (10, .iconst 0, 1, 0, 0, 0, [], []) := rfl
theorem k146_7 : az_cd 146 7 = some (11, .sipush 999, 3, 0, 0, 999, [], []) := rfl
theorem k146_8 : az_cd 146 8 = some (14, .invokestatic 26, 3, 128, 3, 0, [], [789, 790, 51, 791]) := rfl
theorem k146_9 : az_cd 146 9 = some (17, .ifCond .ne 6, 3, 12, 0, 0, [], []) := rfl
theorem k146_10 : az_cd 146 10 = some (20, .bipush (-2), 2, 0, 0, (-2), [], []) := rfl
theorem k146_11 : az_cd 146 11 = some (22, .ireturn, 1, 0, 0, 0, [], []) := rfl
theorem k146_12 : az_cd 146 12 = some (23, .aload_n 0, 1, 0, 0, 0, [], []) := rfl
theorem k146_13 : az_cd 146 13 = some (24, .getfield 7, 3, 9, 0, 0, [], [751]) := rfl
theorem k146_14 : az_cd 146 14 = some (27, .bipush 101, 2, 0, 0, 101, [], []) := rfl
theorem k146_15 : az_cd 146 15 = some (29, .iaload, 1, 0, 0, 0, [], []) := rfl
theorem k146_16 : az_cd 146 16 = some (30, .iconst 1, 1, 0, 0, 1, [], []) := rfl
theorem k146_17 : az_cd 146 17 = some (31, .if_icmp .ne 8, 3, 20, 0, 0, [], []) := rfl
theorem k146_18 : az_cd 146 18 = some (34, .bipush (-4), 2, 0, 0, (-4), [], []) := rfl
theorem k146_19 : az_cd 146 19 = some (36, .goto 9, 3, 24, 0, 0, [], []) := rfl
theorem k146_20 : az_cd 146 20 = some (39, .aload_n 0, 1, 0, 0, 0, [], []) := rfl
theorem k146_21 : az_cd 146 21 = some (40, .iload_n 1, 1, 0, 0, 0, [], []) := rfl
theorem k146_22 : az_cd 146 22 = some (41, .iload_n 2, 1, 0, 0, 0, [], []) := rfl
theorem k146_23 : az_cd 146 23 = some (42, .invokevirtual 75, 3, 145, 2, 0, [], [792, 794, 51, 795, 8]) := rfl
theorem k146_24 : az_cd 146 24 = some (45, .ireturn, 1, 0, 0, 0, [], []) := rfl
theorem k147_0 : az_cd 147 0 = some (0, .iload_n 1, 1, 0, 0, 0, [], []) := rfl
theorem k147_1 : az_cd 147 1 = some (1, .invokestatic 72, 3, 129, 1, 0, [], [786, 787, 51, 788]) := rfl
theorem k147_2 : az_cd 147 2 = some (4, .ifCond .ne 5, 3, 5, 0, 0, [], []) := rfl
theorem k147_3 : az_cd 147 3 = some (7, .iconst (-1), 1, 0, 0, (-1), [], []) := rfl
theorem k147_4 : az_cd 147 4 = some (8, .ireturn, 1, 0, 0, 0, [], []) := rfl
theorem k147_5 : az_cd 147 5 = some (9, .aload_n 0, 1, 0, 0, 0, [], []) := rfl
theorem k147_6 : az_cd 147 6 = some (10, .getfield 7, 3, 9, 0, 0, [], [751]) := rfl
theorem k147_7 : az_cd 147 7 = some (13, .bipush 101, 2, 0, 0, 101, [], []) := rfl
theorem k147_8 : az_cd 147 8 = some (15, .iaload, 1, 0, 0, 0, [], []) := rfl
theorem k147_9 : az_cd 147 9 = some (16, .iconst 1, 1, 0, 0, 1, [], []) := rfl
theorem k147_10 : az_cd 147 10 = some (17, .if_icmp .ne 8, 3, 13, 0, 0, [], []) := rfl
theorem k147_11 : az_cd 147 11 = some (20, .bipush (-4), 2, 0, 0, (-4), [], []) := rfl
theorem k147_12 : az_cd 147 12 = some (22, .goto 10, 3, 17, 0, 0, [], []) := rfl
theorem k147_13 : az_cd 147 13 = some (25, .aload_n 0, 1, 0, 0, 0, [], []) := rfl
theorem k147_14 : az_cd 147 14 = some (26, .iload_n 1, 1, 0, 0, 0, [], []) := rfl
theorem k147_15 : az_cd 147 15 = some (27, .bipush (-6), 2, 0, 0, (-6), [], []) := rfl
theorem k147_16 : az_cd 147 16 = some (29, .invokevirtual 75, 3, 145, 2, 0, [], [792, 794, 51, 795, 8]) := rfl
theorem k147_17 : az_cd 147 17 = some (32, .ireturn, 1, 0, 0, 0, [], []) := rfl
theorem k148_0 : az_cd 148 0 = some (0, .aload_n 0, 1, 0, 0, 0, [], []) := rfl
theorem k148_1 : az_cd 148 1 = some (1, .invokevirtual 79, 3, 171, 0, 0, [], [815, 817, 51, 818, 11]) := rfl
theorem k148_2 : az_cd 148 2 = some (4, .istore_n 1, 1, 0, 0, 0, [], []) := rfl
theorem k148_3 : az_cd 148 3 = some (5, .iload_n 1, 1, 0, 0, 0, [], []) := rfl
theorem k148_4 : az_cd 148 4 = some (6, .bipush (-5), 2, 0, 0, (-5), [], []) := rfl
theorem k148_5 : az_cd 148 5 = some (8, .if_icmp .eq 8, 3, 10, 0, 0, [], []) := rfl
theorem k148_6 : az_cd 148 6 = some (11, .bipush (-100), 2, 0, 0, (-100), [], []) := rfl
theorem k148_7 : az_cd 148 7 = some (13, .iload_n 1, 1, 0, 0, 0, [], []) := rfl
theorem k148_8 : az_cd 148 8 = some (14, .isub, 1, 0, 0, 0, [], []) := rfl
theorem k148_9 : az_cd 148 9 = some (15, .ireturn, 1, 0, 0, 0, [], []) := rfl
theorem k148_10 : az_cd 148 10 = some (16, .aload_n 0, 1, 0, 0, 0, [], []) := rfl
theorem k148_11 : az_cd 148 11 = some (17, .getfield 7, 3, 9, 0, 0, [], [751]) := rfl
theorem k148_12 : az_cd 148 12 = some (20, .bipush 101, 2, 0, 0, 101, [], []) := rfl
theorem k148_13 : az_cd 148 13 = some (22, .iaload, 1, 0, 0, 0, [], []) := rfl
theorem k148_14 : az_cd 148 14 = some (23, .iconst 1, 1, 0, 0, 1, [], []) := rfl
theorem k148_15 : az_cd 148 15 = some (24, .if_icmp .ne 6, 3, 18, 0, 0, [], []) := rfl
theorem k148_16 : az_cd 148 16 = some (27, .bipush (-4), 2, 0, 0, (-4), [], []) := rfl
theorem k148_17 : az_cd 148 17 = some (29, .ireturn, 1, 0, 0, 0, [], []) := rfl
theorem k148_18 : az_cd 148 18 = some (30, .aload_n 0, 1, 0, 0, 0, [], []) := rfl
theorem k148_19 : az_cd 148 19 = some (31, .invokevirtual 65, 3, 131, 0, 0, [], [796, 798, 51, 799, 9]) := rfl
theorem k148_20 : az_cd 148 20 = some (34, .iconst 0, 1, 0, 0, 0, [], []) := rfl
theorem k148_21 : az_cd 148 21 = some (35, .istore_n 2, 1, 0, 0, 0, [], []) := rfl
theorem k148_22 : az_cd 148 22 = some (36, .iload_n 2, 1, 0, 0, 0, [], []) := rfl
theorem k148_23 : az_cd 148 23 = some (37, .aload_n 0, 1, 0, 0, 0, [], []) := rfl
theorem k148_24 : az_cd 148 24 = some (38, .getfield 82, 3, 9, 9, 0, [], [760]) := rfl
theorem k148_25 : az_cd 148 25 = some (41, .if_icmp .ge 35, 3, 47, 0, 0, [], []) := rfl
theorem k148_26 : az_cd 148 26 = some (44, .aload_n 0, 1, 0, 0, 0, [], []) := rfl
theorem k148_27 : az_cd 148 27 = some (45, .getfield 7, 3, 9, 0, 0, [], [751]) := rfl
theorem k148_28 : az_cd 148 28 = some (48, .bipush 93, 2, 0, 0, 93, [], []) := rfl
theorem k148_29 : az_cd 148 29 = some (50, .aload_n 0, 1, 0, 0, 0, [], []) := rfl
theorem k148_30 : az_cd 148 30 = some (51, .getfield 23, 3, 9, 8, 0, [], [759]) := rfl
theorem k148_31 : az_cd 148 31 = some (54, .iconst 2, 1, 0, 0, 2, [], []) := rfl
theorem k148_32 : az_cd 148 32 = some (55, .iload_n 2, 1, 0, 0, 0, [], []) := rfl
theorem k148_33 : az_cd 148 33 = some (56, .imul, 1, 0, 0, 0, [], []) := rfl
theorem k148_34 : az_cd 148 34 = some (57, .iaload, 1, 0, 0, 0, [], []) := rfl
theorem k148_35 : az_cd 148 35 = some (58, .iadd, 1, 0, 0, 0, [], []) := rfl
theorem k148_36 : az_cd 148 36 = some (59, .aload_n 0, 1, 0, 0, 0, [], []) := rfl
theorem k148_37 : az_cd 148 37 = some (60, .getfield 23, 3, 9, 8, 0, [], [759]) := rfl
theorem k148_38 : az_cd 148 38 = some (63, .iconst 2, 1, 0, 0, 2, [], []) := rfl
theorem k148_39 : az_cd 148 39 = some (64, .iload_n 2, 1, 0, 0, 0, [], []) := rfl
theorem k148_40 : az_cd 148 40 = some (65, .imul, 1, 0, 0, 0, [], []) := rfl
theorem k148_41 : az_cd 148 41 = some (66, .iconst 1, 1, 0, 0, 1, [], []) := rfl
theorem k148_42 : az_cd 148 42 = some (67, .iadd, 1, 0, 0, 0, [], []) := rfl
theorem k148_43 : az_cd 148 43 = some (68, .iaload, 1, 0, 0, 0, [], []) := rfl
theorem k148_44 : az_cd 148 44 = some (69, .iastore, 1, 0, 0, 0, [], []) := rfl
theorem k148_45 : az_cd 148 45 = some (70, .iinc 2 1, 3, 0, 0, 1, [], []) := rfl
theorem k148_46 : az_cd 148 46 = some (73, .goto (-37), 3, 22, 0, 0, [], []) := rfl
theorem k148_47 : az_cd 148 47 = some (76, .aload_n 0, 1, 0, 0, 0, [], []) := rfl
theorem k148_48 : az_cd 148 48 = some (77, .getfield 82, 3, 9, 9, 0, [], [760]) := rfl
theorem k148_49 : az_cd 148 49 = some (80, .ireturn, 1, 0, 0, 0, [], []) := rfl
theorem k149_0 : az_cd 149 0 = some (0, .aload_n 0, 1, 0, 0, 0, [], []) := rfl
theorem k149_1 : az_cd 149 1 = some (1, .getfield 7, 3, 9, 0, 0, [], [751]) := rfl
theorem k149_2 : az_cd 149 2 = some (4, .bipush 101, 2, 0, 0, 101, [], []) := rfl
theorem k149_3 : az_cd 149 3 = some (6, .iaload, 1, 0, 0, 0, [], []) := rfl
theorem k149_4 : az_cd 149 4 = some (7, .iconst 1, 1, 0, 0, 1, [], []) := rfl
theorem k149_5 : az_cd 149 5 = some (8, .if_icmp .ne 6, 3, 8, 0, 0, [], []) := rfl
theorem k149_6 : az_cd 149 6 = some (11, .bipush (-4), 2, 0, 0, (-4), [], []) := rfl
theorem k149_7 : az_cd 149 7 = some (13, .ireturn, 1, 0, 0, 0, [], []) := rfl
theorem k149_8 : az_cd 149 8 = some (14, .aload_n 0, 1, 0, 0, 0, [], []) := rfl
theorem k149_9 : az_cd 149 9 = some (15, .invokevirtual 68, 3, 143, 0, 0, [], [803, 805, 51, 806, 10]) := rfl
theorem k149_10 : az_cd 149 10 = some (18, .istore_n 1, 1, 0, 0, 0, [], []) := rfl
theorem k149_11 : az_cd 149 11 = some (19, .iload_n 1, 1, 0, 0, 0, [], []) := rfl
theorem k149_12 : az_cd 149 12 = some (20, .ifCond .ne 6, 3, 15, 0, 0, [], []) := rfl
theorem k149_13 : az_cd 149 13 = some (23, .bipush (-5), 2, 0, 0, (-5), [], []) := rfl
theorem k149_14 : az_cd 149 14 = some (25, .ireturn, 1, 0, 0, 0, [], []) := rfl
theorem k149_15 : az_cd 149 15 = some (26, .aload_n 0, 1, 0, 0, 0, [], []) := rfl
theorem k149_16 : az_cd 149 16 = some (27, .invokevirtual 65, 3, 131, 0, 0, [], [796, 798, 51, 799, 9]) := rfl
theorem k149_17 : az_cd 149 17 = some (30, .aload_n 0, 1, 0, 0, 0, [], []) := rfl
theorem k149_18 : az_cd 149 18 = some (31, .invokevirtual 85, 3, 144, 0, 0, [], [835, 837, 51, 838, 15]) := rfl
theorem k149_19 : az_cd 149 19 = some (34, .iload_n 1, 1, 0, 0, 0, [], []) := rfl
theorem k149_20 : az_cd 149 20 = some (35, .ireturn, 1, 0, 0, 0, [], []) := rfl
theorem k150_0 : az_cd 150 0 = some (0, .iconst 0, 1, 0, 0, 0, [], []) := rfl
theorem k150_1 : az_cd 150 1 = some (1, .istore_n 1, 1, 0, 0, 0, [], []) := rfl
theorem k150_2 : az_cd 150 2 = some (2, .iconst 0, 1, 0, 0, 0, [], []) := rfl
theorem k150_3 : az_cd 150 3 = some (3, .istore_n 2, 1, 0, 0, 0, [], []) := rfl
theorem k150_4 : az_cd 150 4 = some (4, .iload_n 2, 1, 0, 0, 0, [], []) := rfl
theorem k150_5 : az_cd 150 5 = some (5, .bipush 8, 2, 0, 0, 8, [], []) := rfl
theorem k150_6 : az_cd 150 6 = some (7, .if_icmp .ge 29, 3, 22, 0, 0, [], []) := rfl
theorem k150_7 : az_cd 150 7 = some (10, .iload_n 1, 1, 0, 0, 0, [], []) := rfl
theorem k150_8 : az_cd 150 8 = some (11, .aload_n 0, 1, 0, 0, 0, [], []) := rfl
theorem k150_9 : az_cd 150 9 = some (12, .getfield 7, 3, 9, 0, 0, [], [751]) := rfl
theorem k150_10 : az_cd 150 10 = some (15, .bipush 93, 2, 0, 0, 93, [], []) := rfl
theorem k150_11 : az_cd 150 11 = some (17, .iload_n 2, 1, 0, 0, 0, [], []) := rfl
theorem k150_12 : az_cd 150 12 = some (18, .iadd, 1, 0, 0, 0, [], []) := rfl
theorem k150_13 : az_cd 150 13 = some (19, .iaload, 1, 0, 0, 0, [], []) := rfl
theorem k150_14 : az_cd 150 14 = some (20, .ifCond .lt 7, 3, 17, 0, 0, [], []) := rfl
theorem k150_15 : az_cd 150 15 = some (23, .iconst 1, 1, 0, 0, 1, [], []) := rfl
theorem k150_16 : az_cd 150 16 = some (24, .goto 4, 3, 18, 0, 0, [], []) := rfl
theorem k150_17 : az_cd 150 17 = some (27, .iconst 0, 1, 0, 0, 0, [], []) := rfl
theorem k150_18 : az_cd 150 18 = some (28, .iadd, 1, 0, 0, 0, [], []) := rfl
theorem k150_19 : az_cd 150 19 = some (29, .istore_n 1, 1, 0, 0, 0, [], []) := rfl
theorem k150_20 : az_cd 150 20 = some (30, .iinc 2 1, 3, 0, 0, 1, [], []) := rfl
theorem k150_21 : az_cd 150 21 = some (33, .goto (-29), 3, 4, 0, 0, [], []) := rfl
theorem k150_22 : az_cd 150 22 = some (36, .iload_n 1, 1, 0, 0, 0, [], []) := rfl
theorem k150_23 : az_cd 150 23 = some (37, .ireturn, 1, 0, 0, 0, [], []) := rfl
theorem k151_0 : az_cd 151 0 = some (0, .aload_n 0, 1, 0, 0, 0, [], []) := rfl
theorem k151_1 : az_cd 151 1 = some (1, .getfield 7, 3, 9, 0, 0, [], [751]) := rfl
theorem k151_2 : az_cd 151 2 = some (4, .bipush 101, 2, 0, 0, 101, [], []) := rfl
theorem k151_3 : az_cd 151 3 = some (6, .iaload, 1, 0, 0, 0, [], []) := rfl
theorem k151_4 : az_cd 151 4 = some (7, .iconst 1, 1, 0, 0, 1, [], []) := rfl
theorem k151_5 : az_cd 151 5 = some (8, .if_icmp .ne 20, 3, 16, 0, 0, [], []) := rfl
theorem k151_6 : az_cd 151 6 = some (11, .aload_n 0, 1, 0, 0, 0, [], []) := rfl
theorem k151_7 : az_cd 151 7 = some (12, .invokevirtual 88, 3, 150, 0, 0, [], [847, 849, 51, 850, 17]) := rfl
theorem k151_8 : az_cd 151 8 = some (15, .iconst 2, 1, 0, 0, 2, [], []) := rfl
theorem k151_9 : az_cd 151 9 = some (16, .iadd, 1, 0, 0, 0, [], []) := rfl
theorem k151_10 : az_cd 151 10 = some (17, .aload_n 0, 1, 0, 0, 0, [], []) := rfl
theorem k151_11 : az_cd 151 11 = some (18, .getfield 7, 3, 9, 0, 0, [], [751]) := rfl
theorem k151_12 : az_cd 151 12 = some (21, .bipush 102, 2, 0, 0, 102, [], []) := rfl
theorem k151_13 : az_cd 151 13 = some (23, .iaload, 1, 0, 0, 0, [], []) := rfl
theorem k151_14 : az_cd 151 14 = some (24, .isub, 1, 0, 0, 0, [], []) := rfl
theorem k151_15 : az_cd 151 15 = some (25, .goto 4, 3, 17, 0, 0, [], []) := rfl
theorem k151_16 : az_cd 151 16 = some (28, .iconst 0, 1, 0, 0, 0, [], []) := rfl
theorem k151_17 : az_cd 151 17 = some (29, .ireturn, 1, 0, 0, 0, [], []) := rfl
theorem k152_0 : az_cd 152 0 = some (0, .iload_n 1, 1, 0, 0, 0, [], []) := rfl
theorem k152_1 : az_cd 152 1 = some (1, .istore_n 2, 1, 0, 0, 0, [], []) := rfl
theorem k152_2 : az_cd 152 2 = some (2, .iconst 0, 1, 0, 0, 0, [], []) := rfl
theorem k152_3 : az_cd 152 3 = some (3, .istore_n 3, 1, 0, 0, 0, [], []) := rfl
theorem k152_4 : az_cd 152 4 = some (4, .iload_n 3, 1, 0, 0, 0, [], []) := rfl
theorem k152_5 : az_cd 152 5 = some (5, .bipush 8, 2, 0, 0, 8, [], []) := rfl
theorem k152_6 : az_cd 152 6 = some (7, .if_icmp .ge 30, 3, 21, 0, 0, [], []) := rfl
theorem k152_7 : az_cd 152 7 = some (10, .aload_n 0, 1, 0, 0, 0, [], []) := rfl
theorem k152_8 : az_cd 152 8 = some (11, .getfield 7, 3, 9, 0, 0, [], [751]) := rfl
theorem k152_9 : az_cd 152 9 = some (14, .bipush 93, 2, 0, 0, 93, [], []) := rfl
theorem k152_10 : az_cd 152 10 = some (16, .iload_n 3, 1, 0, 0, 0, [], []) := rfl
theorem k152_11 : az_cd 152 11 = some (17, .iadd, 1, 0, 0, 0, [], []) := rfl
theorem k152_12 : az_cd 152 12 = some (18, .iaload, 1, 0, 0, 0, [], []) := rfl
theorem k152_13 : az_cd 152 13 = some (19, .ifCond .lt 12, 3, 19, 0, 0, [], []) := rfl
theorem k152_14 : az_cd 152 14 = some (22, .iload_n 2, 1, 0, 0, 0, [], []) := rfl
theorem k152_15 : az_cd 152 15 = some (23, .ifCond .ne 5, 3, 18, 0, 0, [], []) := rfl
theorem k152_16 : az_cd 152 16 = some (26, .iload_n 3, 1, 0, 0, 0, [], []) := rfl
theorem k152_17 : az_cd 152 17 = some (27, .ireturn, 1, 0, 0, 0, [], []) := rfl
theorem k152_18 : az_cd 152 18 = some (28, .iinc 2 (-1), 3, 0, 0, (-1), [], []) := rfl
theorem k152_19 : az_cd 152 19 = some (31, .iinc 3 1, 3, 0, 0, 1, [], []) := rfl
theorem k152_20 : az_cd 152 20 = some (34, .goto (-30), 3, 4, 0, 0, [], []) := rfl
theorem k152_21 : az_cd 152 21 = some (37, .bipush (-5), 2, 0, 0, (-5), [], []) := rfl
theorem k152_22 : az_cd 152 22 = some (39, .ireturn, 1, 0, 0, 0, [], []) := rfl
theorem k153_0 : az_cd 153 0 = some (0, .aload_n 0, 1, 0, 0, 0, [], []) := rfl
theorem k153_1 : az_cd 153 1 = some (1, .getfield 7, 3, 9, 0, 0, [], [751]) := rfl
theorem k153_2 : az_cd 153 2 = some (4, .bipush 101, 2, 0, 0, 101, [], []) := rfl
theorem k153_3 : az_cd 153 3 = some (6, .iconst 0, 1, 0, 0, 0, [], []) := rfl
theorem k153_4 : az_cd 153 4 = some (7, .iastore, 1, 0, 0, 0, [], []) := rfl
theorem k153_5 : az_cd 153 5 = some (8, .aload_n 0, 1, 0, 0, 0, [], []) := rfl
theorem k153_6 : az_cd 153 6 = some (9, .getfield 7, 3, 9, 0, 0, [], [751]) := rfl
theorem k153_7 : az_cd 153 7 = some (12, .bipush 102, 2, 0, 0, 102, [], []) := rfl
theorem k153_8 : az_cd 153 8 = some (14, .iconst 0, 1, 0, 0, 0, [], []) := rfl
theorem k153_9 : az_cd 153 9 = some (15, .iastore, 1, 0, 0, 0, [], []) := rfl
theorem k153_10 : az_cd 153 10 = some (16, .iconst 0, 1, 0, 0, 0, [], []) := rfl
theorem k153_11 : az_cd 153 11 = some (17, .istore_n 1, 1, 0, 0, 0, [], []) := rfl
theorem k153_12 : az_cd 153 12 = some (18, .iload_n 1, 1, 0, 0, 0, [], []) := rfl
theorem k153_13 : az_cd 153 13 = some (19, .bipush 8, 2, 0, 0, 8, [], []) := rfl
theorem k153_14 : az_cd 153 14 = some (21, .if_icmp .ge 20, 3, 24, 0, 0, [], []) := rfl
theorem k153_15 : az_cd 153 15 = some (24, .aload_n 0, 1, 0, 0, 0, [], []) := rfl
theorem k153_16 : az_cd 153 16 = some (25, .getfield 7, 3, 9, 0, 0, [], [751]) := rfl
theorem k153_17 : az_cd 153 17 = some (28, .bipush 103, 2, 0, 0, 103, [], []) := rfl
theorem k153_18 : az_cd 153 18 = some (30, .iload_n 1, 1, 0, 0, 0, [], []) := rfl
theorem k153_19 : az_cd 153 19 = some (31, .iadd, 1, 0, 0, 0, [], []) := rfl
theorem k153_20 : az_cd 153 20 = some (32, .bipush (-5), 2, 0, 0, (-5), [], []) := rfl
theorem k153_21 : az_cd 153 21 = some (34, .iastore, 1, 0, 0, 0, [], []) := rfl
theorem k153_22 : az_cd 153 22 = some (35, .iinc 1 1, 3, 0, 0, 1, [], []) := rfl
theorem k153_23 : az_cd 153 23 = some (38, .goto (-20), 3, 12, 0, 0, [], []) := rfl
theorem k153_24 : az_cd 153 24 = some (41, .return_, 1, 0, 0, 0, [], []) := rfl
theorem k154_0 : az_cd 154 0 = some (0, .bipush 72, 2, 0, 0, 72, [], []) := rfl
theorem k154_1 : az_cd 154 1 = some (2, .bipush 10, 2, 0, 0, 10, [], []) := rfl
theorem k154_2 : az_cd 154 2 = some (4, .iconst 1, 1, 0, 0, 1, [], []) := rfl
theorem k154_3 : az_cd 154 3 = some (5, .aload_n 0, 1, 0, 0, 0, [], []) := rfl
theorem k154_4 : az_cd 154 4 = some (6, .getfield 7, 3, 9, 0, 0, [], [751]) := rfl
theorem k154_5 : az_cd 154 5 = some (9, .bipush 92, 2, 0, 0, 92, [], []) := rfl
theorem k154_6 : az_cd 154 6 = some (11, .iaload, 1, 0, 0, 0, [], []) := rfl
theorem k154_7 : az_cd 154 7 = some (12, .isub, 1, 0, 0, 0, [], []) := rfl
theorem k154_8 : az_cd 154 8 = some (13, .imul, 1, 0, 0, 0, [], []) := rfl
theorem k154_9 : az_cd 154 9 = some (14, .iadd, 1, 0, 0, 0, [], []) := rfl
theorem k154_10 : az_cd 154 10 = some (15, .istore_n 2, 1, 0, 0, 0, [], []) := rfl
theorem k154_11 : az_cd 154 11 = some (16, .aload_n 0, 1, 0, 0, 0, [], []) := rfl
theorem k154_12 : az_cd 154 12 = some (17, .getfield 7, 3, 9, 0, 0, [], [751]) := rfl
theorem k154_13 : az_cd 154 13 = some (20, .iload_n 2, 1, 0, 0, 0, [], []) := rfl
theorem k154_14 : az_cd 154 14 = some (21, .iconst 0, 1, 0, 0, 0, [], []) := rfl
theorem k154_15 : az_cd 154 15 = some (22, .iadd, 1, 0, 0, 0, [], []) := rfl
theorem k154_16 : az_cd 154 16 = some (23, .aload_n 0, 1, 0, 0, 0, [], []) := rfl
theorem k154_17 : az_cd 154 17 = some (24, .iconst 0, 1, 0, 0, 0, [], []) := rfl
theorem k154_18 : az_cd 154 18 = some (25, .invokevirtual 38, 3, 133, 1, 0, [], [875, 877, 51, 878, 23]) := rfl
theorem k154_19 : az_cd 154 19 = some (28, .iconst 1, 1, 0, 0, 1, [], []) := rfl
theorem k154_20 : az_cd 154 20 = some (29, .iadd, 1, 0, 0, 0, [], []) := rfl
theorem k154_21 : az_cd 154 21 = some (30, .iastore, 1, 0, 0, 0, [], []) := rfl
theorem k154_22 : az_cd 154 22 = some (31, .aload_n 0, 1, 0, 0, 0, [], []) := rfl
theorem k154_23 : az_cd 154 23 = some (32, .getfield 7, 3, 9, 0, 0, [], [751]) := rfl
theorem k154_24 : az_cd 154 24 = some (35, .iload_n 2, 1, 0, 0, 0, [], []) := rfl
theorem k154_25 : az_cd 154 25 = some (36, .iconst 1, 1, 0, 0, 1, [], []) := rfl
theorem k154_26 : az_cd 154 26 = some (37, .iadd, 1, 0, 0, 0, [], []) := rfl
theorem k154_27 : az_cd 154 27 = some (38, .iload_n 1, 1, 0, 0, 0, [], []) := rfl
theorem k154_28 : az_cd 154 28 = some (39, .iastore, 1, 0, 0, 0, [], []) := rfl
theorem k154_29 : az_cd 154 29 = some (40, .iconst 0, 1, 0, 0, 0, [], []) := rfl
theorem k154_30 : az_cd 154 30 = some (41, .istore_n 3, 1, 0, 0, 0, [], []) := rfl
theorem k154_31 : az_cd 154 31 = some (42, .iload_n 3, 1, 0, 0, 0, [], []) := rfl
theorem k154_32 : az_cd 154 32 = some (43, .bipush 8, 2, 0, 0, 8, [], []) := rfl
theorem k154_33 : az_cd 154 33 = some (45, .if_icmp .ge 66, 3, 70, 0, 0, [], []) := rfl
theorem k154_34 : az_cd 154 34 = some (48, .aload_n 0, 1, 0, 0, 0, [], []) := rfl
theorem k154_35 : az_cd 154 35 = some (49, .getfield 7, 3, 9, 0, 0, [], [751]) := rfl
theorem k154_36 : az_cd 154 36 = some (52, .bipush 93, 2, 0, 0, 93, [], []) := rfl
theorem k154_37 : az_cd 154 37 = some (54, .iload_n 3, 1, 0, 0, 0, [], []) := rfl
theorem k154_38 : az_cd 154 38 = some (55, .iadd, 1, 0, 0, 0, [], []) := rfl
theorem k154_39 : az_cd 154 39 = some (56, .iaload, 1, 0, 0, 0, [], []) := rfl
theorem k154_40 : az_cd 154 40 = some (57, .istore 4, 2, 0, 0, 0, [], []) := rfl
theorem k154_41 : az_cd 154 41 = some (59, .aload_n 0, 1, 0, 0, 0, [], []) := rfl
theorem k154_42 : az_cd 154 42 = some (60, .getfield 7, 3, 9, 0, 0, [], [751]) := rfl
theorem k154_43 : az_cd 154 43 = some (63, .iload_n 2, 1, 0, 0, 0, [], []) := rfl
theorem k154_44 : az_cd 154 44 = some (64, .iconst 2, 1, 0, 0, 2, [], []) := rfl
theorem k154_45 : az_cd 154 45 = some (65, .iadd, 1, 0, 0, 0, [], []) := rfl
theorem k154_46 : az_cd 154 46 = some (66, .iload_n 3, 1, 0, 0, 0, [], []) := rfl
theorem k154_47 : az_cd 154 47 = some (67, .iadd, 1, 0, 0, 0, [], []) := rfl
theorem k154_48 : az_cd 154 48 = some (68, .iload 4, 2, 0, 0, 0, [], []) := rfl
theorem k154_49 : az_cd 154 49 = some (70, .ifCond .lt 15, 3, 57, 0, 0, [], []) := rfl
theorem k154_50 : az_cd 154 50 = some (73, .aload_n 0, 1, 0, 0, 0, [], []) := rfl
theorem k154_51 : az_cd 154 51 = some (74, .getfield 7, 3, 9, 0, 0, [], [751]) := rfl
theorem k154_52 : az_cd 154 52 = some (77, .bipush 103, 2, 0, 0, 103, [], []) := rfl
theorem k154_53 : az_cd 154 53 = some (79, .iload_n 3, 1, 0, 0, 0, [], []) := rfl
theorem k154_54 : az_cd 154 54 = some (80, .iadd, 1, 0, 0, 0, [], []) := rfl
theorem k154_55 : az_cd 154 55 = some (81, .iaload, 1, 0, 0, 0, [], []) := rfl
theorem k154_56 : az_cd 154 56 = some (82, .goto 22, 3, 67, 0, 0, [], []) := rfl
theorem k154_57 : az_cd 154 57 = some (85, .iload 4, 2, 0, 0, 0, [], []) := rfl
theorem k154_58 : az_cd 154 58 = some (87, .bipush (-6), 2, 0, 0, (-6), [], []) := rfl
theorem k154_59 : az_cd 154 59 = some (89, .if_icmp .ne 8, 3, 62, 0, 0, [], []) := rfl
theorem k154_60 : az_cd 154 60 = some (92, .bipush (-5), 2, 0, 0, (-5), [], []) := rfl
theorem k154_61 : az_cd 154 61 = some (94, .goto 10, 3, 67, 0, 0, [], []) := rfl
theorem k154_62 : az_cd 154 62 = some (97, .aload_n 0, 1, 0, 0, 0, [], []) := rfl
theorem k154_63 : az_cd 154 63 = some (98, .iconst 2, 1, 0, 0, 2, [], []) := rfl
theorem k154_64 : az_cd 154 64 = some (99, .iload_n 3, 1, 0, 0, 0, [], []) := rfl
theorem k154_65 : az_cd 154 65 = some (100, .iadd, 1, 0, 0, 0, [], []) := rfl
theorem k154_66 : az_cd 154 66 = some (101, .invokevirtual 38, 3, 133, 1, 0, [], [875, 877, 51, 878, 23]) := rfl
theorem k154_67 : az_cd 154 67 = some (104, .iastore, 1, 0, 0, 0, [], []) := rfl
theorem k154_68 : az_cd 154 68 = some (105, .iinc 3 1, 3, 0, 0, 1, [], []) := rfl
theorem k154_69 : az_cd 154 69 = some (108, .goto (-66), 3, 31, 0, 0, [], []) := rfl
theorem k154_70 : az_cd 154 70 = some (111, .return_, 1, 0, 0, 0, [], []) := rfl
theorem k155_0 : az_cd 155 0 = some (0, .aload_n 0, 1, 0, 0, 0, [], []) := rfl
theorem k155_1 : az_cd 155 1 = some (1, .aload_n 0, 1, 0, 0, 0, [], []) := rfl
theorem k155_2 : az_cd 155 2 = some (2, .getfield 7, 3, 9, 0, 0, [], [751]) := rfl
theorem k155_3 : az_cd 155 3 = some (5, .bipush 102, 2, 0, 0, 102, [], []) := rfl
theorem k155_4 : az_cd 155 4 = some (7, .iaload, 1, 0, 0, 0, [], []) := rfl
theorem k155_5 : az_cd 155 5 = some (8, .invokevirtual 91, 3, 152, 1, 0, [], [859, 861, 51, 862, 19]) := rfl
theorem k155_6 : az_cd 155 6 = some (11, .bipush (-5), 2, 0, 0, (-5), [], []) := rfl
theorem k155_7 : az_cd 155 7 = some (13, .if_icmp .eq 12, 3, 12, 0, 0, [], []) := rfl
theorem k155_8 : az_cd 155 8 = some (16, .aload_n 0, 1, 0, 0, 0, [], []) := rfl
theorem k155_9 : az_cd 155 9 = some (17, .invokevirtual 94, 3, 141, 0, 0, [], [863, 865, 51, 866, 20]) := rfl
theorem k155_10 : az_cd 155 10 = some (20, .bipush (-5), 2, 0, 0, (-5), [], []) := rfl
theorem k155_11 : az_cd 155 11 = some (22, .if_icmp .eq 7, 3, 14, 0, 0, [], []) := rfl
theorem k155_12 : az_cd 155 12 = some (25, .iconst 1, 1, 0, 0, 1, [], []) := rfl
theorem k155_13 : az_cd 155 13 = some (26, .goto 4, 3, 15, 0, 0, [], []) := rfl
theorem k155_14 : az_cd 155 14 = some (29, .iconst 0, 1, 0, 0, 0, [], []) := rfl
theorem k155_15 : az_cd 155 15 = some (30, .ireturn, 1, 0, 0, 0, [], []) := rfl
theorem k156_0 : az_cd 156 0 = some (0, .aload_n 0, 1, 0, 0, 0, [], []) := rfl
theorem k156_1 : az_cd 156 1 = some (1, .aload_n 0, 1, 0, 0, 0, [], []) := rfl
theorem k156_2 : az_cd 156 2 = some (2, .getfield 7, 3, 9, 0, 0, [], [751]) := rfl
theorem k156_3 : az_cd 156 3 = some (5, .bipush 102, 2, 0, 0, 102, [], []) := rfl
theorem k156_4 : az_cd 156 4 = some (7, .iaload, 1, 0, 0, 0, [], []) := rfl
theorem k156_5 : az_cd 156 5 = some (8, .invokevirtual 91, 3, 152, 1, 0, [], [859, 861, 51, 862, 19]) := rfl
theorem k156_6 : az_cd 156 6 = some (11, .istore_n 1, 1, 0, 0, 0, [], []) := rfl
theorem k156_7 : az_cd 156 7 = some (12, .iload_n 1, 1, 0, 0, 0, [], []) := rfl
theorem k156_8 : az_cd 156 8 = some (13, .bipush (-5), 2, 0, 0, (-5), [], []) := rfl
theorem k156_9 : az_cd 156 9 = some (15, .if_icmp .eq 47, 3, 39, 0, 0, [], []) := rfl
theorem k156_10 : az_cd 156 10 = some (18, .aload_n 0, 1, 0, 0, 0, [], []) := rfl
theorem k156_11 : az_cd 156 11 = some (19, .invokevirtual 94, 3, 141, 0, 0, [], [863, 865, 51, 866, 20]) := rfl
theorem k156_12 : az_cd 156 12 = some (22, .istore_n 2, 1, 0, 0, 0, [], []) := rfl
theorem k156_13 : az_cd 156 13 = some (23, .aload_n 0, 1, 0, 0, 0, [], []) := rfl
theorem k156_14 : az_cd 156 14 = some (24, .iload_n 2, 1, 0, 0, 0, [], []) := rfl
theorem k156_15 : az_cd 156 15 = some (25, .aload_n 0, 1, 0, 0, 0, [], []) := rfl
theorem k156_16 : az_cd 156 16 = some (26, .getfield 7, 3, 9, 0, 0, [], [751]) := rfl
theorem k156_17 : az_cd 156 17 = some (29, .bipush 93, 2, 0, 0, 93, [], []) := rfl
theorem k156_18 : az_cd 156 18 = some (31, .iload_n 1, 1, 0, 0, 0, [], []) := rfl
theorem k156_19 : az_cd 156 19 = some (32, .iadd, 1, 0, 0, 0, [], []) := rfl
theorem k156_20 : az_cd 156 20 = some (33, .iaload, 1, 0, 0, 0, [], []) := rfl
theorem k156_21 : az_cd 156 21 = some (34, .iconst 0, 1, 0, 0, 0, [], []) := rfl
theorem k156_22 : az_cd 156 22 = some (35, .invokevirtual 97, 3, 142, 3, 0, [], [899, 901, 51, 902, 29]) := rfl
theorem k156_23 : az_cd 156 23 = some (38, .aload_n 0, 1, 0, 0, 0, [], []) := rfl
theorem k156_24 : az_cd 156 24 = some (39, .getfield 7, 3, 9, 0, 0, [], [751]) := rfl
theorem k156_25 : az_cd 156 25 = some (42, .bipush 103, 2, 0, 0, 103, [], []) := rfl
theorem k156_26 : az_cd 156 26 = some (44, .iload_n 1, 1, 0, 0, 0, [], []) := rfl
theorem k156_27 : az_cd 156 27 = some (45, .iadd, 1, 0, 0, 0, [], []) := rfl
theorem k156_28 : az_cd 156 28 = some (46, .iload_n 2, 1, 0, 0, 0, [], []) := rfl
theorem k156_29 : az_cd 156 29 = some (47, .iastore, 1, 0, 0, 0, [], []) := rfl
theorem k156_30 : az_cd 156 30 = some (48, .aload_n 0, 1, 0, 0, 0, [], []) := rfl
theorem k156_31 : az_cd 156 31 = some (49, .getfield 7, 3, 9, 0, 0, [], [751]) := rfl
theorem k156_32 : az_cd 156 32 = some (52, .bipush 102, 2, 0, 0, 102, [], []) := rfl
theorem k156_33 : az_cd 156 33 = some (54, .dup2, 1, 0, 0, 0, [], []) := rfl
theorem k156_34 : az_cd 156 34 = some (55, .iaload, 1, 0, 0, 0, [], []) := rfl
theorem k156_35 : az_cd 156 35 = some (56, .iconst 1, 1, 0, 0, 1, [], []) := rfl
theorem k156_36 : az_cd 156 36 = some (57, .iadd, 1, 0, 0, 0, [], []) := rfl
theorem k156_37 : az_cd 156 37 = some (58, .iastore, 1, 0, 0, 0, [], []) := rfl
theorem k156_38 : az_cd 156 38 = some (59, .goto 72, 3, 80, 0, 0, [], []) := rfl
theorem k156_39 : az_cd 156 39 = some (62, .aload_n 0, 1, 0, 0, 0, [], []) := rfl
theorem k156_40 : az_cd 156 40 = some (63, .getfield 7, 3, 9, 0, 0, [], [751]) := rfl
theorem k156_41 : az_cd 156 41 = some (66, .bipush 102, 2, 0, 0, 102, [], []) := rfl
theorem k156_42 : az_cd 156 42 = some (68, .iaload, 1, 0, 0, 0, [], []) := rfl
theorem k156_43 : az_cd 156 43 = some (69, .aload_n 0, 1, 0, 0, 0, [], []) := rfl
theorem k156_44 : az_cd 156 44 = some (70, .invokevirtual 88, 3, 150, 0, 0, [], [847, 849, 51, 850, 17]) := rfl
theorem k156_45 : az_cd 156 45 = some (73, .if_icmp .ne 22, 3, 58, 0, 0, [], []) := rfl
theorem k156_46 : az_cd 156 46 = some (76, .aload_n 0, 1, 0, 0, 0, [], []) := rfl
theorem k156_47 : az_cd 156 47 = some (77, .iconst 0, 1, 0, 0, 0, [], []) := rfl
theorem k156_48 : az_cd 156 48 = some (78, .invokevirtual 101, 3, 154, 1, 0, [], [906, 908, 51, 909, 30]) := rfl
theorem k156_49 : az_cd 156 49 = some (81, .aload_n 0, 1, 0, 0, 0, [], []) := rfl
theorem k156_50 : az_cd 156 50 = some (82, .getfield 7, 3, 9, 0, 0, [], [751]) := rfl
theorem k156_51 : az_cd 156 51 = some (85, .bipush 102, 2, 0, 0, 102, [], []) := rfl
theorem k156_52 : az_cd 156 52 = some (87, .dup2, 1, 0, 0, 0, [], []) := rfl
theorem k156_53 : az_cd 156 53 = some (88, .iaload, 1, 0, 0, 0, [], []) := rfl
theorem k156_54 : az_cd 156 54 = some (89, .iconst 1, 1, 0, 0, 1, [], []) := rfl
theorem k156_55 : az_cd 156 55 = some (90, .iadd, 1, 0, 0, 0, [], []) := rfl
theorem k156_56 : az_cd 156 56 = some (91, .iastore, 1, 0, 0, 0, [], []) := rfl
theorem k156_57 : az_cd 156 57 = some (92, .goto 39, 3, 80, 0, 0, [], []) := rfl
theorem k156_58 : az_cd 156 58 = some (95, .aload_n 0, 1, 0, 0, 0, [], []) := rfl
theorem k156_59 : az_cd 156 59 = some (96, .getfield 7, 3, 9, 0, 0, [], [751]) := rfl
theorem k156_60 : az_cd 156 60 = some (99, .bipush 92, 2, 0, 0, 92, [], []) := rfl
theorem k156_61 : az_cd 156 61 = some (101, .iconst 1, 1, 0, 0, 1, [], []) := rfl
theorem k156_62 : az_cd 156 62 = some (102, .aload_n 0, 1, 0, 0, 0, [], []) := rfl
theorem k156_63 : az_cd 156 63 = some (103, .getfield 7, 3, 9, 0, 0, [], [751]) := rfl
theorem k156_64 : az_cd 156 64 = some (106, .bipush 92, 2, 0, 0, 92, [], []) := rfl
theorem k156_65 : az_cd 156 65 = some (108, .iaload, 1, 0, 0, 0, [], []) := rfl
theorem k156_66 : az_cd 156 66 = some (109, .isub, 1, 0, 0, 0, [], []) := rfl
theorem k156_67 : az_cd 156 67 = some (110, .iastore, 1, 0, 0, 0, [], []) := rfl
theorem k156_68 : az_cd 156 68 = some (111, .aload_n 0, 1, 0, 0, 0, [], []) := rfl
theorem k156_69 : az_cd 156 69 = some (112, .getfield 7, 3, 9, 0, 0, [], [751]) := rfl
theorem k156_70 : az_cd 156 70 = some (115, .sipush 152, 3, 0, 0, 152, [], []) := rfl
theorem k156_71 : az_cd 156 71 = some (118, .dup2, 1, 0, 0, 0, [], []) := rfl
theorem k156_72 : az_cd 156 72 = some (119, .iaload, 1, 0, 0, 0, [], []) := rfl
theorem k156_73 : az_cd 156 73 = some (120, .iconst 1, 1, 0, 0, 1, [], []) := rfl
theorem k156_74 : az_cd 156 74 = some (121, .iadd, 1, 0, 0, 0, [], []) := rfl
theorem k156_75 : az_cd 156 75 = some (122, .iastore, 1, 0, 0, 0, [], []) := rfl
theorem k156_76 : az_cd 156 76 = some (123, .aload_n 0, 1, 0, 0, 0, [], []) := rfl
theorem k156_77 : az_cd 156 77 = some (124, .invokevirtual 85, 3, 144, 0, 0, [], [835, 837, 51, 838, 15]) := rfl
theorem k156_78 : az_cd 156 78 = some (127, .aload_n 0, 1, 0, 0, 0, [], []) := rfl
theorem k156_79 : az_cd 156 79 = some (128, .invokevirtual 105, 3, 153, 0, 0, [], [910, 912, 51, 913, 31]) := rfl
theorem k156_80 : az_cd 156 80 = some (131, .return_, 1, 0, 0, 0, [], []) := rfl
theorem k157_0 : az_cd 157 0 = some (0, .aload_n 0, 1, 0, 0, 0, [], []) := rfl
theorem k157_1 : az_cd 157 1 = some (1, .getfield 7, 3, 9, 0, 0, [], [751]) := rfl
theorem k157_2 : az_cd 157 2 = some (4, .bipush 101, 2, 0, 0, 101, [], []) := rfl
theorem k157_3 : az_cd 157 3 = some (6, .iaload, 1, 0, 0, 0, [], []) := rfl
theorem k157_4 : az_cd 157 4 = some (7, .iconst 1, 1, 0, 0, 1, [], []) := rfl
theorem k157_5 : az_cd 157 5 = some (8, .if_icmp .ne 6, 3, 8, 0, 0, [], []) := rfl
theorem k157_6 : az_cd 157 6 = some (11, .bipush (-4), 2, 0, 0, (-4), [], []) := rfl
theorem k157_7 : az_cd 157 7 = some (13, .ireturn, 1, 0, 0, 0, [], []) := rfl
theorem k157_8 : az_cd 157 8 = some (14, .aload_n 0, 1, 0, 0, 0, [], []) := rfl
theorem k157_9 : az_cd 157 9 = some (15, .invokevirtual 68, 3, 143, 0, 0, [], [803, 805, 51, 806, 10]) := rfl
theorem k157_10 : az_cd 157 10 = some (18, .ifCond .ne 6, 3, 13, 0, 0, [], []) := rfl
theorem k157_11 : az_cd 157 11 = some (21, .bipush (-5), 2, 0, 0, (-5), [], []) := rfl
theorem k157_12 : az_cd 157 12 = some (23, .ireturn, 1, 0, 0, 0, [], []) := rfl
theorem k157_13 : az_cd 157 13 = some (24, .aload_n 0, 1, 0, 0, 0, [], []) := rfl
theorem k157_14 : az_cd 157 14 = some (25, .invokevirtual 65, 3, 131, 0, 0, [], [796, 798, 51, 799, 9]) := rfl
theorem k157_15 : az_cd 157 15 = some (28, .aload_n 0, 1, 0, 0, 0, [], []) := rfl
theorem k157_16 : az_cd 157 16 = some (29, .getfield 7, 3, 9, 0, 0, [], [751]) := rfl
theorem k157_17 : az_cd 157 17 = some (32, .bipush 101, 2, 0, 0, 101, [], []) := rfl
theorem k157_18 : az_cd 157 18 = some (34, .iconst 1, 1, 0, 0, 1, [], []) := rfl
theorem k157_19 : az_cd 157 19 = some (35, .iastore, 1, 0, 0, 0, [], []) := rfl
theorem k157_20 : az_cd 157 20 = some (36, .aload_n 0, 1, 0, 0, 0, [], []) := rfl
theorem k157_21 : az_cd 157 21 = some (37, .invokevirtual 108, 3, 151, 0, 0, [], [843, 845, 51, 846, 16]) := rfl
theorem k157_22 : az_cd 157 22 = some (40, .ireturn, 1, 0, 0, 0, [], []) := rfl
theorem k158_0 : az_cd 158 0 = some (0, .aload_n 0, 1, 0, 0, 0, [], []) := rfl
theorem k158_1 : az_cd 158 1 = some (1, .getfield 7, 3, 9, 0, 0, [], [751]) := rfl
theorem k158_2 : az_cd 158 2 = some (4, .bipush 101, 2, 0, 0, 101, [], []) := rfl
theorem k158_3 : az_cd 158 3 = some (6, .iaload, 1, 0, 0, 0, [], []) := rfl
theorem k158_4 : az_cd 158 4 = some (7, .ifCond .ne 6, 3, 7, 0, 0, [], []) := rfl
theorem k158_5 : az_cd 158 5 = some (10, .bipush (-5), 2, 0, 0, (-5), [], []) := rfl
theorem k158_6 : az_cd 158 6 = some (12, .ireturn, 1, 0, 0, 0, [], []) := rfl
theorem k158_7 : az_cd 158 7 = some (13, .aload_n 0, 1, 0, 0, 0, [], []) := rfl
theorem k158_8 : az_cd 158 8 = some (14, .invokevirtual 111, 3, 155, 0, 0, [], [855, 857, 51, 858, 18]) := rfl
theorem k158_9 : az_cd 158 9 = some (17, .ifCond .ne 6, 3, 12, 0, 0, [], []) := rfl
theorem k158_10 : az_cd 158 10 = some (20, .bipush (-3), 2, 0, 0, (-3), [], []) := rfl
theorem k158_11 : az_cd 158 11 = some (22, .ireturn, 1, 0, 0, 0, [], []) := rfl
theorem k158_12 : az_cd 158 12 = some (23, .aload_n 0, 1, 0, 0, 0, [], []) := rfl
theorem k158_13 : az_cd 158 13 = some (24, .invokevirtual 65, 3, 131, 0, 0, [], [796, 798, 51, 799, 9]) := rfl
theorem k158_14 : az_cd 158 14 = some (27, .aload_n 0, 1, 0, 0, 0, [], []) := rfl
theorem k158_15 : az_cd 158 15 = some (28, .invokevirtual 115, 3, 156, 0, 0, [], [895, 897, 51, 898, 28]) := rfl
theorem k158_16 : az_cd 158 16 = some (31, .aload_n 0, 1, 0, 0, 0, [], []) := rfl
theorem k158_17 : az_cd 158 17 = some (32, .invokevirtual 108, 3, 151, 0, 0, [], [843, 845, 51, 846, 16]) := rfl
theorem k158_18 : az_cd 158 18 = some (35, .ireturn, 1, 0, 0, 0, [], []) := rfl
theorem k159_0 : az_cd 159 0 = some (0, .aload_n 0, 1, 0, 0, 0, [], []) := rfl
theorem k159_1 : az_cd 159 1 = some (1, .getfield 7, 3, 9, 0, 0, [], [751]) := rfl
theorem k159_2 : az_cd 159 2 = some (4, .bipush 101, 2, 0, 0, 101, [], []) := rfl
theorem k159_3 : az_cd 159 3 = some (6, .iaload, 1, 0, 0, 0, [], []) := rfl
theorem k159_4 : az_cd 159 4 = some (7, .ifCond .ne 6, 3, 7, 0, 0, [], []) := rfl
theorem k159_5 : az_cd 159 5 = some (10, .bipush (-5), 2, 0, 0, (-5), [], []) := rfl
theorem k159_6 : az_cd 159 6 = some (12, .ireturn, 1, 0, 0, 0, [], []) := rfl
theorem k159_7 : az_cd 159 7 = some (13, .aload_n 0, 1, 0, 0, 0, [], []) := rfl
theorem k159_8 : az_cd 159 8 = some (14, .invokevirtual 111, 3, 155, 0, 0, [], [855, 857, 51, 858, 18]) := rfl
theorem k159_9 : az_cd 159 9 = some (17, .ifCond .ne 6, 3, 12, 0, 0, [], []) := rfl
theorem k159_10 : az_cd 159 10 = some (20, .bipush (-3), 2, 0, 0, (-3), [], []) := rfl
theorem k159_11 : az_cd 159 11 = some (22, .ireturn, 1, 0, 0, 0, [], []) := rfl
theorem k159_12 : az_cd 159 12 = some (23, .aload_n 0, 1, 0, 0, 0, [], []) := rfl
theorem k159_13 : az_cd 159 13 = some (24, .invokevirtual 65, 3, 131, 0, 0, [], [796, 798, 51, 799, 9]) := rfl
theorem k159_14 : az_cd 159 14 = some (27, .aload_n 0, 1, 0, 0, 0, [], []) := rfl
theorem k159_15 : az_cd 159 15 = some (28, .getfield 7, 3, 9, 0, 0, [], [751]) := rfl
theorem k159_16 : az_cd 159 16 = some (31, .bipush 101, 2, 0, 0, 101, [], []) := rfl
theorem k159_17 : az_cd 159 17 = some (33, .iaload, 1, 0, 0, 0, [], []) := rfl
theorem k159_18 : az_cd 159 18 = some (34, .iconst 1, 1, 0, 0, 1, [], []) := rfl
theorem k159_19 : az_cd 159 19 = some (35, .if_icmp .ne 17, 3, 26, 0, 0, [], []) := rfl
theorem k159_20 : az_cd 159 20 = some (38, .aload_n 0, 1, 0, 0, 0, [], []) := rfl
theorem k159_21 : az_cd 159 21 = some (39, .invokevirtual 111, 3, 155, 0, 0, [], [855, 857, 51, 858, 18]) := rfl
theorem k159_22 : az_cd 159 22 = some (42, .ifCond .eq 10, 3, 26, 0, 0, [], []) := rfl
theorem k159_23 : az_cd 159 23 = some (45, .aload_n 0, 1, 0, 0, 0, [], []) := rfl
theorem k159_24 : az_cd 159 24 = some (46, .invokevirtual 115, 3, 156, 0, 0, [], [895, 897, 51, 898, 28]) := rfl
theorem k159_25 : az_cd 159 25 = some (49, .goto (-22), 3, 14, 0, 0, [], []) := rfl
theorem k159_26 : az_cd 159 26 = some (52, .aload_n 0, 1, 0, 0, 0, [], []) := rfl
theorem k159_27 : az_cd 159 27 = some (53, .invokevirtual 108, 3, 151, 0, 0, [], [843, 845, 51, 846, 16]) := rfl
theorem k159_28 : az_cd 159 28 = some (56, .ireturn, 1, 0, 0, 0, [], []) := rfl
theorem k160_0 : az_cd 160 0 = some (0, .aload_n 0, 1, 0, 0, 0, [], []) := rfl
theorem k160_1 : az_cd 160 1 = some (1, .getfield 7, 3, 9, 0, 0, [], [751]) := rfl
theorem k160_2 : az_cd 160 2 = some (4, .bipush 101, 2, 0, 0, 101, [], []) := rfl
theorem k160_3 : az_cd 160 3 = some (6, .iaload, 1, 0, 0, 0, [], []) := rfl
theorem k160_4 : az_cd 160 4 = some (7, .ifCond .ne 6, 3, 7, 0, 0, [], []) := rfl
theorem k160_5 : az_cd 160 5 = some (10, .bipush (-5), 2, 0, 0, (-5), [], []) := rfl
theorem k160_6 : az_cd 160 6 = some (12, .ireturn, 1, 0, 0, 0, [], []) := rfl
theorem k160_7 : az_cd 160 7 = some (13, .aload_n 0, 1, 0, 0, 0, [], []) := rfl
theorem k160_8 : az_cd 160 8 = some (14, .invokevirtual 65, 3, 131, 0, 0, [], [796, 798, 51, 799, 9]) := rfl
theorem k160_9 : az_cd 160 9 = some (17, .aload_n 0, 1, 0, 0, 0, [], []) := rfl
theorem k160_10 : az_cd 160 10 = some (18, .getfield 7, 3, 9, 0, 0, [], [751]) := rfl
theorem k160_11 : az_cd 160 11 = some (21, .bipush 102, 2, 0, 0, 102, [], []) := rfl
theorem k160_12 : az_cd 160 12 = some (23, .iaload, 1, 0, 0, 0, [], []) := rfl
theorem k160_13 : az_cd 160 13 = some (24, .istore_n 1, 1, 0, 0, 0, [], []) := rfl
theorem k160_14 : az_cd 160 14 = some (25, .aload_n 0, 1, 0, 0, 0, [], []) := rfl
theorem k160_15 : az_cd 160 15 = some (26, .invokevirtual 105, 3, 153, 0, 0, [], [910, 912, 51, 913, 31]) := rfl
theorem k160_16 : az_cd 160 16 = some (29, .iload_n 1, 1, 0, 0, 0, [], []) := rfl
theorem k160_17 : az_cd 160 17 = some (30, .ireturn, 1, 0, 0, 0, [], []) := rfl
theorem k161_0 : az_cd 161 0 = some (0, .aload_n 0, 1, 0, 0, 0, [], []) := rfl
theorem k161_1 : az_cd 161 1 = some (1, .aload_n 0, 1, 0, 0, 0, [], []) := rfl
theorem k161_2 : az_cd 161 2 = some (2, .getfield 7, 3, 9, 0, 0, [], [751]) := rfl
theorem k161_3 : az_cd 161 3 = some (5, .bipush 102, 2, 0, 0, 102, [], []) := rfl
theorem k161_4 : az_cd 161 4 = some (7, .iaload, 1, 0, 0, 0, [], []) := rfl
theorem k161_5 : az_cd 161 5 = some (8, .invokevirtual 91, 3, 152, 1, 0, [], [859, 861, 51, 862, 19]) := rfl
theorem k161_6 : az_cd 161 6 = some (11, .istore_n 1, 1, 0, 0, 0, [], []) := rfl
theorem k161_7 : az_cd 161 7 = some (12, .iload_n 1, 1, 0, 0, 0, [], []) := rfl
theorem k161_8 : az_cd 161 8 = some (13, .bipush (-5), 2, 0, 0, (-5), [], []) := rfl
theorem k161_9 : az_cd 161 9 = some (15, .if_icmp .ne 8, 3, 12, 0, 0, [], []) := rfl
theorem k161_10 : az_cd 161 10 = some (18, .bipush (-5), 2, 0, 0, (-5), [], []) := rfl
theorem k161_11 : az_cd 161 11 = some (20, .goto 7, 3, 14, 0, 0, [], []) := rfl
theorem k161_12 : az_cd 161 12 = some (23, .aload_n 0, 1, 0, 0, 0, [], []) := rfl
theorem k161_13 : az_cd 161 13 = some (24, .invokevirtual 94, 3, 141, 0, 0, [], [863, 865, 51, 866, 20]) := rfl
theorem k161_14 : az_cd 161 14 = some (27, .istore_n 2, 1, 0, 0, 0, [], []) := rfl
theorem k161_15 : az_cd 161 15 = some (28, .iload_n 2, 1, 0, 0, 0, [], []) := rfl
theorem k161_16 : az_cd 161 16 = some (29, .bipush (-5), 2, 0, 0, (-5), [], []) := rfl
theorem k161_17 : az_cd 161 17 = some (31, .if_icmp .eq 21, 3, 29, 0, 0, [], []) := rfl
theorem k161_18 : az_cd 161 18 = some (34, .aload_n 0, 1, 0, 0, 0, [], []) := rfl
theorem k161_19 : az_cd 161 19 = some (35, .iload_n 2, 1, 0, 0, 0, [], []) := rfl
theorem k161_20 : az_cd 161 20 = some (36, .aload_n 0, 1, 0, 0, 0, [], []) := rfl
theorem k161_21 : az_cd 161 21 = some (37, .getfield 7, 3, 9, 0, 0, [], [751]) := rfl
theorem k161_22 : az_cd 161 22 = some (40, .bipush 93, 2, 0, 0, 93, [], []) := rfl
theorem k161_23 : az_cd 161 23 = some (42, .iload_n 1, 1, 0, 0, 0, [], []) := rfl
theorem k161_24 : az_cd 161 24 = some (43, .iadd, 1, 0, 0, 0, [], []) := rfl
theorem k161_25 : az_cd 161 25 = some (44, .iaload, 1, 0, 0, 0, [], []) := rfl
theorem k161_26 : az_cd 161 26 = some (45, .iconst 1, 1, 0, 0, 1, [], []) := rfl
theorem k161_27 : az_cd 161 27 = some (46, .invokevirtual 97, 3, 142, 3, 0, [], [899, 901, 51, 902, 29]) := rfl
theorem k161_28 : az_cd 161 28 = some (49, .goto 28, 3, 42, 0, 0, [], []) := rfl
theorem k161_29 : az_cd 161 29 = some (52, .iload_n 1, 1, 0, 0, 0, [], []) := rfl
theorem k161_30 : az_cd 161 30 = some (53, .bipush (-5), 2, 0, 0, (-5), [], []) := rfl
theorem k161_31 : az_cd 161 31 = some (55, .if_icmp .ne 22, 3, 42, 0, 0, [], []) := rfl
theorem k161_32 : az_cd 161 32 = some (58, .aload_n 0, 1, 0, 0, 0, [], []) := rfl
theorem k161_33 : az_cd 161 33 = some (59, .getfield 7, 3, 9, 0, 0, [], [751]) := rfl
theorem k161_34 : az_cd 161 34 = some (62, .bipush 102, 2, 0, 0, 102, [], []) := rfl
theorem k161_35 : az_cd 161 35 = some (64, .iaload, 1, 0, 0, 0, [], []) := rfl
theorem k161_36 : az_cd 161 36 = some (65, .aload_n 0, 1, 0, 0, 0, [], []) := rfl
theorem k161_37 : az_cd 161 37 = some (66, .invokevirtual 88, 3, 150, 0, 0, [], [847, 849, 51, 850, 17]) := rfl
theorem k161_38 : az_cd 161 38 = some (69, .if_icmp .ne 8, 3, 42, 0, 0, [], []) := rfl
theorem k161_39 : az_cd 161 39 = some (72, .aload_n 0, 1, 0, 0, 0, [], []) := rfl
theorem k161_40 : az_cd 161 40 = some (73, .iconst 1, 1, 0, 0, 1, [], []) := rfl
theorem k161_41 : az_cd 161 41 = some (74, .invokevirtual 101, 3, 154, 1, 0, [], [906, 908, 51, 909, 30]) := rfl
theorem k161_42 : az_cd 161 42 = some (77, .return_, 1, 0, 0, 0, [], []) := rfl
theorem k162_0 : az_cd 162 0 = some (0, .aload_n 0, 1, 0, 0, 0, [], []) := rfl
theorem k162_1 : az_cd 162 1 = some (1, .invokevirtual 65, 3, 131, 0, 0, [], [796, 798, 51, 799, 9]) := rfl
theorem k162_2 : az_cd 162 2 = some (4, .iload_n 1, 1, 0, 0, 0, [], []) := rfl
theorem k162_3 : az_cd 162 3 = some (5, .ifCond .eq 18, 3, 12, 0, 0, [], []) := rfl
theorem k162_4 : az_cd 162 4 = some (8, .aload_n 0, 1, 0, 0, 0, [], []) := rfl
theorem k162_5 : az_cd 162 5 = some (9, .getfield 7, 3, 9, 0, 0, [], [751]) := rfl
theorem k162_6 : az_cd 162 6 = some (12, .bipush 101, 2, 0, 0, 101, [], []) := rfl
theorem k162_7 : az_cd 162 7 = some (14, .iaload, 1, 0, 0, 0, [], []) := rfl
theorem k162_8 : az_cd 162 8 = some (15, .iconst 1, 1, 0, 0, 1, [], []) := rfl
theorem k162_9 : az_cd 162 9 = some (16, .if_icmp .ne 7, 3, 12, 0, 0, [], []) := rfl
theorem k162_10 : az_cd 162 10 = some (19, .aload_n 0, 1, 0, 0, 0, [], []) := rfl
theorem k162_11 : az_cd 162 11 = some (20, .invokevirtual 118, 3, 161, 0, 0, [], [926, 928, 51, 929, 32]) := rfl
theorem k162_12 : az_cd 162 12 = some (23, .aload_n 0, 1, 0, 0, 0, [], []) := rfl
theorem k162_13 : az_cd 162 13 = some (24, .invokevirtual 85, 3, 144, 0, 0, [], [835, 837, 51, 838, 15]) := rfl
theorem k162_14 : az_cd 162 14 = some (27, .aload_n 0, 1, 0, 0, 0, [], []) := rfl
theorem k162_15 : az_cd 162 15 = some (28, .invokevirtual 105, 3, 153, 0, 0, [], [910, 912, 51, 913, 31]) := rfl
theorem k162_16 : az_cd 162 16 = some (31, .bipush 111, 2, 0, 0, 111, [], []) := rfl
theorem k162_17 : az_cd 162 17 = some (33, .istore_n 2, 1, 0, 0, 0, [], []) := rfl
theorem k162_18 : az_cd 162 18 = some (34, .iload_n 2, 1, 0, 0, 0, [], []) := rfl
theorem k162_19 : az_cd 162 19 = some (35, .sipush 151, 3, 0, 0, 151, [], []) := rfl
theorem k162_20 : az_cd 162 20 = some (38, .if_icmp .ge 16, 3, 28, 0, 0, [], []) := rfl
theorem k162_21 : az_cd 162 21 = some (41, .aload_n 0, 1, 0, 0, 0, [], []) := rfl
theorem k162_22 : az_cd 162 22 = some (42, .getfield 7, 3, 9, 0, 0, [], [751]) := rfl
theorem k162_23 : az_cd 162 23 = some (45, .iload_n 2, 1, 0, 0, 0, [], []) := rfl
theorem k162_24 : az_cd 162 24 = some (46, .iconst 0, 1, 0, 0, 0, [], []) := rfl
theorem k162_25 : az_cd 162 25 = some (47, .iastore, 1, 0, 0, 0, [], []) := rfl
theorem k162_26 : az_cd 162 26 = some (48, .iinc 2 1, 3, 0, 0, 1, [], []) := rfl
theorem k162_27 : az_cd 162 27 = some (51, .goto (-17), 3, 18, 0, 0, [], []) := rfl
theorem k162_28 : az_cd 162 28 = some (54, .aload_n 0, 1, 0, 0, 0, [], []) := rfl
theorem k162_29 : az_cd 162 29 = some (55, .getfield 7, 3, 9, 0, 0, [], [751]) := rfl
theorem k162_30 : az_cd 162 30 = some (58, .sipush 151, 3, 0, 0, 151, [], []) := rfl
theorem k162_31 : az_cd 162 31 = some (61, .dup2, 1, 0, 0, 0, [], []) := rfl
theorem k162_32 : az_cd 162 32 = some (62, .iaload, 1, 0, 0, 0, [], []) := rfl
theorem k162_33 : az_cd 162 33 = some (63, .iconst 1, 1, 0, 0, 1, [], []) := rfl
theorem k162_34 : az_cd 162 34 = some (64, .iadd, 1, 0, 0, 0, [], []) := rfl
theorem k162_35 : az_cd 162 35 = some (65, .iastore, 1, 0, 0, 0, [], []) := rfl
theorem k162_36 : az_cd 162 36 = some (66, .aload_n 0, 1, 0, 0, 0, [], []) := rfl
theorem k162_37 : az_cd 162 37 = some (67, .iconst 0, 1, 0, 0, 0, [], []) := rfl
theorem k162_38 : az_cd 162 38 = some (68, .invokevirtual 38, 3, 133, 1, 0, [], [875, 877, 51, 878, 23]) := rfl
theorem k162_39 : az_cd 162 39 = some (71, .ireturn, 1, 0, 0, 0, [], []) := rfl
theorem k163_0 : az_cd 163 0 = some (0, .iconst 0, 1, 0, 0, 0, [], []) := rfl
theorem k163_1 : az_cd 163 1 = some (1, .istore_n 1, 1, 0, 0, 0, [], []) := rfl
theorem k163_2 : az_cd 163 2 = some (2, .iconst 0, 1, 0, 0, 0, [], []) := rfl
theorem k163_3 : az_cd 163 3 = some (3, .istore_n 2, 1, 0, 0, 0, [], []) := rfl
theorem k163_4 : az_cd 163 4 = some (4, .iload_n 2, 1, 0, 0, 0, [], []) := rfl
theorem k163_5 : az_cd 163 5 = some (5, .iconst 4, 1, 0, 0, 4, [], []) := rfl
theorem k163_6 : az_cd 163 6 = some (6, .if_icmp .ge 25, 3, 19, 0, 0, [], []) := rfl
theorem k163_7 : az_cd 163 7 = some (9, .iload_n 1, 1, 0, 0, 0, [], []) := rfl
theorem k163_8 : az_cd 163 8 = some (10, .aload_n 0, 1, 0, 0, 0, [], []) := rfl
theorem k163_9 : az_cd 163 9 = some (11, .iload_n 2, 1, 0, 0, 0, [], []) := rfl
theorem k163_10 : az_cd 163 10 = some (12, .invokevirtual 42, 3, 134, 1, 0, [], [887, 889, 51, 890, 26]) := rfl
theorem k163_11 : az_cd 163 11 = some (15, .ifCond .eq 7, 3, 14, 0, 0, [], []) := rfl
theorem k163_12 : az_cd 163 12 = some (18, .iconst 1, 1, 0, 0, 1, [], []) := rfl
theorem k163_13 : az_cd 163 13 = some (19, .goto 4, 3, 15, 0, 0, [], []) := rfl
theorem k163_14 : az_cd 163 14 = some (22, .iconst 0, 1, 0, 0, 0, [], []) := rfl
theorem k163_15 : az_cd 163 15 = some (23, .iadd, 1, 0, 0, 0, [], []) := rfl
theorem k163_16 : az_cd 163 16 = some (24, .istore_n 1, 1, 0, 0, 0, [], []) := rfl
theorem k163_17 : az_cd 163 17 = some (25, .iinc 2 1, 3, 0, 0, 1, [], []) := rfl
theorem k163_18 : az_cd 163 18 = some (28, .goto (-24), 3, 4, 0, 0, [], []) := rfl
theorem k163_19 : az_cd 163 19 = some (31, .iload_n 1, 1, 0, 0, 0, [], []) := rfl
theorem k163_20 : az_cd 163 20 = some (32, .ireturn, 1, 0, 0, 0, [], []) := rfl
theorem k164_0 : az_cd 164 0 = some (0, .aload_n 0, 1, 0, 0, 0, [], []) := rfl
theorem k164_1 : az_cd 164 1 = some (1, .invokevirtual 121, 3, 163, 0, 0, [], [934, 936, 51, 937, 33]) := rfl
theorem k164_2 : az_cd 164 2 = some (4, .iconst 4, 1, 0, 0, 4, [], []) := rfl
theorem k164_3 : az_cd 164 3 = some (5, .if_icmp .ne 6, 3, 6, 0, 0, [], []) := rfl
theorem k164_4 : az_cd 164 4 = some (8, .bipush (-3), 2, 0, 0, (-3), [], []) := rfl
theorem k164_5 : az_cd 164 5 = some (10, .ireturn, 1, 0, 0, 0, [], []) := rfl
theorem k164_6 : az_cd 164 6 = some (11, .aload_n 0, 1, 0, 0, 0, [], []) := rfl
theorem k164_7 : az_cd 164 7 = some (12, .invokevirtual 65, 3, 131, 0, 0, [], [796, 798, 51, 799, 9]) := rfl
theorem k164_8 : az_cd 164 8 = some (15, .iconst 0, 1, 0, 0, 0, [], []) := rfl
theorem k164_9 : az_cd 164 9 = some (16, .istore_n 1, 1, 0, 0, 0, [], []) := rfl
theorem k164_10 : az_cd 164 10 = some (17, .aload_n 0, 1, 0, 0, 0, [], []) := rfl
theorem k164_11 : az_cd 164 11 = some (18, .iload_n 1, 1, 0, 0, 0, [], []) := rfl
theorem k164_12 : az_cd 164 12 = some (19, .invokevirtual 42, 3, 134, 1, 0, [], [887, 889, 51, 890, 26]) := rfl
theorem k164_13 : az_cd 164 13 = some (22, .ifCond .eq 9, 3, 16, 0, 0, [], []) := rfl
theorem k164_14 : az_cd 164 14 = some (25, .iinc 1 1, 3, 0, 0, 1, [], []) := rfl
theorem k164_15 : az_cd 164 15 = some (28, .goto (-11), 3, 10, 0, 0, [], []) := rfl
theorem k164_16 : az_cd 164 16 = some (31, .bipush 111, 2, 0, 0, 111, [], []) := rfl
theorem k164_17 : az_cd 164 17 = some (33, .bipush 10, 2, 0, 0, 10, [], []) := rfl
theorem k164_18 : az_cd 164 18 = some (35, .iload_n 1, 1, 0, 0, 0, [], []) := rfl
theorem k164_19 : az_cd 164 19 = some (36, .imul, 1, 0, 0, 0, [], []) := rfl
theorem k164_20 : az_cd 164 20 = some (37, .iadd, 1, 0, 0, 0, [], []) := rfl
theorem k164_21 : az_cd 164 21 = some (38, .istore_n 2, 1, 0, 0, 0, [], []) := rfl
theorem k164_22 : az_cd 164 22 = some (39, .aload_n 0, 1, 0, 0, 0, [], []) := rfl
theorem k164_23 : az_cd 164 23 = some (40, .getfield 7, 3, 9, 0, 0, [], [751]) := rfl
theorem k164_24 : az_cd 164 24 = some (43, .iload_n 2, 1, 0, 0, 0, [], []) := rfl
theorem k164_25 : az_cd 164 25 = some (44, .iconst 1, 1, 0, 0, 1, [], []) := rfl
theorem k164_26 : az_cd 164 26 = some (45, .iastore, 1, 0, 0, 0, [], []) := rfl
theorem k164_27 : az_cd 164 27 = some (46, .aload_n 0, 1, 0, 0, 0, [], []) := rfl
theorem k164_28 : az_cd 164 28 = some (47, .getfield 7, 3, 9, 0, 0, [], [751]) := rfl
theorem k164_29 : az_cd 164 29 = some (50, .iload_n 2, 1, 0, 0, 0, [], []) := rfl
theorem k164_30 : az_cd 164 30 = some (51, .iconst 1, 1, 0, 0, 1, [], []) := rfl
theorem k164_31 : az_cd 164 31 = some (52, .iadd, 1, 0, 0, 0, [], []) := rfl
theorem k164_32 : az_cd 164 32 = some (53, .aload_n 0, 1, 0, 0, 0, [], []) := rfl
theorem k164_33 : az_cd 164 33 = some (54, .iconst 0, 1, 0, 0, 0, [], []) := rfl
theorem k164_34 : az_cd 164 34 = some (55, .invokevirtual 38, 3, 133, 1, 0, [], [875, 877, 51, 878, 23]) := rfl
theorem k164_35 : az_cd 164 35 = some (58, .iastore, 1, 0, 0, 0, [], []) := rfl
theorem k164_36 : az_cd 164 36 = some (59, .iconst 0, 1, 0, 0, 0, [], []) := rfl
theorem k164_37 : az_cd 164 37 = some (60, .istore_n 3, 1, 0, 0, 0, [], []) := rfl
theorem k164_38 : az_cd 164 38 = some (61, .iload_n 3, 1, 0, 0, 0, [], []) := rfl
theorem k164_39 : az_cd 164 39 = some (62, .bipush 8, 2, 0, 0, 8, [], []) := rfl
theorem k164_40 : az_cd 164 40 = some (64, .if_icmp .ge 26, 3, 56, 0, 0, [], []) := rfl
theorem k164_41 : az_cd 164 41 = some (67, .aload_n 0, 1, 0, 0, 0, [], []) := rfl
theorem k164_42 : az_cd 164 42 = some (68, .getfield 7, 3, 9, 0, 0, [], [751]) := rfl
theorem k164_43 : az_cd 164 43 = some (71, .iload_n 2, 1, 0, 0, 0, [], []) := rfl
theorem k164_44 : az_cd 164 44 = some (72, .iconst 2, 1, 0, 0, 2, [], []) := rfl
theorem k164_45 : az_cd 164 45 = some (73, .iadd, 1, 0, 0, 0, [], []) := rfl
theorem k164_46 : az_cd 164 46 = some (74, .iload_n 3, 1, 0, 0, 0, [], []) := rfl
theorem k164_47 : az_cd 164 47 = some (75, .iadd, 1, 0, 0, 0, [], []) := rfl
theorem k164_48 : az_cd 164 48 = some (76, .aload_n 0, 1, 0, 0, 0, [], []) := rfl
theorem k164_49 : az_cd 164 49 = some (77, .iconst 2, 1, 0, 0, 2, [], []) := rfl
theorem k164_50 : az_cd 164 50 = some (78, .iload_n 3, 1, 0, 0, 0, [], []) := rfl
theorem k164_51 : az_cd 164 51 = some (79, .iadd, 1, 0, 0, 0, [], []) := rfl
theorem k164_52 : az_cd 164 52 = some (80, .invokevirtual 38, 3, 133, 1, 0, [], [875, 877, 51, 878, 23]) := rfl
theorem k164_53 : az_cd 164 53 = some (83, .iastore, 1, 0, 0, 0, [], []) := rfl
theorem k164_54 : az_cd 164 54 = some (84, .iinc 3 1, 3, 0, 0, 1, [], []) := rfl
theorem k164_55 : az_cd 164 55 = some (87, .goto (-26), 3, 38, 0, 0, [], []) := rfl
theorem k164_56 : az_cd 164 56 = some (90, .iload_n 1, 1, 0, 0, 0, [], []) := rfl
theorem k164_57 : az_cd 164 57 = some (91, .ireturn, 1, 0, 0, 0, [], []) := rfl
theorem k165_0 : az_cd 165 0 = some (0, .aload_n 0, 1, 0, 0, 0, [], []) := rfl
theorem k165_1 : az_cd 165 1 = some (1, .iload_n 1, 1, 0, 0, 0, [], []) := rfl
theorem k165_2 : az_cd 165 2 = some (2, .invokevirtual 42, 3, 134, 1, 0, [], [887, 889, 51, 890, 26]) := rfl
theorem k165_3 : az_cd 165 3 = some (5, .ifCond .ne 5, 3, 6, 0, 0, [], []) := rfl
theorem k165_4 : az_cd 165 4 = some (8, .iconst (-1), 1, 0, 0, (-1), [], []) := rfl
theorem k165_5 : az_cd 165 5 = some (9, .ireturn, 1, 0, 0, 0, [], []) := rfl
theorem k165_6 : az_cd 165 6 = some (10, .aload_n 0, 1, 0, 0, 0, [], []) := rfl
theorem k165_7 : az_cd 165 7 = some (11, .invokevirtual 65, 3, 131, 0, 0, [], [796, 798, 51, 799, 9]) := rfl
theorem k165_8 : az_cd 165 8 = some (14, .iconst 0, 1, 0, 0, 0, [], []) := rfl
theorem k165_9 : az_cd 165 9 = some (15, .istore_n 2, 1, 0, 0, 0, [], []) := rfl
theorem k165_10 : az_cd 165 10 = some (16, .iload_n 2, 1, 0, 0, 0, [], []) := rfl
theorem k165_11 : az_cd 165 11 = some (17, .bipush 10, 2, 0, 0, 10, [], []) := rfl
theorem k165_12 : az_cd 165 12 = some (19, .if_icmp .ge 24, 3, 26, 0, 0, [], []) := rfl
theorem k165_13 : az_cd 165 13 = some (22, .aload_n 0, 1, 0, 0, 0, [], []) := rfl
theorem k165_14 : az_cd 165 14 = some (23, .getfield 7, 3, 9, 0, 0, [], [751]) := rfl
theorem k165_15 : az_cd 165 15 = some (26, .bipush 111, 2, 0, 0, 111, [], []) := rfl
theorem k165_16 : az_cd 165 16 = some (28, .bipush 10, 2, 0, 0, 10, [], []) := rfl
theorem k165_17 : az_cd 165 17 = some (30, .iload_n 1, 1, 0, 0, 0, [], []) := rfl
theorem k165_18 : az_cd 165 18 = some (31, .imul, 1, 0, 0, 0, [], []) := rfl
theorem k165_19 : az_cd 165 19 = some (32, .iadd, 1, 0, 0, 0, [], []) := rfl
theorem k165_20 : az_cd 165 20 = some (33, .iload_n 2, 1, 0, 0, 0, [], []) := rfl
theorem k165_21 : az_cd 165 21 = some (34, .iadd, 1, 0, 0, 0, [], []) := rfl
theorem k165_22 : az_cd 165 22 = some (35, .iconst 0, 1, 0, 0, 0, [], []) := rfl
theorem k165_23 : az_cd 165 23 = some (36, .iastore, 1, 0, 0, 0, [], []) := rfl
theorem k165_24 : az_cd 165 24 = some (37, .iinc 2 1, 3, 0, 0, 1, [], []) := rfl
theorem k165_25 : az_cd 165 25 = some (40, .goto (-24), 3, 10, 0, 0, [], []) := rfl
theorem k165_26 : az_cd 165 26 = some (43, .aload_n 0, 1, 0, 0, 0, [], []) := rfl
theorem k165_27 : az_cd 165 27 = some (44, .invokevirtual 121, 3, 163, 0, 0, [], [934, 936, 51, 937, 33]) := rfl
theorem k165_28 : az_cd 165 28 = some (47, .ireturn, 1, 0, 0, 0, [], []) := rfl
theorem k166_0 : az_cd 166 0 = some (0, .aload_n 0, 1, 0, 0, 0, [], []) := rfl
theorem k166_1 : az_cd 166 1 = some (1, .getfield 124, 3, 9, 6, 0, [], [757]) := rfl
theorem k166_2 : az_cd 166 2 = some (4, .bipush 60, 2, 0, 0, 60, [], []) := rfl
theorem k166_3 : az_cd 166 3 = some (6, .if_icmp .ne 6, 3, 6, 0, 0, [], []) := rfl
theorem k166_4 : az_cd 166 4 = some (9, .bipush (-3), 2, 0, 0, (-3), [], []) := rfl
theorem k166_5 : az_cd 166 5 = some (11, .ireturn, 1, 0, 0, 0, [], []) := rfl
theorem k166_6 : az_cd 166 6 = some (12, .aload_n 0, 1, 0, 0, 0, [], []) := rfl
theorem k166_7 : az_cd 166 7 = some (13, .getfield 19, 3, 9, 5, 0, [], [756]) := rfl
theorem k166_8 : az_cd 166 8 = some (16, .aload_n 0, 1, 0, 0, 0, [], []) := rfl
theorem k166_9 : az_cd 166 9 = some (17, .getfield 124, 3, 9, 6, 0, [], [757]) := rfl
theorem k166_10 : az_cd 166 10 = some (20, .iload_n 1, 1, 0, 0, 0, [], []) := rfl
theorem k166_11 : az_cd 166 11 = some (21, .castore, 1, 0, 0, 0, [], []) := rfl
theorem k166_12 : az_cd 166 12 = some (22, .aload_n 0, 1, 0, 0, 0, [], []) := rfl
theorem k166_13 : az_cd 166 13 = some (23, .dup, 1, 0, 0, 0, [], []) := rfl
theorem k166_14 : az_cd 166 14 = some (24, .getfield 124, 3, 9, 6, 0, [], [757]) := rfl
theorem k166_15 : az_cd 166 15 = some (27, .iconst 1, 1, 0, 0, 1, [], []) := rfl
theorem k166_16 : az_cd 166 16 = some (28, .iadd, 1, 0, 0, 0, [], []) := rfl
theorem k166_17 : az_cd 166 17 = some (29, .putfield 124, 3, 9, 6, 0, [], [757]) := rfl
theorem k166_18 : az_cd 166 18 = some (32, .aload_n 0, 1, 0, 0, 0, [], []) := rfl
theorem k166_19 : az_cd 166 19 = some (33, .getfield 124, 3, 9, 6, 0, [], [757]) := rfl
theorem k166_20 : az_cd 166 20 = some (36, .ireturn, 1, 0, 0, 0, [], []) := rfl
theorem k167_0 : az_cd 167 0 = some (0, .aload_n 0, 1, 0, 0, 0, [], []) := rfl
theorem k167_1 : az_cd 167 1 = some (1, .getfield 124, 3, 9, 6, 0, [], [757]) := rfl
theorem k167_2 : az_cd 167 2 = some (4, .istore_n 1, 1, 0, 0, 0, [], []) := rfl
theorem k167_3 : az_cd 167 3 = some (5, .aload_n 0, 1, 0, 0, 0, [], []) := rfl
theorem k167_4 : az_cd 167 4 = some (6, .iconst 0, 1, 0, 0, 0, [], []) := rfl
theorem k167_5 : az_cd 167 5 = some (7, .putfield 124, 3, 9, 6, 0, [], [757]) := rfl
theorem k167_6 : az_cd 167 6 = some (10, .iload_n 1, 1, 0, 0, 0, [], []) := rfl
theorem k167_7 : az_cd 167 7 = some (11, .ireturn, 1, 0, 0, 0, [], []) := rfl
theorem k168_0 : az_cd 168 0 = some (0, .aload_n 0, 1, 0, 0, 0, [], []) := rfl
theorem k168_1 : az_cd 168 1 = some (1, .getfield 127, 3, 9, 7, 0, [], [758]) := rfl
theorem k168_2 : az_cd 168 2 = some (4, .aload_n 0, 1, 0, 0, 0, [], []) := rfl
theorem k168_3 : az_cd 168 3 = some (5, .getfield 124, 3, 9, 6, 0, [], [757]) := rfl
theorem k168_4 : az_cd 168 4 = some (8, .if_icmp .ge 24, 3, 16, 0, 0, [], []) := rfl
theorem k168_5 : az_cd 168 5 = some (11, .aload_n 0, 1, 0, 0, 0, [], []) := rfl
theorem k168_6 : az_cd 168 6 = some (12, .getfield 19, 3, 9, 5, 0, [], [756]) := rfl
theorem k168_7 : az_cd 168 7 = some (15, .aload_n 0, 1, 0, 0, 0, [], []) := rfl
theorem k168_8 : az_cd 168 8 = some (16, .getfield 127, 3, 9, 7, 0, [], [758]) := rfl
theorem k168_9 : az_cd 168 9 = some (19, .caload, 1, 0, 0, 0, [], []) := rfl
theorem k168_10 : az_cd 168 10 = some (20, .iload_n 1, 1, 0, 0, 0, [], []) := rfl
theorem k168_11 : az_cd 168 11 = some (21, .iload_n 2, 1, 0, 0, 0, [], []) := rfl
theorem k168_12 : az_cd 168 12 = some (22, .invokestatic 26, 3, 128, 3, 0, [], [789, 790, 51, 791]) := rfl
theorem k168_13 : az_cd 168 13 = some (25, .ifCond .eq 7, 3, 16, 0, 0, [], []) := rfl
theorem k168_14 : az_cd 168 14 = some (28, .iconst 1, 1, 0, 0, 1, [], []) := rfl
theorem k168_15 : az_cd 168 15 = some (29, .goto 4, 3, 17, 0, 0, [], []) := rfl
theorem k168_16 : az_cd 168 16 = some (32, .iconst 0, 1, 0, 0, 0, [], []) := rfl
theorem k168_17 : az_cd 168 17 = some (33, .ireturn, 1, 0, 0, 0, [], []) := rfl
theorem k169_0 : az_cd 169 0 = some (0, .aload_n 0, 1, 0, 0, 0, [], []) := rfl
theorem k169_1 : az_cd 169 1 = some (1, .iload_n 1, 1, 0, 0, 0, [], []) := rfl
theorem k169_2 : az_cd 169 2 = some (2, .iload_n 1, 1, 0, 0, 0, [], []) := rfl
theorem k169_3 : az_cd 169 3 = some (3, .invokevirtual 130, 3, 168, 2, 0, [], [823, 825, 51, 826, 13]) := rfl
theorem k169_4 : az_cd 169 4 = some (6, .istore_n 2, 1, 0, 0, 0, [], []) := rfl
theorem k169_5 : az_cd 169 5 = some (7, .aload_n 0, 1, 0, 0, 0, [], []) := rfl
theorem k169_6 : az_cd 169 6 = some (8, .dup, 1, 0, 0, 0, [], []) := rfl
theorem k169_7 : az_cd 169 7 = some (9, .getfield 127, 3, 9, 7, 0, [], [758]) := rfl
theorem k169_8 : az_cd 169 8 = some (12, .iload_n 2, 1, 0, 0, 0, [], []) := rfl
theorem k169_9 : az_cd 169 9 = some (13, .ifCond .eq 7, 3, 12, 0, 0, [], []) := rfl
theorem k169_10 : az_cd 169 10 = some (16, .iconst 1, 1, 0, 0, 1, [], []) := rfl
theorem k169_11 : az_cd 169 11 = some (17, .goto 4, 3, 13, 0, 0, [], []) := rfl
theorem k169_12 : az_cd 169 12 = some (20, .iconst 0, 1, 0, 0, 0, [], []) := rfl
theorem k169_13 : az_cd 169 13 = some (21, .iadd, 1, 0, 0, 0, [], []) := rfl
theorem k169_14 : az_cd 169 14 = some (22, .putfield 127, 3, 9, 7, 0, [], [758]) := rfl
theorem k169_15 : az_cd 169 15 = some (25, .iload_n 2, 1, 0, 0, 0, [], []) := rfl
theorem k169_16 : az_cd 169 16 = some (26, .ireturn, 1, 0, 0, 0, [], []) := rfl
theorem k170_0 : az_cd 170 0 = some (0, .aload_n 0, 1, 0, 0, 0, [], []) := rfl
theorem k170_1 : az_cd 170 1 = some (1, .bipush 48, 2, 0, 0, 48, [], []) := rfl
theorem k170_2 : az_cd 170 2 = some (3, .bipush 55, 2, 0, 0, 55, [], []) := rfl
theorem k170_3 : az_cd 170 3 = some (5, .invokevirtual 130, 3, 168, 2, 0, [], [823, 825, 51, 826, 13]) := rfl
theorem k170_4 : az_cd 170 4 = some (8, .ifCond .ne 5, 3, 7, 0, 0, [], []) := rfl
theorem k170_5 : az_cd 170 5 = some (11, .iconst 0, 1, 0, 0, 0, [], []) := rfl
theorem k170_6 : az_cd 170 6 = some (12, .ireturn, 1, 0, 0, 0, [], []) := rfl
theorem k170_7 : az_cd 170 7 = some (13, .aload_n 0, 1, 0, 0, 0, [], []) := rfl
theorem k170_8 : az_cd 170 8 = some (14, .getfield 23, 3, 9, 8, 0, [], [759]) := rfl
theorem k170_9 : az_cd 170 9 = some (17, .iconst 2, 1, 0, 0, 2, [], []) := rfl
theorem k170_10 : az_cd 170 10 = some (18, .aload_n 0, 1, 0, 0, 0, [], []) := rfl
theorem k170_11 : az_cd 170 11 = some (19, .getfield 82, 3, 9, 9, 0, [], [760]) := rfl
theorem k170_12 : az_cd 170 12 = some (22, .imul, 1, 0, 0, 0, [], []) := rfl
theorem k170_13 : az_cd 170 13 = some (23, .aload_n 0, 1, 0, 0, 0, [], []) := rfl
theorem k170_14 : az_cd 170 14 = some (24, .getfield 19, 3, 9, 5, 0, [], [756]) := rfl
theorem k170_15 : az_cd 170 15 = some (27, .aload_n 0, 1, 0, 0, 0, [], []) := rfl
theorem k170_16 : az_cd 170 16 = some (28, .getfield 127, 3, 9, 7, 0, [], [758]) := rfl
theorem k170_17 : az_cd 170 17 = some (31, .caload, 1, 0, 0, 0, [], []) := rfl
theorem k170_18 : az_cd 170 18 = some (32, .bipush 48, 2, 0, 0, 48, [], []) := rfl
theorem k170_19 : az_cd 170 19 = some (34, .isub, 1, 0, 0, 0, [], []) := rfl
theorem k170_20 : az_cd 170 20 = some (35, .iastore, 1, 0, 0, 0, [], []) := rfl
theorem k170_21 : az_cd 170 21 = some (36, .aload_n 0, 1, 0, 0, 0, [], []) := rfl
theorem k170_22 : az_cd 170 22 = some (37, .dup, 1, 0, 0, 0, [], []) := rfl
theorem k170_23 : az_cd 170 23 = some (38, .getfield 127, 3, 9, 7, 0, [], [758]) := rfl
theorem k170_24 : az_cd 170 24 = some (41, .iconst 1, 1, 0, 0, 1, [], []) := rfl
theorem k170_25 : az_cd 170 25 = some (42, .iadd, 1, 0, 0, 0, [], []) := rfl
theorem k170_26 : az_cd 170 26 = some (43, .putfield 127, 3, 9, 7, 0, [], [758]) := rfl
theorem k170_27 : az_cd 170 27 = some (46, .aload_n 0, 1, 0, 0, 0, [], []) := rfl
theorem k170_28 : az_cd 170 28 = some (47, .getfield 23, 3, 9, 8, 0, [], [759]) := rfl
theorem k170_29 : az_cd 170 29 = some (50, .iconst 2, 1, 0, 0, 2, [], []) := rfl
theorem k170_30 : az_cd 170 30 = some (51, .aload_n 0, 1, 0, 0, 0, [], []) := rfl
theorem k170_31 : az_cd 170 31 = some (52, .getfield 82, 3, 9, 9, 0, [], [760]) := rfl
theorem k170_32 : az_cd 170 32 = some (55, .imul, 1, 0, 0, 0, [], []) := rfl
theorem k170_33 : az_cd 170 33 = some (56, .iconst 1, 1, 0, 0, 1, [], []) := rfl
theorem k170_34 : az_cd 170 34 = some (57, .iadd, 1, 0, 0, 0, [], []) := rfl
theorem k170_35 : az_cd 170 35 = some (58, .bipush (-6), 2, 0, 0, (-6), [], []) := rfl
theorem k170_36 : az_cd 170 36 = some (60, .iastore, 1, 0, 0, 0, [], []) := rfl
theorem k170_37 : az_cd 170 37 = some (61, .aload_n 0, 1, 0, 0, 0, [], []) := rfl
theorem k170_38 : az_cd 170 38 = some (62, .bipush 45, 2, 0, 0, 45, [], []) := rfl
theorem k170_39 : az_cd 170 39 = some (64, .invokevirtual 133, 3, 169, 1, 0, [], [827, 829, 51, 830, 14]) := rfl
theorem k170_40 : az_cd 170 40 = some (67, .ifCond .eq 5, 3, 43, 0, 0, [], []) := rfl
theorem k170_41 : az_cd 170 41 = some (70, .iconst 1, 1, 0, 0, 1, [], []) := rfl
theorem k170_42 : az_cd 170 42 = some (71, .ireturn, 1, 0, 0, 0, [], []) := rfl
theorem k170_43 : az_cd 170 43 = some (72, .aload_n 0, 1, 0, 0, 0, [], []) := rfl
theorem k170_44 : az_cd 170 44 = some (73, .bipush 61, 2, 0, 0, 61, [], []) := rfl
theorem k170_45 : az_cd 170 45 = some (75, .invokevirtual 133, 3, 169, 1, 0, [], [827, 829, 51, 830, 14]) := rfl
theorem k170_46 : az_cd 170 46 = some (78, .ifCond .eq 14, 3, 52, 0, 0, [], []) := rfl
theorem k170_47 : az_cd 170 47 = some (81, .aload_n 0, 1, 0, 0, 0, [], []) := rfl
theorem k170_48 : az_cd 170 48 = some (82, .bipush 48, 2, 0, 0, 48, [], []) := rfl
theorem k170_49 : az_cd 170 49 = some (84, .bipush 57, 2, 0, 0, 57, [], []) := rfl
theorem k170_50 : az_cd 170 50 = some (86, .invokevirtual 130, 3, 168, 2, 0, [], [823, 825, 51, 826, 13]) := rfl
theorem k170_51 : az_cd 170 51 = some (89, .ifCond .ne 5, 3, 54, 0, 0, [], []) := rfl
theorem k170_52 : az_cd 170 52 = some (92, .iconst 0, 1, 0, 0, 0, [], []) := rfl
theorem k170_53 : az_cd 170 53 = some (93, .ireturn, 1, 0, 0, 0, [], []) := rfl
theorem k170_54 : az_cd 170 54 = some (94, .aload_n 0, 1, 0, 0, 0, [], []) := rfl
theorem k170_55 : az_cd 170 55 = some (95, .getfield 19, 3, 9, 5, 0, [], [756]) := rfl
theorem k170_56 : az_cd 170 56 = some (98, .aload_n 0, 1, 0, 0, 0, [], []) := rfl
theorem k170_57 : az_cd 170 57 = some (99, .getfield 127, 3, 9, 7, 0, [], [758]) := rfl
theorem k170_58 : az_cd 170 58 = some (102, .caload, 1, 0, 0, 0, [], []) := rfl
theorem k170_59 : az_cd 170 59 = some (103, .bipush 48, 2, 0, 0, 48, [], []) := rfl
theorem k170_60 : az_cd 170 60 = some (105, .isub, 1, 0, 0, 0, [], []) := rfl
theorem k170_61 : az_cd 170 61 = some (106, .istore_n 1, 1, 0, 0, 0, [], []) := rfl
theorem k170_62 : az_cd 170 62 = some (107, .aload_n 0, 1, 0, 0, 0, [], []) := rfl
theorem k170_63 : az_cd 170 63 = some (108, .dup, 1, 0, 0, 0, [], []) := rfl
theorem k170_64 : az_cd 170 64 = some (109, .getfield 127, 3, 9, 7, 0, [], [758]) := rfl
theorem k170_65 : az_cd 170 65 = some (112, .iconst 1, 1, 0, 0, 1, [], []) := rfl
theorem k170_66 : az_cd 170 66 = some (113, .iadd, 1, 0, 0, 0, [], []) := rfl
theorem k170_67 : az_cd 170 67 = some (114, .putfield 127, 3, 9, 7, 0, [], [758]) := rfl
theorem k170_68 : az_cd 170 68 = some (117, .iload_n 1, 1, 0, 0, 0, [], []) := rfl
theorem k170_69 : az_cd 170 69 = some (118, .ifCond .le 51, 3, 97, 0, 0, [], []) := rfl
theorem k170_70 : az_cd 170 70 = some (121, .iload_n 1, 1, 0, 0, 0, [], []) := rfl
theorem k170_71 : az_cd 170 71 = some (122, .bipush 100, 2, 0, 0, 100, [], []) := rfl
theorem k170_72 : az_cd 170 72 = some (124, .if_icmp .ge 45, 3, 97, 0, 0, [], []) := rfl
theorem k170_73 : az_cd 170 73 = some (127, .aload_n 0, 1, 0, 0, 0, [], []) := rfl
theorem k170_74 : az_cd 170 74 = some (128, .bipush 48, 2, 0, 0, 48, [], []) := rfl
theorem k170_75 : az_cd 170 75 = some (130, .bipush 57, 2, 0, 0, 57, [], []) := rfl
theorem k170_76 : az_cd 170 76 = some (132, .invokevirtual 130, 3, 168, 2, 0, [], [823, 825, 51, 826, 13]) := rfl
theorem k170_77 : az_cd 170 77 = some (135, .ifCond .eq 34, 3, 97, 0, 0, [], []) := rfl
theorem k170_78 : az_cd 170 78 = some (138, .bipush 10, 2, 0, 0, 10, [], []) := rfl
theorem k170_79 : az_cd 170 79 = some (140, .iload_n 1, 1, 0, 0, 0, [], []) := rfl
theorem k170_80 : az_cd 170 80 = some (141, .imul, 1, 0, 0, 0, [], []) := rfl
theorem k170_81 : az_cd 170 81 = some (142, .aload_n 0, 1, 0, 0, 0, [], []) := rfl
theorem k170_82 : az_cd 170 82 = some (143, .getfield 19, 3, 9, 5, 0, [], [756]) := rfl
theorem k170_83 : az_cd 170 83 = some (146, .aload_n 0, 1, 0, 0, 0, [], []) := rfl
theorem k170_84 : az_cd 170 84 = some (147, .getfield 127, 3, 9, 7, 0, [], [758]) := rfl
theorem k170_85 : az_cd 170 85 = some (150, .caload, 1, 0, 0, 0, [], []) := rfl
theorem k170_86 : az_cd 170 86 = some (151, .iadd, 1, 0, 0, 0, [], []) := rfl
theorem k170_87 : az_cd 170 87 = some (152, .bipush 48, 2, 0, 0, 48, [], []) := rfl
theorem k170_88 : az_cd 170 88 = some (154, .isub, 1, 0, 0, 0, [], []) := rfl
theorem k170_89 : az_cd 170 89 = some (155, .istore_n 1, 1, 0, 0, 0, [], []) := rfl
theorem k170_90 : az_cd 170 90 = some (156, .aload_n 0, 1, 0, 0, 0, [], []) := rfl
theorem k170_91 : az_cd 170 91 = some (157, .dup, 1, 0, 0, 0, [], []) := rfl
theorem k170_92 : az_cd 170 92 = some (158, .getfield 127, 3, 9, 7, 0, [], [758]) := rfl
theorem k170_93 : az_cd 170 93 = some (161, .iconst 1, 1, 0, 0, 1, [], []) := rfl
theorem k170_94 : az_cd 170 94 = some (162, .iadd, 1, 0, 0, 0, [], []) := rfl
theorem k170_95 : az_cd 170 95 = some (163, .putfield 127, 3, 9, 7, 0, [], [758]) := rfl
theorem k170_96 : az_cd 170 96 = some (166, .goto (-49), 3, 68, 0, 0, [], []) := rfl
theorem k170_97 : az_cd 170 97 = some (169, .aload_n 0, 1, 0, 0, 0, [], []) := rfl
theorem k170_98 : az_cd 170 98 = some (170, .getfield 23, 3, 9, 8, 0, [], [759]) := rfl
theorem k170_99 : az_cd 170 99 = some (173, .iconst 2, 1, 0, 0, 2, [], []) := rfl
theorem k170_100 : az_cd 170 100 = some (174, .aload_n 0, 1, 0, 0, 0, [], []) := rfl
theorem k170_101 : az_cd 170 101 = some (175, .getfield 82, 3, 9, 9, 0, [], [760]) := rfl
theorem k170_102 : az_cd 170 102 = some (178, .imul, 1, 0, 0, 0, [], []) := rfl
theorem k170_103 : az_cd 170 103 = some (179, .iconst 1, 1, 0, 0, 1, [], []) := rfl
theorem k170_104 : az_cd 170 104 = some (180, .iadd, 1, 0, 0, 0, [], []) := rfl
theorem k170_105 : az_cd 170 105 = some (181, .iload_n 1, 1, 0, 0, 0, [], []) := rfl
theorem k170_106 : az_cd 170 106 = some (182, .iastore, 1, 0, 0, 0, [], []) := rfl
theorem k170_107 : az_cd 170 107 = some (183, .iconst 1, 1, 0, 0, 1, [], []) := rfl
theorem k170_108 : az_cd 170 108 = some (184, .ireturn, 1, 0, 0, 0, [], []) := rfl
theorem k171_0 : az_cd 171 0 = some (0, .aload_n 0, 1, 0, 0, 0, [], []) := rfl
theorem k171_1 : az_cd 171 1 = some (1, .iconst 0, 1, 0, 0, 0, [], []) := rfl
theorem k171_2 : az_cd 171 2 = some (2, .putfield 127, 3, 9, 7, 0, [], [758]) := rfl
theorem k171_3 : az_cd 171 3 = some (5, .aload_n 0, 1, 0, 0, 0, [], []) := rfl
theorem k171_4 : az_cd 171 4 = some (6, .iconst 0, 1, 0, 0, 0, [], []) := rfl
theorem k171_5 : az_cd 171 5 = some (7, .putfield 82, 3, 9, 9, 0, [], [760]) := rfl
theorem k171_6 : az_cd 171 6 = some (10, .iconst 1, 1, 0, 0, 1, [], []) := rfl
theorem k171_7 : az_cd 171 7 = some (11, .istore_n 1, 1, 0, 0, 0, [], []) := rfl
theorem k171_8 : az_cd 171 8 = some (12, .iload_n 1, 1, 0, 0, 0, [], []) := rfl
theorem k171_9 : az_cd 171 9 = some (13, .ifCond .eq 35, 3, 27, 0, 0, [], []) := rfl
theorem k171_10 : az_cd 171 10 = some (16, .aload_n 0, 1, 0, 0, 0, [], []) := rfl
theorem k171_11 : az_cd 171 11 = some (17, .invokevirtual 136, 3, 170, 0, 0, [], [819, 821, 51, 822, 12]) := rfl
theorem k171_12 : az_cd 171 12 = some (20, .ifCond .ne 8, 3, 16, 0, 0, [], []) := rfl
theorem k171_13 : az_cd 171 13 = some (23, .aload_n 0, 1, 0, 0, 0, [], []) := rfl
theorem k171_14 : az_cd 171 14 = some (24, .getfield 127, 3, 9, 7, 0, [], [758]) := rfl
theorem k171_15 : az_cd 171 15 = some (27, .ireturn, 1, 0, 0, 0, [], []) := rfl
theorem k171_16 : az_cd 171 16 = some (28, .aload_n 0, 1, 0, 0, 0, [], []) := rfl
theorem k171_17 : az_cd 171 17 = some (29, .dup, 1, 0, 0, 0, [], []) := rfl
theorem k171_18 : az_cd 171 18 = some (30, .getfield 82, 3, 9, 9, 0, [], [760]) := rfl
theorem k171_19 : az_cd 171 19 = some (33, .iconst 1, 1, 0, 0, 1, [], []) := rfl
theorem k171_20 : az_cd 171 20 = some (34, .iadd, 1, 0, 0, 0, [], []) := rfl
theorem k171_21 : az_cd 171 21 = some (35, .putfield 82, 3, 9, 9, 0, [], [760]) := rfl
theorem k171_22 : az_cd 171 22 = some (38, .aload_n 0, 1, 0, 0, 0, [], []) := rfl
theorem k171_23 : az_cd 171 23 = some (39, .bipush 44, 2, 0, 0, 44, [], []) := rfl
theorem k171_24 : az_cd 171 24 = some (41, .invokevirtual 133, 3, 169, 1, 0, [], [827, 829, 51, 830, 14]) := rfl
theorem k171_25 : az_cd 171 25 = some (44, .istore_n 1, 1, 0, 0, 0, [], []) := rfl
theorem k171_26 : az_cd 171 26 = some (45, .goto (-33), 3, 8, 0, 0, [], []) := rfl
theorem k171_27 : az_cd 171 27 = some (48, .aload_n 0, 1, 0, 0, 0, [], []) := rfl
theorem k171_28 : az_cd 171 28 = some (49, .getfield 127, 3, 9, 7, 0, [], [758]) := rfl
theorem k171_29 : az_cd 171 29 = some (52, .aload_n 0, 1, 0, 0, 0, [], []) := rfl
theorem k171_30 : az_cd 171 30 = some (53, .getfield 124, 3, 9, 6, 0, [], [757]) := rfl
theorem k171_31 : az_cd 171 31 = some (56, .if_icmp .ne 8, 3, 34, 0, 0, [], []) := rfl
theorem k171_32 : az_cd 171 32 = some (59, .bipush (-5), 2, 0, 0, (-5), [], []) := rfl
theorem k171_33 : az_cd 171 33 = some (61, .goto 7, 3, 36, 0, 0, [], []) := rfl
theorem k171_34 : az_cd 171 34 = some (64, .aload_n 0, 1, 0, 0, 0, [], []) := rfl
theorem k171_35 : az_cd 171 35 = some (65, .getfield 127, 3, 9, 7, 0, [], [758]) := rfl
theorem k171_36 : az_cd 171 36 = some (68, .ireturn, 1, 0, 0, 0, [], []) := rfl
theorem k172_0 : az_cd 172 0 = some (0, .aload_n 0, 1, 0, 0, 0, [], []) := rfl
theorem k172_1 : az_cd 172 1 = some (1, .getfield 30, 3, 9, 2, 0, [], [753]) := rfl
theorem k172_2 : az_cd 172 2 = some (4, .ifCond .ne 6, 3, 5, 0, 0, [], []) := rfl
theorem k172_3 : az_cd 172 3 = some (7, .bipush (-5), 2, 0, 0, (-5), [], []) := rfl
theorem k172_4 : az_cd 172 4 = some (9, .ireturn, 1, 0, 0, 0, [], []) := rfl
theorem k172_5 : az_cd 172 5 = some (10, .aload_n 0, 1, 0, 0, 0, [], []) := rfl
theorem k172_6 : az_cd 172 6 = some (11, .dup, 1, 0, 0, 0, [], []) := rfl
theorem k172_7 : az_cd 172 7 = some (12, .getfield 30, 3, 9, 2, 0, [], [753]) := rfl
theorem k172_8 : az_cd 172 8 = some (15, .iconst 1, 1, 0, 0, 1, [], []) := rfl
theorem k172_9 : az_cd 172 9 = some (16, .isub, 1, 0, 0, 0, [], []) := rfl
theorem k172_10 : az_cd 172 10 = some (17, .putfield 30, 3, 9, 2, 0, [], [753]) := rfl
theorem k172_11 : az_cd 172 11 = some (20, .aload_n 0, 1, 0, 0, 0, [], []) := rfl
theorem k172_12 : az_cd 172 12 = some (21, .getfield 13, 3, 9, 1, 0, [], [752]) := rfl
theorem k172_13 : az_cd 172 13 = some (24, .sipush 153, 3, 0, 0, 153, [], []) := rfl
theorem k172_14 : az_cd 172 14 = some (27, .aload_n 0, 1, 0, 0, 0, [], []) := rfl
theorem k172_15 : az_cd 172 15 = some (28, .getfield 30, 3, 9, 2, 0, [], [753]) := rfl
theorem k172_16 : az_cd 172 16 = some (31, .imul, 1, 0, 0, 0, [], []) := rfl
theorem k172_17 : az_cd 172 17 = some (32, .aload_n 0, 1, 0, 0, 0, [], []) := rfl
theorem k172_18 : az_cd 172 18 = some (33, .getfield 7, 3, 9, 0, 0, [], [751]) := rfl
theorem k172_19 : az_cd 172 19 = some (36, .iconst 0, 1, 0, 0, 0, [], []) := rfl
theorem k172_20 : az_cd 172 20 = some (37, .invokestatic 34, 3, 130, 4, 0, [], [800, 801, 51, 802]) := rfl
theorem k172_21 : az_cd 172 21 = some (40, .aload_n 0, 1, 0, 0, 0, [], []) := rfl
theorem k172_22 : az_cd 172 22 = some (41, .getfield 30, 3, 9, 2, 0, [], [753]) := rfl
theorem k172_23 : az_cd 172 23 = some (44, .ireturn, 1, 0, 0, 0, [], []) := rfl
theorem k173_0 : az_cd 173 0 = some (0, .aload_n 0, 1, 0, 0, 0, [], []) := rfl
theorem k173_1 : az_cd 173 1 = some (1, .getfield 7, 3, 9, 0, 0, [], [751]) := rfl
theorem k173_2 : az_cd 173 2 = some (4, .iconst 0, 1, 0, 0, 0, [], []) := rfl
theorem k173_3 : az_cd 173 3 = some (5, .aload_n 0, 1, 0, 0, 0, [], []) := rfl
theorem k173_4 : az_cd 173 4 = some (6, .getfield 16, 3, 9, 3, 0, [], [754]) := rfl
theorem k173_5 : az_cd 173 5 = some (9, .iconst 0, 1, 0, 0, 0, [], []) := rfl
theorem k173_6 : az_cd 173 6 = some (10, .invokestatic 34, 3, 130, 4, 0, [], [800, 801, 51, 802]) := rfl
theorem k173_7 : az_cd 173 7 = some (13, .aload_n 0, 1, 0, 0, 0, [], []) := rfl
theorem k173_8 : az_cd 173 8 = some (14, .iconst 1, 1, 0, 0, 1, [], []) := rfl
theorem k173_9 : az_cd 173 9 = some (15, .putfield 139, 3, 9, 4, 0, [], [755]) := rfl
theorem k173_10 : az_cd 173 10 = some (18, .aload_n 0, 1, 0, 0, 0, [], []) := rfl
theorem k173_11 : az_cd 173 11 = some (19, .iconst 0, 1, 0, 0, 0, [], []) := rfl
theorem k173_12 : az_cd 173 12 = some (20, .invokevirtual 38, 3, 133, 1, 0, [], [875, 877, 51, 878, 23]) := rfl
theorem k173_13 : az_cd 173 13 = some (23, .ireturn, 1, 0, 0, 0, [], []) := rfl
theorem k174_0 : az_cd 174 0 = some (0, .aload_n 0, 1, 0, 0, 0, [], []) := rfl
theorem k174_1 : az_cd 174 1 = some (1, .getfield 139, 3, 9, 4, 0, [], [755]) := rfl
theorem k174_2 : az_cd 174 2 = some (4, .ifCond .ne 6, 3, 5, 0, 0, [], []) := rfl
theorem k174_3 : az_cd 174 3 = some (7, .bipush (-5), 2, 0, 0, (-5), [], []) := rfl
theorem k174_4 : az_cd 174 4 = some (9, .ireturn, 1, 0, 0, 0, [], []) := rfl
theorem k174_5 : az_cd 174 5 = some (10, .aload_n 0, 1, 0, 0, 0, [], []) := rfl
theorem k174_6 : az_cd 174 6 = some (11, .invokevirtual 65, 3, 131, 0, 0, [], [796, 798, 51, 799, 9]) := rfl
theorem k174_7 : az_cd 174 7 = some (14, .aload_n 0, 1, 0, 0, 0, [], []) := rfl
theorem k174_8 : az_cd 174 8 = some (15, .getfield 16, 3, 9, 3, 0, [], [754]) := rfl
theorem k174_9 : az_cd 174 9 = some (18, .iconst 0, 1, 0, 0, 0, [], []) := rfl
theorem k174_10 : az_cd 174 10 = some (19, .aload_n 0, 1, 0, 0, 0, [], []) := rfl
theorem k174_11 : az_cd 174 11 = some (20, .getfield 7, 3, 9, 0, 0, [], [751]) := rfl
theorem k174_12 : az_cd 174 12 = some (23, .iconst 0, 1, 0, 0, 0, [], []) := rfl
theorem k174_13 : az_cd 174 13 = some (24, .invokestatic 34, 3, 130, 4, 0, [], [800, 801, 51, 802]) := rfl
theorem k174_14 : az_cd 174 14 = some (27, .aload_n 0, 1, 0, 0, 0, [], []) := rfl
theorem k174_15 : az_cd 174 15 = some (28, .iconst 0, 1, 0, 0, 0, [], []) := rfl
theorem k174_16 : az_cd 174 16 = some (29, .invokevirtual 38, 3, 133, 1, 0, [], [875, 877, 51, 878, 23]) := rfl
theorem k174_17 : az_cd 174 17 = some (32, .ireturn, 1, 0, 0, 0, [], []) := rfl
theorem k175_0 : az_cd 175 0 = some (0, .iload_n 1, 1, 0, 0, 0, [], []) := rfl
theorem k175_1 : az_cd 175 1 = some (1, .bipush (-5), 2, 0, 0, (-5), [], []) := rfl
theorem k175_2 : az_cd 175 2 = some (3, .if_icmp .ne 8, 3, 5, 0, 0, [], []) := rfl
theorem k175_3 : az_cd 175 3 = some (6, .bipush (-5), 2, 0, 0, (-5), [], []) := rfl
theorem k175_4 : az_cd 175 4 = some (8, .goto 11, 3, 11, 0, 0, [], []) := rfl
theorem k175_5 : az_cd 175 5 = some (11, .aload_n 0, 1, 0, 0, 0, [], []) := rfl
theorem k175_6 : az_cd 175 6 = some (12, .getfield 7, 3, 9, 0, 0, [], [751]) := rfl
theorem k175_7 : az_cd 175 7 = some (15, .iconst 0, 1, 0, 0, 0, [], []) := rfl
theorem k175_8 : az_cd 175 8 = some (16, .iload_n 1, 1, 0, 0, 0, [], []) := rfl
theorem k175_9 : az_cd 175 9 = some (17, .iadd, 1, 0, 0, 0, [], []) := rfl
theorem k175_10 : az_cd 175 10 = some (18, .iaload, 1, 0, 0, 0, [], []) := rfl
theorem k175_11 : az_cd 175 11 = some (19, .ireturn, 1, 0, 0, 0, [], []) := rfl
theorem k176_0 : az_cd 176 0 = some (0, .iload_n 1, 1, 0, 0, 0, [], []) := rfl
theorem k176_1 : az_cd 176 1 = some (1, .invokestatic 72, 3, 129, 1, 0, [], [786, 787, 51, 788]) := rfl
theorem k176_2 : az_cd 176 2 = some (4, .ifCond .eq 17, 3, 11, 0, 0, [], []) := rfl
theorem k176_3 : az_cd 176 3 = some (7, .aload_n 0, 1, 0, 0, 0, [], []) := rfl
theorem k176_4 : az_cd 176 4 = some (8, .aload_n 0, 1, 0, 0, 0, [], []) := rfl
theorem k176_5 : az_cd 176 5 = some (9, .iconst 2, 1, 0, 0, 2, [], []) := rfl
theorem k176_6 : az_cd 176 6 = some (10, .iload_n 1, 1, 0, 0, 0, [], []) := rfl
theorem k176_7 : az_cd 176 7 = some (11, .iadd, 1, 0, 0, 0, [], []) := rfl
theorem k176_8 : az_cd 176 8 = some (12, .invokevirtual 38, 3, 133, 1, 0, [], [875, 877, 51, 878, 23]) := rfl
theorem k176_9 : az_cd 176 9 = some (15, .invokevirtual 143, 3, 175, 1, 0, [], [966, 968, 51, 969, 34]) := rfl
theorem k176_10 : az_cd 176 10 = some (18, .goto 4, 3, 12, 0, 0, [], []) := rfl
theorem k176_11 : az_cd 176 11 = some (21, .iconst (-1), 1, 0, 0, (-1), [], []) := rfl
theorem k176_12 : az_cd 176 12 = some (22, .ireturn, 1, 0, 0, 0, [], []) := rfl
theorem k177_0 : az_cd 177 0 = some (0, .iload_n 1, 1, 0, 0, 0, [], []) := rfl
theorem k177_1 : az_cd 177 1 = some (1, .invokestatic 72, 3, 129, 1, 0, [], [786, 787, 51, 788]) := rfl
theorem k177_2 : az_cd 177 2 = some (4, .ifCond .ne 5, 3, 5, 0, 0, [], []) := rfl
theorem k177_3 : az_cd 177 3 = some (7, .iconst (-1), 1, 0, 0, (-1), [], []) := rfl
theorem k177_4 : az_cd 177 4 = some (8, .ireturn, 1, 0, 0, 0, [], []) := rfl
theorem k177_5 : az_cd 177 5 = some (9, .aload_n 0, 1, 0, 0, 0, [], []) := rfl
theorem k177_6 : az_cd 177 6 = some (10, .getfield 7, 3, 9, 0, 0, [], [751]) := rfl
theorem k177_7 : az_cd 177 7 = some (13, .bipush 93, 2, 0, 0, 93, [], []) := rfl
theorem k177_8 : az_cd 177 8 = some (15, .iload_n 1, 1, 0, 0, 0, [], []) := rfl
theorem k177_9 : az_cd 177 9 = some (16, .iadd, 1, 0, 0, 0, [], []) := rfl
theorem k177_10 : az_cd 177 10 = some (17, .iaload, 1, 0, 0, 0, [], []) := rfl
theorem k177_11 : az_cd 177 11 = some (18, .istore_n 2, 1, 0, 0, 0, [], []) := rfl
theorem k177_12 : az_cd 177 12 = some (19, .iload_n 2, 1, 0, 0, 0, [], []) := rfl
theorem k177_13 : az_cd 177 13 = some (20, .ifCond .lt 7, 3, 16, 0, 0, [], []) := rfl
theorem k177_14 : az_cd 177 14 = some (23, .iload_n 2, 1, 0, 0, 0, [], []) := rfl
theorem k177_15 : az_cd 177 15 = some (24, .goto 25, 3, 28, 0, 0, [], []) := rfl
theorem k177_16 : az_cd 177 16 = some (27, .iload_n 2, 1, 0, 0, 0, [], []) := rfl
theorem k177_17 : az_cd 177 17 = some (28, .bipush (-6), 2, 0, 0, (-6), [], []) := rfl
theorem k177_18 : az_cd 177 18 = some (30, .if_icmp .ne 8, 3, 21, 0, 0, [], []) := rfl
theorem k177_19 : az_cd 177 19 = some (33, .bipush (-5), 2, 0, 0, (-5), [], []) := rfl
theorem k177_20 : az_cd 177 20 = some (35, .goto 14, 3, 28, 0, 0, [], []) := rfl
theorem k177_21 : az_cd 177 21 = some (38, .aload_n 0, 1, 0, 0, 0, [], []) := rfl
theorem k177_22 : az_cd 177 22 = some (39, .aload_n 0, 1, 0, 0, 0, [], []) := rfl
theorem k177_23 : az_cd 177 23 = some (40, .iconst 2, 1, 0, 0, 2, [], []) := rfl
theorem k177_24 : az_cd 177 24 = some (41, .iload_n 1, 1, 0, 0, 0, [], []) := rfl
theorem k177_25 : az_cd 177 25 = some (42, .iadd, 1, 0, 0, 0, [], []) := rfl
theorem k177_26 : az_cd 177 26 = some (43, .invokevirtual 38, 3, 133, 1, 0, [], [875, 877, 51, 878, 23]) := rfl
theorem k177_27 : az_cd 177 27 = some (46, .invokevirtual 143, 3, 175, 1, 0, [], [966, 968, 51, 969, 34]) := rfl
theorem k177_28 : az_cd 177 28 = some (49, .ireturn, 1, 0, 0, 0, [], []) := rfl
theorem k178_0 : az_cd 178 0 = some (0, .aload_n 0, 1, 0, 0, 0, [], []) := rfl
theorem k178_1 : az_cd 178 1 = some (1, .iload_n 1, 1, 0, 0, 0, [], []) := rfl
theorem k178_2 : az_cd 178 2 = some (2, .invokevirtual 42, 3, 134, 1, 0, [], [887, 889, 51, 890, 26]) := rfl
theorem k178_3 : az_cd 178 3 = some (5, .ifCond .eq 33, 3, 22, 0, 0, [], []) := rfl
theorem k178_4 : az_cd 178 4 = some (8, .iload_n 2, 1, 0, 0, 0, [], []) := rfl
theorem k178_5 : az_cd 178 5 = some (9, .invokestatic 72, 3, 129, 1, 0, [], [786, 787, 51, 788]) := rfl
theorem k178_6 : az_cd 178 6 = some (12, .ifCond .eq 26, 3, 22, 0, 0, [], []) := rfl
theorem k178_7 : az_cd 178 7 = some (15, .aload_n 0, 1, 0, 0, 0, [], []) := rfl
theorem k178_8 : az_cd 178 8 = some (16, .aload_n 0, 1, 0, 0, 0, [], []) := rfl
theorem k178_9 : az_cd 178 9 = some (17, .getfield 7, 3, 9, 0, 0, [], [751]) := rfl
theorem k178_10 : az_cd 178 10 = some (20, .bipush 111, 2, 0, 0, 111, [], []) := rfl
theorem k178_11 : az_cd 178 11 = some (22, .bipush 10, 2, 0, 0, 10, [], []) := rfl
theorem k178_12 : az_cd 178 12 = some (24, .iload_n 1, 1, 0, 0, 0, [], []) := rfl
theorem k178_13 : az_cd 178 13 = some (25, .imul, 1, 0, 0, 0, [], []) := rfl
theorem k178_14 : az_cd 178 14 = some (26, .iadd, 1, 0, 0, 0, [], []) := rfl
theorem k178_15 : az_cd 178 15 = some (27, .iconst 2, 1, 0, 0, 2, [], []) := rfl
theorem k178_16 : az_cd 178 16 = some (28, .iadd, 1, 0, 0, 0, [], []) := rfl
theorem k178_17 : az_cd 178 17 = some (29, .iload_n 2, 1, 0, 0, 0, [], []) := rfl
theorem k178_18 : az_cd 178 18 = some (30, .iadd, 1, 0, 0, 0, [], []) := rfl
theorem k178_19 : az_cd 178 19 = some (31, .iaload, 1, 0, 0, 0, [], []) := rfl
theorem k178_20 : az_cd 178 20 = some (32, .invokevirtual 143, 3, 175, 1, 0, [], [966, 968, 51, 969, 34]) := rfl
theorem k178_21 : az_cd 178 21 = some (35, .goto 4, 3, 23, 0, 0, [], []) := rfl
theorem k178_22 : az_cd 178 22 = some (38, .iconst (-1), 1, 0, 0, (-1), [], []) := rfl
theorem k178_23 : az_cd 178 23 = some (39, .ireturn, 1, 0, 0, 0, [], []) := rfl
theorem k179_0 : az_cd 179 0 = some (0, .iload_n 1, 1, 0, 0, 0, [], []) := rfl
theorem k179_1 : az_cd 179 1 = some (1, .iconst 0, 1, 0, 0, 0, [], []) := rfl
theorem k179_2 : az_cd 179 2 = some (2, .bipush 23, 2, 0, 0, 23, [], []) := rfl
theorem k179_3 : az_cd 179 3 = some (4, .invokestatic 26, 3, 128, 3, 0, [], [789, 790, 51, 791]) := rfl
theorem k179_4 : az_cd 179 4 = some (7, .ifCond .ne 5, 3, 7, 0, 0, [], []) := rfl
theorem k179_5 : az_cd 179 5 = some (10, .iconst (-1), 1, 0, 0, (-1), [], []) := rfl
theorem k179_6 : az_cd 179 6 = some (11, .ireturn, 1, 0, 0, 0, [], []) := rfl
theorem k179_7 : az_cd 179 7 = some (12, .iload_n 2, 1, 0, 0, 0, [], []) := rfl
theorem k179_8 : az_cd 179 8 = some (13, .tableswitch 122 0 7 #[47, 56, 66, 80, 90, 104, 110, 116], 47, 58, 0, 0, [9, 16, 23, 31, 38, 46, 50, 54], []) := rfl
theorem k179_9 : az_cd 179 9 = some (60, .aload_n 0, 1, 0, 0, 0, [], []) := rfl
theorem k179_10 : az_cd 179 10 = some (61, .getfield 7, 3, 9, 0, 0, [], [751]) := rfl
theorem k179_11 : az_cd 179 11 = some (64, .iconst 0, 1, 0, 0, 0, [], []) := rfl
theorem k179_12 : az_cd 179 12 = some (65, .iload_n 1, 1, 0, 0, 0, [], []) := rfl
theorem k179_13 : az_cd 179 13 = some (66, .iadd, 1, 0, 0, 0, [], []) := rfl
theorem k179_14 : az_cd 179 14 = some (67, .iaload, 1, 0, 0, 0, [], []) := rfl
theorem k179_15 : az_cd 179 15 = some (68, .ireturn, 1, 0, 0, 0, [], []) := rfl
theorem k179_16 : az_cd 179 16 = some (69, .aload_n 0, 1, 0, 0, 0, [], []) := rfl
theorem k179_17 : az_cd 179 17 = some (70, .getfield 7, 3, 9, 0, 0, [], [751]) := rfl
theorem k179_18 : az_cd 179 18 = some (73, .bipush 24, 2, 0, 0, 24, [], []) := rfl
theorem k179_19 : az_cd 179 19 = some (75, .iload_n 1, 1, 0, 0, 0, [], []) := rfl
theorem k179_20 : az_cd 179 20 = some (76, .iadd, 1, 0, 0, 0, [], []) := rfl
theorem k179_21 : az_cd 179 21 = some (77, .iaload, 1, 0, 0, 0, [], []) := rfl
theorem k179_22 : az_cd 179 22 = some (78, .ireturn, 1, 0, 0, 0, [], []) := rfl
theorem k179_23 : az_cd 179 23 = some (79, .aload_n 0, 1, 0, 0, 0, [], []) := rfl
theorem k179_24 : az_cd 179 24 = some (80, .iload_n 1, 1, 0, 0, 0, [], []) := rfl
theorem k179_25 : az_cd 179 25 = some (81, .invokevirtual 146, 3, 140, 1, 0, [], [982, 984, 51, 985, 35]) := rfl
theorem k179_26 : az_cd 179 26 = some (84, .ifCond .eq 7, 3, 29, 0, 0, [], []) := rfl
theorem k179_27 : az_cd 179 27 = some (87, .iconst 1, 1, 0, 0, 1, [], []) := rfl
theorem k179_28 : az_cd 179 28 = some (88, .goto 4, 3, 30, 0, 0, [], []) := rfl
theorem k179_29 : az_cd 179 29 = some (91, .iconst 0, 1, 0, 0, 0, [], []) := rfl
theorem k179_30 : az_cd 179 30 = some (92, .ireturn, 1, 0, 0, 0, [], []) := rfl
theorem k179_31 : az_cd 179 31 = some (93, .aload_n 0, 1, 0, 0, 0, [], []) := rfl
theorem k179_32 : az_cd 179 32 = some (94, .getfield 7, 3, 9, 0, 0, [], [751]) := rfl
theorem k179_33 : az_cd 179 33 = some (97, .bipush 48, 2, 0, 0, 48, [], []) := rfl
theorem k179_34 : az_cd 179 34 = some (99, .iload_n 1, 1, 0, 0, 0, [], []) := rfl
theorem k179_35 : az_cd 179 35 = some (100, .iadd, 1, 0, 0, 0, [], []) := rfl
theorem k179_36 : az_cd 179 36 = some (101, .iaload, 1, 0, 0, 0, [], []) := rfl
theorem k179_37 : az_cd 179 37 = some (102, .ireturn, 1, 0, 0, 0, [], []) := rfl
theorem k179_38 : az_cd 179 38 = some (103, .aload_n 0, 1, 0, 0, 0, [], []) := rfl
theorem k179_39 : az_cd 179 39 = some (104, .iload_n 1, 1, 0, 0, 0, [], []) := rfl
theorem k179_40 : az_cd 179 40 = some (105, .invokevirtual 62, 3, 139, 1, 0, [], [867, 869, 51, 870, 21]) := rfl
theorem k179_41 : az_cd 179 41 = some (108, .ifCond .eq 7, 3, 44, 0, 0, [], []) := rfl
theorem k179_42 : az_cd 179 42 = some (111, .iconst 1, 1, 0, 0, 1, [], []) := rfl
theorem k179_43 : az_cd 179 43 = some (112, .goto 4, 3, 45, 0, 0, [], []) := rfl
theorem k179_44 : az_cd 179 44 = some (115, .iconst 0, 1, 0, 0, 0, [], []) := rfl
theorem k179_45 : az_cd 179 45 = some (116, .ireturn, 1, 0, 0, 0, [], []) := rfl
theorem k179_46 : az_cd 179 46 = some (117, .aload_n 0, 1, 0, 0, 0, [], []) := rfl
theorem k179_47 : az_cd 179 47 = some (118, .iload_n 1, 1, 0, 0, 0, [], []) := rfl
theorem k179_48 : az_cd 179 48 = some (119, .invokevirtual 50, 3, 135, 1, 0, [], [871, 873, 51, 874, 22]) := rfl
theorem k179_49 : az_cd 179 49 = some (122, .ireturn, 1, 0, 0, 0, [], []) := rfl
theorem k179_50 : az_cd 179 50 = some (123, .aload_n 0, 1, 0, 0, 0, [], []) := rfl
theorem k179_51 : az_cd 179 51 = some (124, .iload_n 1, 1, 0, 0, 0, [], []) := rfl
theorem k179_52 : az_cd 179 52 = some (125, .invokevirtual 53, 3, 137, 1, 0, [], [879, 881, 51, 882, 24]) := rfl
theorem k179_53 : az_cd 179 53 = some (128, .ireturn, 1, 0, 0, 0, [], []) := rfl
theorem k179_54 : az_cd 179 54 = some (129, .aload_n 0, 1, 0, 0, 0, [], []) := rfl
theorem k179_55 : az_cd 179 55 = some (130, .iload_n 1, 1, 0, 0, 0, [], []) := rfl
theorem k179_56 : az_cd 179 56 = some (131, .invokevirtual 56, 3, 138, 1, 0, [], [891, 893, 51, 894, 27]) := rfl
theorem k179_57 : az_cd 179 57 = some (134, .ireturn, 1, 0, 0, 0, [], []) := rfl
theorem k179_58 : az_cd 179 58 = some (135, .bipush (-2), 2, 0, 0, (-2), [], []) := rfl
theorem k179_59 : az_cd 179 59 = some (137, .ireturn, 1, 0, 0, 0, [], []) := rfl
theorem k180_0 : az_cd 180 0 = some (0, .iconst 0, 1, 0, 0, 0, [], []) := rfl
theorem k180_1 : az_cd 180 1 = some (1, .istore_n 2, 1, 0, 0, 0, [], []) := rfl
theorem k180_2 : az_cd 180 2 = some (2, .iconst 0, 1, 0, 0, 0, [], []) := rfl
theorem k180_3 : az_cd 180 3 = some (3, .istore_n 3, 1, 0, 0, 0, [], []) := rfl
theorem k180_4 : az_cd 180 4 = some (4, .iload_n 3, 1, 0, 0, 0, [], []) := rfl
theorem k180_5 : az_cd 180 5 = some (5, .bipush 8, 2, 0, 0, 8, [], []) := rfl
theorem k180_6 : az_cd 180 6 = some (7, .if_icmp .ge 40, 3, 31, 0, 0, [], []) := rfl
theorem k180_7 : az_cd 180 7 = some (10, .iload_n 2, 1, 0, 0, 0, [], []) := rfl
theorem k180_8 : az_cd 180 8 = some (11, .aload_n 0, 1, 0, 0, 0, [], []) := rfl
theorem k180_9 : az_cd 180 9 = some (12, .getfield 7, 3, 9, 0, 0, [], [751]) := rfl
theorem k180_10 : az_cd 180 10 = some (15, .bipush 72, 2, 0, 0, 72, [], []) := rfl
theorem k180_11 : az_cd 180 11 = some (17, .bipush 10, 2, 0, 0, 10, [], []) := rfl
theorem k180_12 : az_cd 180 12 = some (19, .iload_n 1, 1, 0, 0, 0, [], []) := rfl
theorem k180_13 : az_cd 180 13 = some (20, .imul, 1, 0, 0, 0, [], []) := rfl
theorem k180_14 : az_cd 180 14 = some (21, .iadd, 1, 0, 0, 0, [], []) := rfl
theorem k180_15 : az_cd 180 15 = some (22, .iconst 2, 1, 0, 0, 2, [], []) := rfl
theorem k180_16 : az_cd 180 16 = some (23, .iadd, 1, 0, 0, 0, [], []) := rfl
theorem k180_17 : az_cd 180 17 = some (24, .iload_n 3, 1, 0, 0, 0, [], []) := rfl
theorem k180_18 : az_cd 180 18 = some (25, .iadd, 1, 0, 0, 0, [], []) := rfl
theorem k180_19 : az_cd 180 19 = some (26, .iaload, 1, 0, 0, 0, [], []) := rfl
theorem k180_20 : az_cd 180 20 = some (27, .bipush (-5), 2, 0, 0, (-5), [], []) := rfl
theorem k180_21 : az_cd 180 21 = some (29, .if_icmp .eq 9, 3, 26, 0, 0, [], []) := rfl
theorem k180_22 : az_cd 180 22 = some (32, .iconst 1, 1, 0, 0, 1, [], []) := rfl
theorem k180_23 : az_cd 180 23 = some (33, .iload_n 3, 1, 0, 0, 0, [], []) := rfl
theorem k180_24 : az_cd 180 24 = some (34, .ishl, 1, 0, 0, 0, [], []) := rfl
theorem k180_25 : az_cd 180 25 = some (35, .goto 4, 3, 27, 0, 0, [], []) := rfl
theorem k180_26 : az_cd 180 26 = some (38, .iconst 0, 1, 0, 0, 0, [], []) := rfl
theorem k180_27 : az_cd 180 27 = some (39, .ior, 1, 0, 0, 0, [], []) := rfl
theorem k180_28 : az_cd 180 28 = some (40, .istore_n 2, 1, 0, 0, 0, [], []) := rfl
theorem k180_29 : az_cd 180 29 = some (41, .iinc 3 1, 3, 0, 0, 1, [], []) := rfl
theorem k180_30 : az_cd 180 30 = some (44, .goto (-40), 3, 4, 0, 0, [], []) := rfl
theorem k180_31 : az_cd 180 31 = some (47, .iload_n 2, 1, 0, 0, 0, [], []) := rfl
theorem k180_32 : az_cd 180 32 = some (48, .ireturn, 1, 0, 0, 0, [], []) := rfl
theorem k181_0 : az_cd 181 0 = some (0, .iload_n 1, 1, 0, 0, 0, [], []) := rfl
theorem k181_1 : az_cd 181 1 = some (1, .iconst 0, 1, 0, 0, 0, [], []) := rfl
theorem k181_2 : az_cd 181 2 = some (2, .iconst 1, 1, 0, 0, 1, [], []) := rfl
theorem k181_3 : az_cd 181 3 = some (3, .invokestatic 26, 3, 128, 3, 0, [], [789, 790, 51, 791]) := rfl
theorem k181_4 : az_cd 181 4 = some (6, .ifCond .ne 5, 3, 7, 0, 0, [], []) := rfl
theorem k181_5 : az_cd 181 5 = some (9, .iconst (-1), 1, 0, 0, (-1), [], []) := rfl
theorem k181_6 : az_cd 181 6 = some (10, .ireturn, 1, 0, 0, 0, [], []) := rfl
theorem k181_7 : az_cd 181 7 = some (11, .iload_n 2, 1, 0, 0, 0, [], []) := rfl
theorem k181_8 : az_cd 181 8 = some (12, .bipush 10, 2, 0, 0, 10, [], []) := rfl
theorem k181_9 : az_cd 181 9 = some (14, .bipush 17, 2, 0, 0, 17, [], []) := rfl
theorem k181_10 : az_cd 181 10 = some (16, .invokestatic 26, 3, 128, 3, 0, [], [789, 790, 51, 791]) := rfl
theorem k181_11 : az_cd 181 11 = some (19, .ifCond .eq 23, 3, 27, 0, 0, [], []) := rfl
theorem k181_12 : az_cd 181 12 = some (22, .aload_n 0, 1, 0, 0, 0, [], []) := rfl
theorem k181_13 : az_cd 181 13 = some (23, .getfield 7, 3, 9, 0, 0, [], [751]) := rfl
theorem k181_14 : az_cd 181 14 = some (26, .bipush 72, 2, 0, 0, 72, [], []) := rfl
theorem k181_15 : az_cd 181 15 = some (28, .bipush 10, 2, 0, 0, 10, [], []) := rfl
theorem k181_16 : az_cd 181 16 = some (30, .iload_n 1, 1, 0, 0, 0, [], []) := rfl
theorem k181_17 : az_cd 181 17 = some (31, .imul, 1, 0, 0, 0, [], []) := rfl
theorem k181_18 : az_cd 181 18 = some (32, .iadd, 1, 0, 0, 0, [], []) := rfl
theorem k181_19 : az_cd 181 19 = some (33, .iconst 2, 1, 0, 0, 2, [], []) := rfl
theorem k181_20 : az_cd 181 20 = some (34, .iadd, 1, 0, 0, 0, [], []) := rfl
theorem k181_21 : az_cd 181 21 = some (35, .iload_n 2, 1, 0, 0, 0, [], []) := rfl
theorem k181_22 : az_cd 181 22 = some (36, .iadd, 1, 0, 0, 0, [], []) := rfl
theorem k181_23 : az_cd 181 23 = some (37, .bipush 10, 2, 0, 0, 10, [], []) := rfl
theorem k181_24 : az_cd 181 24 = some (39, .isub, 1, 0, 0, 0, [], []) := rfl
theorem k181_25 : az_cd 181 25 = some (40, .iaload, 1, 0, 0, 0, [], []) := rfl
theorem k181_26 : az_cd 181 26 = some (41, .ireturn, 1, 0, 0, 0, [], []) := rfl
theorem k181_27 : az_cd 181 27 = some (42, .iload_n 2, 1, 0, 0, 0, [], []) := rfl
theorem k181_28 : az_cd 181 28 = some (43, .tableswitch 67 0 3 #[29, 29, 44, 61], 29, 54, 0, 0, [29, 29, 40, 50], []) := rfl
theorem k181_29 : az_cd 181 29 = some (72, .aload_n 0, 1, 0, 0, 0, [], []) := rfl
theorem k181_30 : az_cd 181 30 = some (73, .getfield 7, 3, 9, 0, 0, [], [751]) := rfl
theorem k181_31 : az_cd 181 31 = some (76, .bipush 72, 2, 0, 0, 72, [], []) := rfl
theorem k181_32 : az_cd 181 32 = some (78, .bipush 10, 2, 0, 0, 10, [], []) := rfl
theorem k181_33 : az_cd 181 33 = some (80, .iload_n 1, 1, 0, 0, 0, [], []) := rfl
theorem k181_34 : az_cd 181 34 = some (81, .imul, 1, 0, 0, 0, [], []) := rfl
theorem k181_35 : az_cd 181 35 = some (82, .iadd, 1, 0, 0, 0, [], []) := rfl
theorem k181_36 : az_cd 181 36 = some (83, .iload_n 2, 1, 0, 0, 0, [], []) := rfl
theorem k181_37 : az_cd 181 37 = some (84, .iadd, 1, 0, 0, 0, [], []) := rfl
theorem k181_38 : az_cd 181 38 = some (85, .iaload, 1, 0, 0, 0, [], []) := rfl
theorem k181_39 : az_cd 181 39 = some (86, .ireturn, 1, 0, 0, 0, [], []) := rfl
theorem k181_40 : az_cd 181 40 = some (87, .aload_n 0, 1, 0, 0, 0, [], []) := rfl
theorem k181_41 : az_cd 181 41 = some (88, .getfield 7, 3, 9, 0, 0, [], [751]) := rfl
theorem k181_42 : az_cd 181 42 = some (91, .bipush 92, 2, 0, 0, 92, [], []) := rfl
theorem k181_43 : az_cd 181 43 = some (93, .iaload, 1, 0, 0, 0, [], []) := rfl
theorem k181_44 : az_cd 181 44 = some (94, .iload_n 1, 1, 0, 0, 0, [], []) := rfl
theorem k181_45 : az_cd 181 45 = some (95, .if_icmp .ne 7, 3, 48, 0, 0, [], []) := rfl
theorem k181_46 : az_cd 181 46 = some (98, .iconst 1, 1, 0, 0, 1, [], []) := rfl
theorem k181_47 : az_cd 181 47 = some (99, .goto 4, 3, 49, 0, 0, [], []) := rfl
theorem k181_48 : az_cd 181 48 = some (102, .iconst 0, 1, 0, 0, 0, [], []) := rfl
theorem k181_49 : az_cd 181 49 = some (103, .ireturn, 1, 0, 0, 0, [], []) := rfl
theorem k181_50 : az_cd 181 50 = some (104, .aload_n 0, 1, 0, 0, 0, [], []) := rfl
theorem k181_51 : az_cd 181 51 = some (105, .iload_n 1, 1, 0, 0, 0, [], []) := rfl
theorem k181_52 : az_cd 181 52 = some (106, .invokevirtual 149, 3, 180, 1, 0, [], [990, 992, 51, 993, 36]) := rfl
theorem k181_53 : az_cd 181 53 = some (109, .ireturn, 1, 0, 0, 0, [], []) := rfl
theorem k181_54 : az_cd 181 54 = some (110, .bipush (-2), 2, 0, 0, (-2), [], []) := rfl
theorem k181_55 : az_cd 181 55 = some (112, .ireturn, 1, 0, 0, 0, [], []) := rfl
theorem k182_0 : az_cd 182 0 = some (0, .iload_n 1, 1, 0, 0, 0, [], []) := rfl
theorem k182_1 : az_cd 182 1 = some (1, .ifCond .lt 12, 3, 7, 0, 0, [], []) := rfl
theorem k182_2 : az_cd 182 2 = some (4, .iload_n 2, 1, 0, 0, 0, [], []) := rfl
theorem k182_3 : az_cd 182 3 = some (5, .iconst 0, 1, 0, 0, 0, [], []) := rfl
theorem k182_4 : az_cd 182 4 = some (6, .iconst 1, 1, 0, 0, 1, [], []) := rfl
theorem k182_5 : az_cd 182 5 = some (7, .invokestatic 26, 3, 128, 3, 0, [], [789, 790, 51, 791]) := rfl
theorem k182_6 : az_cd 182 6 = some (10, .ifCond .ne 6, 3, 9, 0, 0, [], []) := rfl
theorem k182_7 : az_cd 182 7 = some (13, .bipush (-2), 2, 0, 0, (-2), [], []) := rfl
theorem k182_8 : az_cd 182 8 = some (15, .ireturn, 1, 0, 0, 0, [], []) := rfl
theorem k182_9 : az_cd 182 9 = some (16, .iload_n 1, 1, 0, 0, 0, [], []) := rfl
theorem k182_10 : az_cd 182 10 = some (17, .aload_n 0, 1, 0, 0, 0, [], []) := rfl
theorem k182_11 : az_cd 182 11 = some (18, .invokevirtual 108, 3, 151, 0, 0, [], [843, 845, 51, 846, 16]) := rfl
theorem k182_12 : az_cd 182 12 = some (21, .if_icmp .lt 6, 3, 15, 0, 0, [], []) := rfl
theorem k182_13 : az_cd 182 13 = some (24, .bipush (-5), 2, 0, 0, (-5), [], []) := rfl
theorem k182_14 : az_cd 182 14 = some (26, .ireturn, 1, 0, 0, 0, [], []) := rfl
theorem k182_15 : az_cd 182 15 = some (27, .aload_n 0, 1, 0, 0, 0, [], []) := rfl
theorem k182_16 : az_cd 182 16 = some (28, .aload_n 0, 1, 0, 0, 0, [], []) := rfl
theorem k182_17 : az_cd 182 17 = some (29, .getfield 7, 3, 9, 0, 0, [], [751]) := rfl
theorem k182_18 : az_cd 182 18 = some (32, .bipush 102, 2, 0, 0, 102, [], []) := rfl
theorem k182_19 : az_cd 182 19 = some (34, .iaload, 1, 0, 0, 0, [], []) := rfl
theorem k182_20 : az_cd 182 20 = some (35, .iload_n 1, 1, 0, 0, 0, [], []) := rfl
theorem k182_21 : az_cd 182 21 = some (36, .iadd, 1, 0, 0, 0, [], []) := rfl
theorem k182_22 : az_cd 182 22 = some (37, .invokevirtual 91, 3, 152, 1, 0, [], [859, 861, 51, 862, 19]) := rfl
theorem k182_23 : az_cd 182 23 = some (40, .istore_n 3, 1, 0, 0, 0, [], []) := rfl
theorem k182_24 : az_cd 182 24 = some (41, .iload_n 2, 1, 0, 0, 0, [], []) := rfl
theorem k182_25 : az_cd 182 25 = some (42, .iconst 1, 1, 0, 0, 1, [], []) := rfl
theorem k182_26 : az_cd 182 26 = some (43, .if_icmp .ne 7, 3, 29, 0, 0, [], []) := rfl
theorem k182_27 : az_cd 182 27 = some (46, .iload_n 3, 1, 0, 0, 0, [], []) := rfl
theorem k182_28 : az_cd 182 28 = some (47, .goto 34, 3, 46, 0, 0, [], []) := rfl
theorem k182_29 : az_cd 182 29 = some (50, .iload_n 3, 1, 0, 0, 0, [], []) := rfl
theorem k182_30 : az_cd 182 30 = some (51, .bipush (-5), 2, 0, 0, (-5), [], []) := rfl
theorem k182_31 : az_cd 182 31 = some (53, .if_icmp .eq 7, 3, 34, 0, 0, [], []) := rfl
theorem k182_32 : az_cd 182 32 = some (56, .iconst 0, 1, 0, 0, 0, [], []) := rfl
theorem k182_33 : az_cd 182 33 = some (57, .goto 24, 3, 46, 0, 0, [], []) := rfl
theorem k182_34 : az_cd 182 34 = some (60, .aload_n 0, 1, 0, 0, 0, [], []) := rfl
theorem k182_35 : az_cd 182 35 = some (61, .getfield 7, 3, 9, 0, 0, [], [751]) := rfl
theorem k182_36 : az_cd 182 36 = some (64, .bipush 102, 2, 0, 0, 102, [], []) := rfl
theorem k182_37 : az_cd 182 37 = some (66, .iaload, 1, 0, 0, 0, [], []) := rfl
theorem k182_38 : az_cd 182 38 = some (67, .iload_n 1, 1, 0, 0, 0, [], []) := rfl
theorem k182_39 : az_cd 182 39 = some (68, .iadd, 1, 0, 0, 0, [], []) := rfl
theorem k182_40 : az_cd 182 40 = some (69, .aload_n 0, 1, 0, 0, 0, [], []) := rfl
theorem k182_41 : az_cd 182 41 = some (70, .invokevirtual 88, 3, 150, 0, 0, [], [847, 849, 51, 850, 17]) := rfl
theorem k182_42 : az_cd 182 42 = some (73, .if_icmp .ne 7, 3, 45, 0, 0, [], []) := rfl
theorem k182_43 : az_cd 182 43 = some (76, .iconst 1, 1, 0, 0, 1, [], []) := rfl
theorem k182_44 : az_cd 182 44 = some (77, .goto 4, 3, 46, 0, 0, [], []) := rfl
theorem k182_45 : az_cd 182 45 = some (80, .iconst 2, 1, 0, 0, 2, [], []) := rfl
theorem k182_46 : az_cd 182 46 = some (81, .ireturn, 1, 0, 0, 0, [], []) := rfl
theorem k183_0 : az_cd 183 0 = some (0, .aload_n 0, 1, 0, 0, 0, [], []) := rfl
theorem k183_1 : az_cd 183 1 = some (1, .iload_n 1, 1, 0, 0, 0, [], []) := rfl
theorem k183_2 : az_cd 183 2 = some (2, .invokevirtual 42, 3, 134, 1, 0, [], [887, 889, 51, 890, 26]) := rfl
theorem k183_3 : az_cd 183 3 = some (5, .ifCond .eq 20, 3, 15, 0, 0, [], []) := rfl
theorem k183_4 : az_cd 183 4 = some (8, .aload_n 0, 1, 0, 0, 0, [], []) := rfl
theorem k183_5 : az_cd 183 5 = some (9, .getfield 7, 3, 9, 0, 0, [], [751]) := rfl
theorem k183_6 : az_cd 183 6 = some (12, .bipush 111, 2, 0, 0, 111, [], []) := rfl
theorem k183_7 : az_cd 183 7 = some (14, .bipush 10, 2, 0, 0, 10, [], []) := rfl
theorem k183_8 : az_cd 183 8 = some (16, .iload_n 1, 1, 0, 0, 0, [], []) := rfl
theorem k183_9 : az_cd 183 9 = some (17, .imul, 1, 0, 0, 0, [], []) := rfl
theorem k183_10 : az_cd 183 10 = some (18, .iadd, 1, 0, 0, 0, [], []) := rfl
theorem k183_11 : az_cd 183 11 = some (19, .iconst 1, 1, 0, 0, 1, [], []) := rfl
theorem k183_12 : az_cd 183 12 = some (20, .iadd, 1, 0, 0, 0, [], []) := rfl
theorem k183_13 : az_cd 183 13 = some (21, .iaload, 1, 0, 0, 0, [], []) := rfl
theorem k183_14 : az_cd 183 14 = some (22, .goto 4, 3, 16, 0, 0, [], []) := rfl
theorem k183_15 : az_cd 183 15 = some (25, .iconst (-1), 1, 0, 0, (-1), [], []) := rfl
theorem k183_16 : az_cd 183 16 = some (26, .ireturn, 1, 0, 0, 0, [], []) := rfl
theorem k184_0 : az_cd 184 0 = some (0, .iconst 0, 1, 0, 0, 0, [], []) := rfl
theorem k184_1 : az_cd 184 1 = some (1, .istore_n 1, 1, 0, 0, 0, [], []) := rfl
theorem k184_2 : az_cd 184 2 = some (2, .iconst 0, 1, 0, 0, 0, [], []) := rfl
theorem k184_3 : az_cd 184 3 = some (3, .istore_n 2, 1, 0, 0, 0, [], []) := rfl
theorem k184_4 : az_cd 184 4 = some (4, .iload_n 2, 1, 0, 0, 0, [], []) := rfl
theorem k184_5 : az_cd 184 5 = some (5, .bipush 24, 2, 0, 0, 24, [], []) := rfl
theorem k184_6 : az_cd 184 6 = some (7, .if_icmp .ge 21, 3, 18, 0, 0, [], []) := rfl
theorem k184_7 : az_cd 184 7 = some (10, .iload_n 1, 1, 0, 0, 0, [], []) := rfl
theorem k184_8 : az_cd 184 8 = some (11, .aload_n 0, 1, 0, 0, 0, [], []) := rfl
theorem k184_9 : az_cd 184 9 = some (12, .getfield 7, 3, 9, 0, 0, [], [751]) := rfl
theorem k184_10 : az_cd 184 10 = some (15, .bipush 48, 2, 0, 0, 48, [], []) := rfl
theorem k184_11 : az_cd 184 11 = some (17, .iload_n 2, 1, 0, 0, 0, [], []) := rfl
theorem k184_12 : az_cd 184 12 = some (18, .iadd, 1, 0, 0, 0, [], []) := rfl
theorem k184_13 : az_cd 184 13 = some (19, .iaload, 1, 0, 0, 0, [], []) := rfl
theorem k184_14 : az_cd 184 14 = some (20, .iadd, 1, 0, 0, 0, [], []) := rfl
theorem k184_15 : az_cd 184 15 = some (21, .istore_n 1, 1, 0, 0, 0, [], []) := rfl
theorem k184_16 : az_cd 184 16 = some (22, .iinc 2 1, 3, 0, 0, 1, [], []) := rfl
theorem k184_17 : az_cd 184 17 = some (25, .goto (-21), 3, 4, 0, 0, [], []) := rfl
theorem k184_18 : az_cd 184 18 = some (28, .iload_n 1, 1, 0, 0, 0, [], []) := rfl
theorem k184_19 : az_cd 184 19 = some (29, .ireturn, 1, 0, 0, 0, [], []) := rfl
theorem k185_0 : az_cd 185 0 = some (0, .iconst 0, 1, 0, 0, 0, [], []) := rfl
theorem k185_1 : az_cd 185 1 = some (1, .istore_n 1, 1, 0, 0, 0, [], []) := rfl
theorem k185_2 : az_cd 185 2 = some (2, .iconst 0, 1, 0, 0, 0, [], []) := rfl
theorem k185_3 : az_cd 185 3 = some (3, .istore_n 2, 1, 0, 0, 0, [], []) := rfl
theorem k185_4 : az_cd 185 4 = some (4, .iload_n 2, 1, 0, 0, 0, [], []) := rfl
theorem k185_5 : az_cd 185 5 = some (5, .bipush 24, 2, 0, 0, 24, [], []) := rfl
theorem k185_6 : az_cd 185 6 = some (7, .if_icmp .ge 36, 3, 26, 0, 0, [], []) := rfl
theorem k185_7 : az_cd 185 7 = some (10, .aload_n 0, 1, 0, 0, 0, [], []) := rfl
theorem k185_8 : az_cd 185 8 = some (11, .getfield 7, 3, 9, 0, 0, [], [751]) := rfl
theorem k185_9 : az_cd 185 9 = some (14, .bipush 48, 2, 0, 0, 48, [], []) := rfl
theorem k185_10 : az_cd 185 10 = some (16, .iload_n 2, 1, 0, 0, 0, [], []) := rfl
theorem k185_11 : az_cd 185 11 = some (17, .iadd, 1, 0, 0, 0, [], []) := rfl
theorem k185_12 : az_cd 185 12 = some (18, .iaload, 1, 0, 0, 0, [], []) := rfl
theorem k185_13 : az_cd 185 13 = some (19, .iload_n 1, 1, 0, 0, 0, [], []) := rfl
theorem k185_14 : az_cd 185 14 = some (20, .if_icmp .le 15, 3, 22, 0, 0, [], []) := rfl
theorem k185_15 : az_cd 185 15 = some (23, .aload_n 0, 1, 0, 0, 0, [], []) := rfl
theorem k185_16 : az_cd 185 16 = some (24, .getfield 7, 3, 9, 0, 0, [], [751]) := rfl
theorem k185_17 : az_cd 185 17 = some (27, .bipush 48, 2, 0, 0, 48, [], []) := rfl
theorem k185_18 : az_cd 185 18 = some (29, .iload_n 2, 1, 0, 0, 0, [], []) := rfl
theorem k185_19 : az_cd 185 19 = some (30, .iadd, 1, 0, 0, 0, [], []) := rfl
theorem k185_20 : az_cd 185 20 = some (31, .iaload, 1, 0, 0, 0, [], []) := rfl
theorem k185_21 : az_cd 185 21 = some (32, .goto 4, 3, 23, 0, 0, [], []) := rfl
theorem k185_22 : az_cd 185 22 = some (35, .iload_n 1, 1, 0, 0, 0, [], []) := rfl
theorem k185_23 : az_cd 185 23 = some (36, .istore_n 1, 1, 0, 0, 0, [], []) := rfl
theorem k185_24 : az_cd 185 24 = some (37, .iinc 2 1, 3, 0, 0, 1, [], []) := rfl
theorem k185_25 : az_cd 185 25 = some (40, .goto (-36), 3, 4, 0, 0, [], []) := rfl
theorem k185_26 : az_cd 185 26 = some (43, .iload_n 1, 1, 0, 0, 0, [], []) := rfl
theorem k185_27 : az_cd 185 27 = some (44, .ireturn, 1, 0, 0, 0, [], []) := rfl
theorem k186_0 : az_cd 186 0 = some (0, .aload_n 0, 1, 0, 0, 0, [], []) := rfl
theorem k186_1 : az_cd 186 1 = some (1, .invokevirtual 152, 3, 185, 0, 0, [], [1006, 1008, 51, 1009, 37]) := rfl
theorem k186_2 : az_cd 186 2 = some (4, .i2d, 1, 0, 0, 0, [], []) := rfl
theorem k186_3 : az_cd 186 3 = some (5, .aload_n 0, 1, 0, 0, 0, [], []) := rfl
theorem k186_4 : az_cd 186 4 = some (6, .invokevirtual 155, 3, 184, 0, 0, [], [1010, 1012, 51, 1013, 38]) := rfl
theorem k186_5 : az_cd 186 5 = some (9, .i2d, 1, 0, 0, 0, [], []) := rfl
theorem k186_6 : az_cd 186 6 = some (10, .ldc2_w 158, 3, 4627448617123184640, 2, 0, [], [1014]) := rfl
theorem k186_7 : az_cd 186 7 = some (13, .ddiv, 1, 0, 0, 0, [], []) := rfl
theorem k186_8 : az_cd 186 8 = some (14, .dsub, 1, 0, 0, 0, [], []) := rfl
theorem k186_9 : az_cd 186 9 = some (15, .dreturn, 1, 0, 0, 0, [], []) := rfl
theorem k187_0 : az_cd 187 0 = some (0, .aload_n 0, 1, 0, 0, 0, [], []) := rfl
theorem k187_1 : az_cd 187 1 = some (1, .invokevirtual 152, 3, 185, 0, 0, [], [1006, 1008, 51, 1009, 37]) := rfl
theorem k187_2 : az_cd 187 2 = some (4, .i2d, 1, 0, 0, 0, [], []) := rfl
theorem k187_3 : az_cd 187 3 = some (5, .aload_n 0, 1, 0, 0, 0, [], []) := rfl
theorem k187_4 : az_cd 187 4 = some (6, .invokevirtual 155, 3, 184, 0, 0, [], [1010, 1012, 51, 1013, 38]) := rfl
theorem k187_5 : az_cd 187 5 = some (9, .i2d, 1, 0, 0, 0, [], []) := rfl
theorem k187_6 : az_cd 187 6 = some (10, .ldc2_w 158, 3, 4627448617123184640, 2, 0, [], [1014]) := rfl
theorem k187_7 : az_cd 187 7 = some (13, .ddiv, 1, 0, 0, 0, [], []) := rfl
theorem k187_8 : az_cd 187 8 = some (14, .dsub, 1, 0, 0, 0, [], []) := rfl
theorem k187_9 : az_cd 187 9 = some (15, .d2f, 1, 0, 0, 0, [], []) := rfl
theorem k187_10 : az_cd 187 10 = some (16, .invokestatic 160, 3, 193, 1, 0, [], [1019, 1020, 53, 1021]) := rfl
theorem k187_11 : az_cd 187 11 = some (19, .ireturn, 1, 0, 0, 0, [], []) := rfl
theorem k188_0 : az_cd 188 0 = some (0, .iconst 0, 1, 0, 0, 0, [], []) := rfl
theorem k188_1 : az_cd 188 1 = some (1, .istore_n 1, 1, 0, 0, 0, [], []) := rfl
theorem k188_2 : az_cd 188 2 = some (2, .iconst 0, 1, 0, 0, 0, [], []) := rfl
theorem k188_3 : az_cd 188 3 = some (3, .istore_n 2, 1, 0, 0, 0, [], []) := rfl
theorem k188_4 : az_cd 188 4 = some (4, .iload_n 2, 1, 0, 0, 0, [], []) := rfl
theorem k188_5 : az_cd 188 5 = some (5, .bipush 8, 2, 0, 0, 8, [], []) := rfl
theorem k188_6 : az_cd 188 6 = some (7, .if_icmp .ge 17, 3, 17, 0, 0, [], []) := rfl
theorem k188_7 : az_cd 188 7 = some (10, .iload_n 1, 1, 0, 0, 0, [], []) := rfl
theorem k188_8 : az_cd 188 8 = some (11, .iload_n 0, 1, 0, 0, 0, [], []) := rfl
theorem k188_9 : az_cd 188 9 = some (12, .iload_n 2, 1, 0, 0, 0, [], []) := rfl
theorem k188_10 : az_cd 188 10 = some (13, .ishr, 1, 0, 0, 0, [], []) := rfl
theorem k188_11 : az_cd 188 11 = some (14, .iconst 1, 1, 0, 0, 1, [], []) := rfl
theorem k188_12 : az_cd 188 12 = some (15, .iand, 1, 0, 0, 0, [], []) := rfl
theorem k188_13 : az_cd 188 13 = some (16, .iadd, 1, 0, 0, 0, [], []) := rfl
theorem k188_14 : az_cd 188 14 = some (17, .istore_n 1, 1, 0, 0, 0, [], []) := rfl
theorem k188_15 : az_cd 188 15 = some (18, .iinc 2 1, 3, 0, 0, 1, [], []) := rfl
theorem k188_16 : az_cd 188 16 = some (21, .goto (-17), 3, 4, 0, 0, [], []) := rfl
theorem k188_17 : az_cd 188 17 = some (24, .iload_n 1, 1, 0, 0, 0, [], []) := rfl
theorem k188_18 : az_cd 188 18 = some (25, .ireturn, 1, 0, 0, 0, [], []) := rfl
theorem k189_0 : az_cd 189 0 = some (0, .iconst 0, 1, 0, 0, 0, [], []) := rfl
theorem k189_1 : az_cd 189 1 = some (1, .istore_n 2, 1, 0, 0, 0, [], []) := rfl
theorem k189_2 : az_cd 189 2 = some (2, .iconst 0, 1, 0, 0, 0, [], []) := rfl
theorem k189_3 : az_cd 189 3 = some (3, .istore_n 3, 1, 0, 0, 0, [], []) := rfl
theorem k189_4 : az_cd 189 4 = some (4, .iload_n 3, 1, 0, 0, 0, [], []) := rfl
theorem k189_5 : az_cd 189 5 = some (5, .bipush 24, 2, 0, 0, 24, [], []) := rfl
theorem k189_6 : az_cd 189 6 = some (7, .if_icmp .ge 86, 3, 50, 0, 0, [], []) := rfl
theorem k189_7 : az_cd 189 7 = some (10, .aload_n 0, 1, 0, 0, 0, [], []) := rfl
theorem k189_8 : az_cd 189 8 = some (11, .iload_n 3, 1, 0, 0, 0, [], []) := rfl
theorem k189_9 : az_cd 189 9 = some (12, .invokevirtual 53, 3, 137, 1, 0, [], [879, 881, 51, 882, 24]) := rfl
theorem k189_10 : az_cd 189 10 = some (15, .ifCond .le 27, 3, 23, 0, 0, [], []) := rfl
theorem k189_11 : az_cd 189 11 = some (18, .aload_n 0, 1, 0, 0, 0, [], []) := rfl
theorem k189_12 : az_cd 189 12 = some (19, .iload_n 3, 1, 0, 0, 0, [], []) := rfl
theorem k189_13 : az_cd 189 13 = some (20, .invokevirtual 50, 3, 135, 1, 0, [], [871, 873, 51, 874, 22]) := rfl
theorem k189_14 : az_cd 189 14 = some (23, .bipush (-5), 2, 0, 0, (-5), [], []) := rfl
theorem k189_15 : az_cd 189 15 = some (25, .if_icmp .ne 17, 3, 23, 0, 0, [], []) := rfl
theorem k189_16 : az_cd 189 16 = some (28, .aload_n 0, 1, 0, 0, 0, [], []) := rfl
theorem k189_17 : az_cd 189 17 = some (29, .iload_n 3, 1, 0, 0, 0, [], []) := rfl
theorem k189_18 : az_cd 189 18 = some (30, .invokevirtual 56, 3, 138, 1, 0, [], [891, 893, 51, 894, 27]) := rfl
theorem k189_19 : az_cd 189 19 = some (33, .bipush (-5), 2, 0, 0, (-5), [], []) := rfl
theorem k189_20 : az_cd 189 20 = some (35, .if_icmp .ne 7, 3, 23, 0, 0, [], []) := rfl
theorem k189_21 : az_cd 189 21 = some (38, .iconst 1, 1, 0, 0, 1, [], []) := rfl
theorem k189_22 : az_cd 189 22 = some (39, .goto 4, 3, 24, 0, 0, [], []) := rfl
theorem k189_23 : az_cd 189 23 = some (42, .iconst 0, 1, 0, 0, 0, [], []) := rfl
theorem k189_24 : az_cd 189 24 = some (43, .istore 4, 2, 0, 0, 0, [], []) := rfl
theorem k189_25 : az_cd 189 25 = some (45, .iload_n 1, 1, 0, 0, 0, [], []) := rfl
theorem k189_26 : az_cd 189 26 = some (46, .ifCond .ne 11, 3, 31, 0, 0, [], []) := rfl
theorem k189_27 : az_cd 189 27 = some (49, .aload_n 0, 1, 0, 0, 0, [], []) := rfl
theorem k189_28 : az_cd 189 28 = some (50, .iload_n 3, 1, 0, 0, 0, [], []) := rfl
theorem k189_29 : az_cd 189 29 = some (51, .invokevirtual 62, 3, 139, 1, 0, [], [867, 869, 51, 870, 21]) := rfl
theorem k189_30 : az_cd 189 30 = some (54, .goto 18, 3, 39, 0, 0, [], []) := rfl
theorem k189_31 : az_cd 189 31 = some (57, .iload_n 1, 1, 0, 0, 0, [], []) := rfl
theorem k189_32 : az_cd 189 32 = some (58, .iconst 1, 1, 0, 0, 1, [], []) := rfl
theorem k189_33 : az_cd 189 33 = some (59, .if_icmp .ne 11, 3, 38, 0, 0, [], []) := rfl
theorem k189_34 : az_cd 189 34 = some (62, .aload_n 0, 1, 0, 0, 0, [], []) := rfl
theorem k189_35 : az_cd 189 35 = some (63, .iload_n 3, 1, 0, 0, 0, [], []) := rfl
theorem k189_36 : az_cd 189 36 = some (64, .invokevirtual 146, 3, 140, 1, 0, [], [982, 984, 51, 985, 35]) := rfl
theorem k189_37 : az_cd 189 37 = some (67, .goto 5, 3, 39, 0, 0, [], []) := rfl
theorem k189_38 : az_cd 189 38 = some (70, .iload 4, 2, 0, 0, 0, [], []) := rfl
theorem k189_39 : az_cd 189 39 = some (72, .istore 5, 2, 0, 0, 0, [], []) := rfl
theorem k189_40 : az_cd 189 40 = some (74, .iload_n 2, 1, 0, 0, 0, [], []) := rfl
theorem k189_41 : az_cd 189 41 = some (75, .iload 5, 2, 0, 0, 0, [], []) := rfl
theorem k189_42 : az_cd 189 42 = some (77, .ifCond .eq 7, 3, 45, 0, 0, [], []) := rfl
theorem k189_43 : az_cd 189 43 = some (80, .iconst 1, 1, 0, 0, 1, [], []) := rfl
theorem k189_44 : az_cd 189 44 = some (81, .goto 4, 3, 46, 0, 0, [], []) := rfl
theorem k189_45 : az_cd 189 45 = some (84, .iconst 0, 1, 0, 0, 0, [], []) := rfl
theorem k189_46 : az_cd 189 46 = some (85, .iadd, 1, 0, 0, 0, [], []) := rfl
theorem k189_47 : az_cd 189 47 = some (86, .istore_n 2, 1, 0, 0, 0, [], []) := rfl
theorem k189_48 : az_cd 189 48 = some (87, .iinc 3 1, 3, 0, 0, 1, [], []) := rfl
theorem k189_49 : az_cd 189 49 = some (90, .goto (-86), 3, 4, 0, 0, [], []) := rfl
theorem k189_50 : az_cd 189 50 = some (93, .iload_n 2, 1, 0, 0, 0, [], []) := rfl
theorem k189_51 : az_cd 189 51 = some (94, .ireturn, 1, 0, 0, 0, [], []) := rfl
theorem k190_0 : az_cd 190 0 = some (0, .iconst 0, 1, 0, 0, 0, [], []) := rfl
theorem k190_1 : az_cd 190 1 = some (1, .istore_n 1, 1, 0, 0, 0, [], []) := rfl
theorem k190_2 : az_cd 190 2 = some (2, .iconst 0, 1, 0, 0, 0, [], []) := rfl
theorem k190_3 : az_cd 190 3 = some (3, .istore_n 2, 1, 0, 0, 0, [], []) := rfl
theorem k190_4 : az_cd 190 4 = some (4, .iload_n 2, 1, 0, 0, 0, [], []) := rfl
theorem k190_5 : az_cd 190 5 = some (5, .aload_n 0, 1, 0, 0, 0, [], []) := rfl
theorem k190_6 : az_cd 190 6 = some (6, .invokevirtual 108, 3, 151, 0, 0, [], [843, 845, 51, 846, 16]) := rfl
theorem k190_7 : az_cd 190 7 = some (9, .if_icmp .ge 35, 3, 26, 0, 0, [], []) := rfl
theorem k190_8 : az_cd 190 8 = some (12, .iload_n 1, 1, 0, 0, 0, [], []) := rfl
theorem k190_9 : az_cd 190 9 = some (13, .aload_n 0, 1, 0, 0, 0, [], []) := rfl
theorem k190_10 : az_cd 190 10 = some (14, .aload_n 0, 1, 0, 0, 0, [], []) := rfl
theorem k190_11 : az_cd 190 11 = some (15, .getfield 7, 3, 9, 0, 0, [], [751]) := rfl
theorem k190_12 : az_cd 190 12 = some (18, .bipush 102, 2, 0, 0, 102, [], []) := rfl
theorem k190_13 : az_cd 190 13 = some (20, .iaload, 1, 0, 0, 0, [], []) := rfl
theorem k190_14 : az_cd 190 14 = some (21, .iload_n 2, 1, 0, 0, 0, [], []) := rfl
theorem k190_15 : az_cd 190 15 = some (22, .iadd, 1, 0, 0, 0, [], []) := rfl
theorem k190_16 : az_cd 190 16 = some (23, .invokevirtual 91, 3, 152, 1, 0, [], [859, 861, 51, 862, 19]) := rfl
theorem k190_17 : az_cd 190 17 = some (26, .bipush (-5), 2, 0, 0, (-5), [], []) := rfl
theorem k190_18 : az_cd 190 18 = some (28, .if_icmp .eq 7, 3, 21, 0, 0, [], []) := rfl
theorem k190_19 : az_cd 190 19 = some (31, .iconst 1, 1, 0, 0, 1, [], []) := rfl
theorem k190_20 : az_cd 190 20 = some (32, .goto 4, 3, 22, 0, 0, [], []) := rfl
theorem k190_21 : az_cd 190 21 = some (35, .iconst 0, 1, 0, 0, 0, [], []) := rfl
theorem k190_22 : az_cd 190 22 = some (36, .iadd, 1, 0, 0, 0, [], []) := rfl
theorem k190_23 : az_cd 190 23 = some (37, .istore_n 1, 1, 0, 0, 0, [], []) := rfl
theorem k190_24 : az_cd 190 24 = some (38, .iinc 2 1, 3, 0, 0, 1, [], []) := rfl
theorem k190_25 : az_cd 190 25 = some (41, .goto (-37), 3, 4, 0, 0, [], []) := rfl
theorem k190_26 : az_cd 190 26 = some (44, .iload_n 1, 1, 0, 0, 0, [], []) := rfl
theorem k190_27 : az_cd 190 27 = some (45, .ireturn, 1, 0, 0, 0, [], []) := rfl
theorem k191_0 : az_cd 191 0 = some (0, .iload_n 1, 1, 0, 0, 0, [], []) := rfl
theorem k191_1 : az_cd 191 1 = some (1, .tableswitch 196 0 16 #[83, 89, 97, 112, 117, 122, 130, 136, 142, 147, 156, 161, 166, 172, 181, 186, 191], 83, 70, 0, 0, [2, 6, 11, 19, 22, 25, 30, 34, 38, 41, 46, 49, 52, 56, 61, 64, 67], []) := rfl
theorem k191_2 : az_cd 191 2 = some (84, .aload_n 0, 1, 0, 0, 0, [], []) := rfl
theorem k191_3 : az_cd 191 3 = some (85, .iconst 0, 1, 0, 0, 0, [], []) := rfl
theorem k191_4 : az_cd 191 4 = some (86, .invokevirtual 38, 3, 133, 1, 0, [], [875, 877, 51, 878, 23]) := rfl
theorem k191_5 : az_cd 191 5 = some (89, .ireturn, 1, 0, 0, 0, [], []) := rfl
theorem k191_6 : az_cd 191 6 = some (90, .aload_n 0, 1, 0, 0, 0, [], []) := rfl
theorem k191_7 : az_cd 191 7 = some (91, .getfield 7, 3, 9, 0, 0, [], [751]) := rfl
theorem k191_8 : az_cd 191 8 = some (94, .bipush 92, 2, 0, 0, 92, [], []) := rfl
theorem k191_9 : az_cd 191 9 = some (96, .iaload, 1, 0, 0, 0, [], []) := rfl
theorem k191_10 : az_cd 191 10 = some (97, .ireturn, 1, 0, 0, 0, [], []) := rfl
theorem k191_11 : az_cd 191 11 = some (98, .aload_n 0, 1, 0, 0, 0, [], []) := rfl
theorem k191_12 : az_cd 191 12 = some (99, .aload_n 0, 1, 0, 0, 0, [], []) := rfl
theorem k191_13 : az_cd 191 13 = some (100, .getfield 7, 3, 9, 0, 0, [], [751]) := rfl
theorem k191_14 : az_cd 191 14 = some (103, .bipush 92, 2, 0, 0, 92, [], []) := rfl
theorem k191_15 : az_cd 191 15 = some (105, .iaload, 1, 0, 0, 0, [], []) := rfl
theorem k191_16 : az_cd 191 16 = some (106, .invokevirtual 149, 3, 180, 1, 0, [], [990, 992, 51, 993, 36]) := rfl
theorem k191_17 : az_cd 191 17 = some (109, .invokestatic 166, 3, 188, 1, 0, [], [1033, 1034, 51, 1035]) := rfl
theorem k191_18 : az_cd 191 18 = some (112, .ireturn, 1, 0, 0, 0, [], []) := rfl
theorem k191_19 : az_cd 191 19 = some (113, .aload_n 0, 1, 0, 0, 0, [], []) := rfl
theorem k191_20 : az_cd 191 20 = some (114, .invokevirtual 68, 3, 143, 0, 0, [], [803, 805, 51, 806, 10]) := rfl
theorem k191_21 : az_cd 191 21 = some (117, .ireturn, 1, 0, 0, 0, [], []) := rfl
theorem k191_22 : az_cd 191 22 = some (118, .aload_n 0, 1, 0, 0, 0, [], []) := rfl
theorem k191_23 : az_cd 191 23 = some (119, .invokevirtual 108, 3, 151, 0, 0, [], [843, 845, 51, 846, 16]) := rfl
theorem k191_24 : az_cd 191 24 = some (122, .ireturn, 1, 0, 0, 0, [], []) := rfl
theorem k191_25 : az_cd 191 25 = some (123, .aload_n 0, 1, 0, 0, 0, [], []) := rfl
theorem k191_26 : az_cd 191 26 = some (124, .getfield 7, 3, 9, 0, 0, [], [751]) := rfl
theorem k191_27 : az_cd 191 27 = some (127, .bipush 102, 2, 0, 0, 102, [], []) := rfl
theorem k191_28 : az_cd 191 28 = some (129, .iaload, 1, 0, 0, 0, [], []) := rfl
theorem k191_29 : az_cd 191 29 = some (130, .ireturn, 1, 0, 0, 0, [], []) := rfl
theorem k191_30 : az_cd 191 30 = some (131, .aload_n 0, 1, 0, 0, 0, [], []) := rfl
theorem k191_31 : az_cd 191 31 = some (132, .iconst 0, 1, 0, 0, 0, [], []) := rfl
theorem k191_32 : az_cd 191 32 = some (133, .invokevirtual 169, 3, 189, 1, 0, [], [1036, 1038, 51, 1039, 39]) := rfl
theorem k191_33 : az_cd 191 33 = some (136, .ireturn, 1, 0, 0, 0, [], []) := rfl
theorem k191_34 : az_cd 191 34 = some (137, .aload_n 0, 1, 0, 0, 0, [], []) := rfl
theorem k191_35 : az_cd 191 35 = some (138, .iconst 1, 1, 0, 0, 1, [], []) := rfl
theorem k191_36 : az_cd 191 36 = some (139, .invokevirtual 169, 3, 189, 1, 0, [], [1036, 1038, 51, 1039, 39]) := rfl
theorem k191_37 : az_cd 191 37 = some (142, .ireturn, 1, 0, 0, 0, [], []) := rfl
theorem k191_38 : az_cd 191 38 = some (143, .aload_n 0, 1, 0, 0, 0, [], []) := rfl
theorem k191_39 : az_cd 191 39 = some (144, .invokevirtual 121, 3, 163, 0, 0, [], [934, 936, 51, 937, 33]) := rfl
theorem k191_40 : az_cd 191 40 = some (147, .ireturn, 1, 0, 0, 0, [], []) := rfl
theorem k191_41 : az_cd 191 41 = some (148, .aload_n 0, 1, 0, 0, 0, [], []) := rfl
theorem k191_42 : az_cd 191 42 = some (149, .getfield 7, 3, 9, 0, 0, [], [751]) := rfl
theorem k191_43 : az_cd 191 43 = some (152, .sipush 151, 3, 0, 0, 151, [], []) := rfl
theorem k191_44 : az_cd 191 44 = some (155, .iaload, 1, 0, 0, 0, [], []) := rfl
theorem k191_45 : az_cd 191 45 = some (156, .ireturn, 1, 0, 0, 0, [], []) := rfl
theorem k191_46 : az_cd 191 46 = some (157, .aload_n 0, 1, 0, 0, 0, [], []) := rfl
theorem k191_47 : az_cd 191 47 = some (158, .invokevirtual 152, 3, 185, 0, 0, [], [1006, 1008, 51, 1009, 37]) := rfl
theorem k191_48 : az_cd 191 48 = some (161, .ireturn, 1, 0, 0, 0, [], []) := rfl
theorem k191_49 : az_cd 191 49 = some (162, .aload_n 0, 1, 0, 0, 0, [], []) := rfl
theorem k191_50 : az_cd 191 50 = some (163, .invokevirtual 155, 3, 184, 0, 0, [], [1010, 1012, 51, 1013, 38]) := rfl
theorem k191_51 : az_cd 191 51 = some (166, .ireturn, 1, 0, 0, 0, [], []) := rfl
theorem k191_52 : az_cd 191 52 = some (167, .aload_n 0, 1, 0, 0, 0, [], []) := rfl
theorem k191_53 : az_cd 191 53 = some (168, .iconst 2, 1, 0, 0, 2, [], []) := rfl
theorem k191_54 : az_cd 191 54 = some (169, .invokevirtual 169, 3, 189, 1, 0, [], [1036, 1038, 51, 1039, 39]) := rfl
theorem k191_55 : az_cd 191 55 = some (172, .ireturn, 1, 0, 0, 0, [], []) := rfl
theorem k191_56 : az_cd 191 56 = some (173, .aload_n 0, 1, 0, 0, 0, [], []) := rfl
theorem k191_57 : az_cd 191 57 = some (174, .getfield 7, 3, 9, 0, 0, [], [751]) := rfl
theorem k191_58 : az_cd 191 58 = some (177, .sipush 152, 3, 0, 0, 152, [], []) := rfl
theorem k191_59 : az_cd 191 59 = some (180, .iaload, 1, 0, 0, 0, [], []) := rfl
theorem k191_60 : az_cd 191 60 = some (181, .ireturn, 1, 0, 0, 0, [], []) := rfl
theorem k191_61 : az_cd 191 61 = some (182, .aload_n 0, 1, 0, 0, 0, [], []) := rfl
theorem k191_62 : az_cd 191 62 = some (183, .getfield 30, 3, 9, 2, 0, [], [753]) := rfl
theorem k191_63 : az_cd 191 63 = some (186, .ireturn, 1, 0, 0, 0, [], []) := rfl
theorem k191_64 : az_cd 191 64 = some (187, .aload_n 0, 1, 0, 0, 0, [], []) := rfl
theorem k191_65 : az_cd 191 65 = some (188, .getfield 124, 3, 9, 6, 0, [], [757]) := rfl
theorem k191_66 : az_cd 191 66 = some (191, .ireturn, 1, 0, 0, 0, [], []) := rfl
theorem k191_67 : az_cd 191 67 = some (192, .aload_n 0, 1, 0, 0, 0, [], []) := rfl
theorem k191_68 : az_cd 191 68 = some (193, .invokevirtual 172, 3, 190, 0, 0, [], [1040, 1042, 51, 1043, 40]) := rfl
theorem k191_69 : az_cd 191 69 = some (196, .ireturn, 1, 0, 0, 0, [], []) := rfl
theorem k191_70 : az_cd 191 70 = some (197, .bipush (-2), 2, 0, 0, (-2), [], []) := rfl
theorem k191_71 : az_cd 191 71 = some (199, .ireturn, 1, 0, 0, 0, [], []) := rfl
theorem k192_0 : az_cd 192 0 = some (0, .fload_n 0, 1, 0, 0, 0, [], []) := rfl
theorem k192_1 : az_cd 192 1 = some (1, .fload_n 0, 1, 0, 0, 0, [], []) := rfl
theorem k192_2 : az_cd 192 2 = some (2, .fcmp .l, 1, 0, 0, 0, [], []) := rfl
theorem k192_3 : az_cd 192 3 = some (3, .ifCond .eq 7, 3, 6, 0, 0, [], []) := rfl
theorem k192_4 : az_cd 192 4 = some (6, .iconst 1, 1, 0, 0, 1, [], []) := rfl
theorem k192_5 : az_cd 192 5 = some (7, .goto 4, 3, 7, 0, 0, [], []) := rfl
theorem k192_6 : az_cd 192 6 = some (10, .iconst 0, 1, 0, 0, 0, [], []) := rfl
theorem k192_7 : az_cd 192 7 = some (11, .ireturn, 1, 0, 0, 0, [], []) := rfl
theorem k193_0 : az_cd 193 0 = some (0, .fload_n 0, 1, 0, 0, 0, [], []) := rfl
theorem k193_1 : az_cd 193 1 = some (1, .invokestatic 59, 3, 192, 1, 0, [], [1022, 1023, 53, 1024]) := rfl
theorem k193_2 : az_cd 193 2 = some (4, .ifCond .ne 8, 3, 6, 0, 0, [], []) := rfl
theorem k193_3 : az_cd 193 3 = some (7, .fload_n 0, 1, 0, 0, 0, [], []) := rfl
theorem k193_4 : az_cd 193 4 = some (8, .invokestatic 74, 3, 197, 1, 3, [], [1025, 1027, 1026, 53]) := rfl
theorem k193_5 : az_cd 193 5 = some (11, .ireturn, 1, 0, 0, 0, [], []) := rfl
theorem k193_6 : az_cd 193 6 = some (12, .ldc 77, 2, 0, 0, 2143289344, [], [1028]) := rfl
theorem k193_7 : az_cd 193 7 = some (14, .ireturn, 1, 0, 0, 0, [], []) := rfl
theorem k194_0 : az_cd 194 0 = some (0, .iload_n 0, 1, 0, 0, 0, [], []) := rfl
theorem k194_1 : az_cd 194 1 = some (1, .iload_n 0, 1, 0, 0, 0, [], []) := rfl
theorem k194_2 : az_cd 194 2 = some (2, .iconst 1, 1, 0, 0, 1, [], []) := rfl
theorem k194_3 : az_cd 194 3 = some (3, .iushr, 1, 0, 0, 0, [], []) := rfl
theorem k194_4 : az_cd 194 4 = some (4, .ldc_w 265, 3, 0, 0, 1431655765, [], [720]) := rfl
theorem k194_5 : az_cd 194 5 = some (7, .iand, 1, 0, 0, 0, [], []) := rfl
theorem k194_6 : az_cd 194 6 = some (8, .isub, 1, 0, 0, 0, [], []) := rfl
theorem k194_7 : az_cd 194 7 = some (9, .istore_n 0, 1, 0, 0, 0, [], []) := rfl
theorem k194_8 : az_cd 194 8 = some (10, .iload_n 0, 1, 0, 0, 0, [], []) := rfl
theorem k194_9 : az_cd 194 9 = some (11, .ldc_w 266, 3, 0, 0, 858993459, [], [721]) := rfl
theorem k194_10 : az_cd 194 10 = some (14, .iand, 1, 0, 0, 0, [], []) := rfl
theorem k194_11 : az_cd 194 11 = some (15, .iload_n 0, 1, 0, 0, 0, [], []) := rfl
theorem k194_12 : az_cd 194 12 = some (16, .iconst 2, 1, 0, 0, 2, [], []) := rfl
theorem k194_13 : az_cd 194 13 = some (17, .iushr, 1, 0, 0, 0, [], []) := rfl
theorem k194_14 : az_cd 194 14 = some (18, .ldc_w 266, 3, 0, 0, 858993459, [], [721]) := rfl
theorem k194_15 : az_cd 194 15 = some (21, .iand, 1, 0, 0, 0, [], []) := rfl
theorem k194_16 : az_cd 194 16 = some (22, .iadd, 1, 0, 0, 0, [], []) := rfl
theorem k194_17 : az_cd 194 17 = some (23, .istore_n 0, 1, 0, 0, 0, [], []) := rfl
theorem k194_18 : az_cd 194 18 = some (24, .iload_n 0, 1, 0, 0, 0, [], []) := rfl
theorem k194_19 : az_cd 194 19 = some (25, .iload_n 0, 1, 0, 0, 0, [], []) := rfl
theorem k194_20 : az_cd 194 20 = some (26, .iconst 4, 1, 0, 0, 4, [], []) := rfl
theorem k194_21 : az_cd 194 21 = some (27, .iushr, 1, 0, 0, 0, [], []) := rfl
theorem k194_22 : az_cd 194 22 = some (28, .iadd, 1, 0, 0, 0, [], []) := rfl
theorem k194_23 : az_cd 194 23 = some (29, .ldc_w 267, 3, 0, 0, 252645135, [], [722]) := rfl
theorem k194_24 : az_cd 194 24 = some (32, .iand, 1, 0, 0, 0, [], []) := rfl
theorem k194_25 : az_cd 194 25 = some (33, .istore_n 0, 1, 0, 0, 0, [], []) := rfl
theorem k194_26 : az_cd 194 26 = some (34, .iload_n 0, 1, 0, 0, 0, [], []) := rfl
theorem k194_27 : az_cd 194 27 = some (35, .iload_n 0, 1, 0, 0, 0, [], []) := rfl
theorem k194_28 : az_cd 194 28 = some (36, .bipush 8, 2, 0, 0, 8, [], []) := rfl
theorem k194_29 : az_cd 194 29 = some (38, .iushr, 1, 0, 0, 0, [], []) := rfl
theorem k194_30 : az_cd 194 30 = some (39, .iadd, 1, 0, 0, 0, [], []) := rfl
theorem k194_31 : az_cd 194 31 = some (40, .istore_n 0, 1, 0, 0, 0, [], []) := rfl
theorem k194_32 : az_cd 194 32 = some (41, .iload_n 0, 1, 0, 0, 0, [], []) := rfl
theorem k194_33 : az_cd 194 33 = some (42, .iload_n 0, 1, 0, 0, 0, [], []) := rfl
theorem k194_34 : az_cd 194 34 = some (43, .bipush 16, 2, 0, 0, 16, [], []) := rfl
theorem k194_35 : az_cd 194 35 = some (45, .iushr, 1, 0, 0, 0, [], []) := rfl
theorem k194_36 : az_cd 194 36 = some (46, .iadd, 1, 0, 0, 0, [], []) := rfl
theorem k194_37 : az_cd 194 37 = some (47, .istore_n 0, 1, 0, 0, 0, [], []) := rfl
theorem k194_38 : az_cd 194 38 = some (48, .iload_n 0, 1, 0, 0, 0, [], []) := rfl
theorem k194_39 : az_cd 194 39 = some (49, .bipush 63, 2, 0, 0, 63, [], []) := rfl
theorem k194_40 : az_cd 194 40 = some (51, .iand, 1, 0, 0, 0, [], []) := rfl
theorem k194_41 : az_cd 194 41 = some (52, .ireturn, 1, 0, 0, 0, [], []) := rfl
theorem k195_0 : az_cd 195 0 = some (0, .iload_n 0, 1, 0, 0, 0, [], []) := rfl
theorem k195_1 : az_cd 195 1 = some (1, .iload_n 1, 1, 0, 0, 0, [], []) := rfl
theorem k195_2 : az_cd 195 2 = some (2, .irem, 1, 0, 0, 0, [], []) := rfl
theorem k195_3 : az_cd 195 3 = some (3, .istore_n 2, 1, 0, 0, 0, [], []) := rfl
theorem k195_4 : az_cd 195 4 = some (4, .iload_n 0, 1, 0, 0, 0, [], []) := rfl
theorem k195_5 : az_cd 195 5 = some (5, .iload_n 1, 1, 0, 0, 0, [], []) := rfl
theorem k195_6 : az_cd 195 6 = some (6, .ixor, 1, 0, 0, 0, [], []) := rfl
theorem k195_7 : az_cd 195 7 = some (7, .ifCond .ge 11, 3, 14, 0, 0, [], []) := rfl
theorem k195_8 : az_cd 195 8 = some (10, .iload_n 2, 1, 0, 0, 0, [], []) := rfl
theorem k195_9 : az_cd 195 9 = some (11, .ifCond .eq 7, 3, 14, 0, 0, [], []) := rfl
theorem k195_10 : az_cd 195 10 = some (14, .iload_n 2, 1, 0, 0, 0, [], []) := rfl
theorem k195_11 : az_cd 195 11 = some (15, .iload_n 1, 1, 0, 0, 0, [], []) := rfl
theorem k195_12 : az_cd 195 12 = some (16, .iadd, 1, 0, 0, 0, [], []) := rfl
theorem k195_13 : az_cd 195 13 = some (17, .ireturn, 1, 0, 0, 0, [], []) := rfl
theorem k195_14 : az_cd 195 14 = some (18, .iload_n 2, 1, 0, 0, 0, [], []) := rfl
theorem k195_15 : az_cd 195 15 = some (19, .ireturn, 1, 0, 0, 0, [], []) := rfl
theorem hd0 : az_hs[0]? = some (RL, yL_law, cL_law, 8, some .boolean, 8, 177) := rfl
theorem hd1 : az_hs[1]? = some (RX0, yX0_init, cX0_init, 1, none, 1, 22) := rfl
theorem cl1 : az_clt 1 0 = true := by decide +kernel
theorem hd2 : az_hs[2]? = some (RX0, yX0_sealOf, cX0_sealOf, 1, some .int, 0, 0) := rfl
theorem hd3 : az_hs[3]? = some (RX0, yX0_put, cX0_put, 5, none, 1, 20) := rfl
theorem cl3 : az_clt 3 0 = true := by decide +kernel
theorem hd4 : az_hs[4]? = some (RX0, yX0_contentOf, cX0_contentOf, 2, some .int, 1, 20) := rfl
theorem cl4 : az_clt 4 0 = true := by decide +kernel
theorem hd5 : az_hs[5]? = some (RX0, yX0_sealIn, cX0_sealIn, 2, some .int, 1, 20) := rfl
theorem cl5 : az_clt 5 0 = true := by decide +kernel
theorem hd6 : az_hs[6]? = some (RX0, yX0_wearOf, cX0_wearOf, 2, some .int, 1, 20) := rfl
theorem cl6 : az_clt 6 0 = true := by decide +kernel
theorem hd7 : az_hs[7]? = some (RX0, yX0_isTorn, cX0_isTorn, 2, some .boolean, 1, 20) := rfl
theorem cl7 : az_clt 7 0 = true := by decide +kernel
theorem hd8 : az_hs[8]? = some (RX0, yX0_tornCells, cX0_tornCells, 3, some .int, 2, 41) := rfl
theorem cl8 : az_clt 8 0 = true := by decide +kernel
theorem hd9 : az_hs[9]? = some (RX0, yX0_greatestWear, cX0_greatestWear, 3, some .int, 0, 0) := rfl
theorem cl9 : az_clt 9 0 = true := by decide +kernel
theorem hd10 : az_hs[10]? = some (RX0, yX0_allWear, cX0_allWear, 3, some .int, 0, 0) := rfl
theorem cl10 : az_clt 10 0 = true := by decide +kernel
theorem hd11 : az_hs[11]? = some (RX0, yX0_copyFrom, cX0_copyFrom, 2, none, 1, 22) := rfl
theorem cl11 : az_clt 11 0 = true := by decide +kernel
theorem hd12 : az_hs[12]? = some (RX1, yX1_init, cX1_init, 1, none, 1, 22) := rfl
theorem cl12 : az_clt 12 1 = true := by decide +kernel
theorem hd13 : az_hs[13]? = some (RX1, yX1_toldOf, cX1_toldOf, 2, some .int, 1, 20) := rfl
theorem cl13 : az_clt 13 1 = true := by decide +kernel
theorem hd14 : az_hs[14]? = some (RX1, yX1_tellsOf, cX1_tellsOf, 2, some .boolean, 2, 41) := rfl
theorem cl14 : az_clt 14 1 = true := by decide +kernel
theorem hd15 : az_hs[15]? = some (RX1, yX1_tell, cX1_tell, 3, none, 1, 20) := rfl
theorem cl15 : az_clt 15 1 = true := by decide +kernel
theorem hd16 : az_hs[16]? = some (RX1, yX1_empty, cX1_empty, 1, none, 1, 22) := rfl
theorem cl16 : az_clt 16 1 = true := by decide +kernel
theorem hd17 : az_hs[17]? = some (RX1, yX1_pagesTold, cX1_pagesTold, 3, some .int, 0, 0) := rfl
theorem cl17 : az_clt 17 1 = true := by decide +kernel
theorem hd18 : az_hs[18]? = some (RX1, yX1_contents, cX1_contents, 3, some .int, 0, 0) := rfl
theorem cl18 : az_clt 18 1 = true := by decide +kernel
theorem hd19 : az_hs[19]? = some (RX1, yX1_pageOfContent, cX1_pageOfContent, 4, some .int, 0, 0) := rfl
theorem cl19 : az_clt 19 1 = true := by decide +kernel
theorem hd20 : az_hs[20]? = some (RX1, yX1_copyFrom, cX1_copyFrom, 2, none, 1, 22) := rfl
theorem cl20 : az_clt 20 1 = true := by decide +kernel
theorem hd21 : az_hs[21]? = some (RX2, yX2_init, cX2_init, 2, none, 1, 22) := rfl
theorem cl21 : az_clt 21 2 = true := by decide +kernel
theorem hd22 : az_hs[22]? = some (RX2, yX2_number, cX2_number, 1, some .int, 0, 0) := rfl
theorem cl22 : az_clt 22 2 = true := by decide +kernel
theorem hd23 : az_hs[23]? = some (RX2, yX2_isTorn, cX2_isTorn, 1, some .boolean, 0, 0) := rfl
theorem cl23 : az_clt 23 2 = true := by decide +kernel
theorem hd24 : az_hs[24]? = some (RX2, yX2_become, cX2_become, 3, none, 0, 0) := rfl
theorem cl24 : az_clt 24 2 = true := by decide +kernel
theorem hd25 : az_hs[25]? = some (RX2, yX2_cellOf, cX2_cellOf, 2, some .int, 1, 20) := rfl
theorem cl25 : az_clt 25 2 = true := by decide +kernel
theorem hd26 : az_hs[26]? = some (RX2, yX2_give, cX2_give, 3, none, 1, 20) := rfl
theorem cl26 : az_clt 26 2 = true := by decide +kernel
theorem hd27 : az_hs[27]? = some (RX2, yX2_pageWith, cX2_pageWith, 3, some .int, 0, 0) := rfl
theorem cl27 : az_clt 27 2 = true := by decide +kernel
theorem hd28 : az_hs[28]? = some (RX2, yX2_pageSet, cX2_pageSet, 3, some .int, 0, 0) := rfl
theorem cl28 : az_clt 28 2 = true := by decide +kernel
theorem hd29 : az_hs[29]? = some (RX2, yX2_pages, cX2_pages, 1, some .int, 1, 22) := rfl
theorem cl29 : az_clt 29 2 = true := by decide +kernel
theorem hd30 : az_hs[30]? = some (RX2, yX2_copyFrom, cX2_copyFrom, 2, none, 1, 22) := rfl
theorem cl30 : az_clt 30 2 = true := by decide +kernel
theorem hd31 : az_hs[31]? = some (RX3, yX3_init, cX3_init, 2, none, 4, 84) := rfl
theorem cl31 : az_clt 31 3 = true := by decide +kernel
theorem hd32 : az_hs[32]? = some (RX3, yX3_states, cX3_states, 1, some .int, 0, 0) := rfl
theorem cl32 : az_clt 32 3 = true := by decide +kernel
theorem hd33 : az_hs[33]? = some (RX3, yX3_record, cX3_record, 2, none, 4, 86) := rfl
theorem cl33 : az_clt 33 3 = true := by decide +kernel
theorem hd34 : az_hs[34]? = some (RX3, yX3_takeLatest, cX3_takeLatest, 2, none, 4, 86) := rfl
theorem cl34 : az_clt 34 3 = true := by decide +kernel
theorem hd35 : az_hs[35]? = some (RX4, yX4_init, cX4_init, 1, none, 1, 20) := rfl
theorem cl35 : az_clt 35 4 = true := by decide +kernel
theorem hd36 : az_hs[36]? = some (RX4, yX4_length, cX4_length, 1, some .int, 0, 0) := rfl
theorem cl36 : az_clt 36 4 = true := by decide +kernel
theorem hd37 : az_hs[37]? = some (RX4, yX4_isFull, cX4_isFull, 1, some .boolean, 0, 0) := rfl
theorem cl37 : az_clt 37 4 = true := by decide +kernel
theorem hd38 : az_hs[38]? = some (RX4, yX4_append, cX4_append, 2, none, 0, 0) := rfl
theorem cl38 : az_clt 38 4 = true := by decide +kernel
theorem hd39 : az_hs[39]? = some (RX4, yX4_empty, cX4_empty, 1, none, 0, 0) := rfl
theorem cl39 : az_clt 39 4 = true := by decide +kernel
theorem hd40 : az_hs[40]? = some (RX4, yX4_entries, cX4_entries, 1, some .int, 0, 0) := rfl
theorem cl40 : az_clt 40 4 = true := by decide +kernel
theorem hd41 : az_hs[41]? = some (RX4, yX4_pageOfEntry, cX4_pageOfEntry, 2, some .int, 0, 0) := rfl
theorem cl41 : az_clt 41 4 = true := by decide +kernel
theorem hd42 : az_hs[42]? = some (RX4, yX4_toldByEntry, cX4_toldByEntry, 2, some .int, 0, 0) := rfl
theorem cl42 : az_clt 42 4 = true := by decide +kernel
theorem hd43 : az_hs[43]? = some (RX4, yX4_scan, cX4_scan, 4, some .int, 2, 44) := rfl
theorem cl43 : az_clt 43 4 = true := by decide +kernel
theorem hd44 : az_hs[44]? = some (RX4, yX4_dueBehind, cX4_dueBehind, 3, some .int, 0, 0) := rfl
theorem hd45 : az_hs[45]? = some (RX4, yX4_note, cX4_note, 3, none, 1, 22) := rfl
theorem cl45 : az_clt 45 4 = true := by decide +kernel
theorem hd46 : az_hs[46]? = some (RX4, yX4_startEntry, cX4_startEntry, 2, none, 0, 0) := rfl
theorem cl46 : az_clt 46 4 = true := by decide +kernel
theorem hd47 : az_hs[47]? = some (RX4, yX4_addDigit, cX4_addDigit, 3, none, 0, 0) := rfl
theorem cl47 : az_clt 47 4 = true := by decide +kernel
theorem hd48 : az_hs[48]? = some (RX5, yX5_init, cX5_init, 2, none, 2, 43) := rfl
theorem cl48 : az_clt 48 5 = true := by decide +kernel
theorem hd49 : az_hs[49]? = some (RX5, yX5_has, cX5_has, 2, some .boolean, 0, 0) := rfl
theorem cl49 : az_clt 49 5 = true := by decide +kernel
theorem hd50 : az_hs[50]? = some (RX5, yX5_lowestFree, cX5_lowestFree, 2, some .int, 0, 0) := rfl
theorem cl50 : az_clt 50 5 = true := by decide +kernel
theorem hd51 : az_hs[51]? = some (RX5, yX5_howMany, cX5_howMany, 3, some .int, 0, 0) := rfl
theorem cl51 : az_clt 51 5 = true := by decide +kernel
theorem hd52 : az_hs[52]? = some (RX5, yX5_howManyWith, cX5_howManyWith, 4, some .int, 1, 22) := rfl
theorem cl52 : az_clt 52 5 = true := by decide +kernel
theorem hd53 : az_hs[53]? = some (RX5, yX5_adm, cX5_adm, 3, none, 2, 43) := rfl
theorem cl53 : az_clt 53 5 = true := by decide +kernel
theorem hd54 : az_hs[54]? = some (RX5, yX5_dismiss, cX5_dismiss, 2, none, 0, 0) := rfl
theorem cl54 : az_clt 54 5 = true := by decide +kernel
theorem hd55 : az_hs[55]? = some (RX5, yX5_dismissAll, cX5_dismissAll, 2, none, 0, 0) := rfl
theorem cl55 : az_clt 55 5 = true := by decide +kernel
theorem hd56 : az_hs[56]? = some (RX5, yX5_numberOf, cX5_numberOf, 2, some .int, 1, 21) := rfl
theorem cl56 : az_clt 56 5 = true := by decide +kernel
theorem hd57 : az_hs[57]? = some (RX5, yX5_cellOf, cX5_cellOf, 3, some .int, 2, 41) := rfl
theorem cl57 : az_clt 57 5 = true := by decide +kernel
theorem hd58 : az_hs[58]? = some (RX5, yX5_copyFrom, cX5_copyFrom, 3, none, 2, 43) := rfl
theorem cl58 : az_clt 58 5 = true := by decide +kernel
theorem hd59 : az_hs[59]? = some (RX6, yX6_init, cX6_init, 1, none, 3, 64) := rfl
theorem cl59 : az_clt 59 6 = true := by decide +kernel
theorem hd60 : az_hs[60]? = some (RX6, yX6_mark, cX6_mark, 1, some .int, 0, 0) := rfl
theorem cl60 : az_clt 60 6 = true := by decide +kernel
theorem hd61 : az_hs[61]? = some (RX6, yX6_crashes, cX6_crashes, 1, some .int, 0, 0) := rfl
theorem cl61 : az_clt 61 6 = true := by decide +kernel
theorem hd62 : az_hs[62]? = some (RX6, yX6_swaps, cX6_swaps, 1, some .int, 0, 0) := rfl
theorem cl62 : az_clt 62 6 = true := by decide +kernel
theorem hd63 : az_hs[63]? = some (RX6, yX6_tableAt, cX6_tableAt, 2, some (.object "SwappedTables$Generation"), 0, 0) := rfl
theorem cl63 : az_clt 63 6 = true := by decide +kernel
theorem hd64 : az_hs[64]? = some (RX6, yX6_oldGeneration, cX6_oldGeneration, 1, some (.object "SwappedTables$Generation"), 1, 21) := rfl
theorem cl64 : az_clt 64 6 = true := by decide +kernel
theorem hd65 : az_hs[65]? = some (RX6, yX6_contentByOld, cX6_contentByOld, 2, some .int, 2, 41) := rfl
theorem cl65 : az_clt 65 6 = true := by decide +kernel
theorem hd66 : az_hs[66]? = some (RX6, yX6_contentByDesk, cX6_contentByDesk, 2, some .int, 3, 62) := rfl
theorem cl66 : az_clt 66 6 = true := by decide +kernel
theorem hd67 : az_hs[67]? = some (RX6, yX6_isFree, cX6_isFree, 2, some .boolean, 2, 45) := rfl
theorem cl67 : az_clt 67 6 = true := by decide +kernel
theorem hd68 : az_hs[68]? = some (RX6, yX6_freeCells, cX6_freeCells, 3, some .int, 3, 66) := rfl
theorem cl68 : az_clt 68 6 = true := by decide +kernel
theorem hd69 : az_hs[69]? = some (RX6, yX6_cellsOfReadersOnly, cX6_cellsOfReadersOnly, 3, some .int, 2, 45) := rfl
theorem cl69 : az_clt 69 6 = true := by decide +kernel
theorem hd70 : az_hs[70]? = some (RX6, yX6_cellToWrite, cX6_cellToWrite, 3, some .int, 3, 66) := rfl
theorem cl70 : az_clt 70 6 = true := by decide +kernel
theorem hd71 : az_hs[71]? = some (RX6, yX6_stepsOwed, cX6_stepsOwed, 1, some .int, 1, 22) := rfl
theorem cl71 : az_clt 71 6 = true := by decide +kernel
theorem hd72 : az_hs[72]? = some (RX6, yX6_cellsOwed, cX6_cellsOwed, 2, some .int, 2, 42) := rfl
theorem cl72 : az_clt 72 6 = true := by decide +kernel
theorem hd73 : az_hs[73]? = some (RX6, yX6_kindOwedAt, cX6_kindOwedAt, 2, some .int, 3, 63) := rfl
theorem cl73 : az_clt 73 6 = true := by decide +kernel
theorem hd74 : az_hs[74]? = some (RX6, yX6_pageOwedAt, cX6_pageOwedAt, 2, some .int, 4, 84) := rfl
theorem cl74 : az_clt 74 6 = true := by decide +kernel
theorem hd75 : az_hs[75]? = some (RX6, yX6_canGoOn, cX6_canGoOn, 1, some .boolean, 4, 88) := rfl
theorem cl75 : az_clt 75 6 = true := by decide +kernel
theorem hd76 : az_hs[76]? = some (RX6, yX6_goOn, cX6_goOn, 1, none, 5, 110) := rfl
theorem cl76 : az_clt 76 6 = true := by decide +kernel
theorem hd77 : az_hs[77]? = some (RX6, yX6_writeOwedCell, cX6_writeOwedCell, 3, none, 4, 88) := rfl
theorem cl77 : az_clt 77 6 = true := by decide +kernel
theorem hd78 : az_hs[78]? = some (RX6, yX6_writeNewTable, cX6_writeNewTable, 5, none, 3, 62) := rfl
theorem cl78 : az_clt 78 6 = true := by decide +kernel
theorem hd79 : az_hs[79]? = some (RX6, yX6_setMark, cX6_setMark, 1, none, 2, 42) := rfl
theorem cl79 : az_clt 79 6 = true := by decide +kernel
theorem hd80 : az_hs[80]? = some (RX6, yX6_tearNextStep, cX6_tearNextStep, 3, none, 4, 88) := rfl
theorem cl80 : az_clt 80 6 = true := by decide +kernel
theorem hd81 : az_hs[81]? = some (RX6, yX6_loseWhatCrashesLose, cX6_loseWhatCrashesLose, 1, none, 2, 42) := rfl
theorem cl81 : az_clt 81 6 = true := by decide +kernel
theorem hd82 : az_hs[82]? = some (RX6, yX6_copyFrom, cX6_copyFrom, 2, none, 3, 65) := rfl
theorem cl82 : az_clt 82 6 = true := by decide +kernel
theorem hd83 : az_hs[83]? = some (RX7, yX7_init, cX7_init, 1, none, 1, 22) := rfl
theorem cl83 : az_clt 83 7 = true := by decide +kernel
theorem hd84 : az_hs[84]? = some (RX7, yX7_goesOn, cX7_goesOn, 1, some .boolean, 0, 0) := rfl
theorem cl84 : az_clt 84 7 = true := by decide +kernel
theorem hd85 : az_hs[85]? = some (RX7, yX7_stepsDone, cX7_stepsDone, 1, some .int, 0, 0) := rfl
theorem cl85 : az_clt 85 7 = true := by decide +kernel
theorem hd86 : az_hs[86]? = some (RX7, yX7_start, cX7_start, 1, none, 0, 0) := rfl
theorem cl86 : az_clt 86 7 = true := by decide +kernel
theorem hd87 : az_hs[87]? = some (RX7, yX7_end, cX7_end, 1, none, 1, 22) := rfl
theorem cl87 : az_clt 87 7 = true := by decide +kernel
theorem hd88 : az_hs[88]? = some (RX7, yX7_countStep, cX7_countStep, 1, none, 0, 0) := rfl
theorem cl88 : az_clt 88 7 = true := by decide +kernel
theorem hd89 : az_hs[89]? = some (RX7, yX7_noteWritten, cX7_noteWritten, 3, none, 1, 20) := rfl
theorem cl89 : az_clt 89 7 = true := by decide +kernel
theorem hd90 : az_hs[90]? = some (RX7, yX7_cellWrittenFor, cX7_cellWrittenFor, 2, some .int, 1, 20) := rfl
theorem cl90 : az_clt 90 7 = true := by decide +kernel
theorem hd91 : az_hs[91]? = some (RX7, yX7_pageWrittenTo, cX7_pageWrittenTo, 3, some .int, 0, 0) := rfl
theorem cl91 : az_clt 91 7 = true := by decide +kernel
theorem hd92 : az_hs[92]? = some (RX7, yX7_copyFrom, cX7_copyFrom, 2, none, 1, 22) := rfl
theorem cl92 : az_clt 92 7 = true := by decide +kernel
theorem hd93 : az_hs[93]? = some (RX8, yX8_init, cX8_init, 1, none, 5, 105) := rfl
theorem cl93 : az_clt 93 8 = true := by decide +kernel
theorem hd94 : az_hs[94]? = some (RX8, yX8_write, cX8_write, 3, some .int, 6, 129) := rfl
theorem cl94 : az_clt 94 8 = true := by decide +kernel
theorem hd95 : az_hs[95]? = some (RX8, yX8_drop, cX8_drop, 2, some .int, 6, 129) := rfl
theorem cl95 : az_clt 95 8 = true := by decide +kernel
theorem hd96 : az_hs[96]? = some (RX8, yX8_tellDesk, cX8_tellDesk, 3, some .int, 5, 107) := rfl
theorem cl96 : az_clt 96 8 = true := by decide +kernel
theorem hd97 : az_hs[97]? = some (RX8, yX8_writeAll, cX8_writeAll, 4, some .int, 5, 107) := rfl
theorem cl97 : az_clt 97 8 = true := by decide +kernel
theorem hd98 : az_hs[98]? = some (RX8, yX8_clear, cX8_clear, 2, some .int, 5, 107) := rfl
theorem cl98 : az_clt 98 8 = true := by decide +kernel
theorem hd99 : az_hs[99]? = some (RX8, yX8_begin, cX8_begin, 1, some .int, 5, 107) := rfl
theorem cl99 : az_clt 99 8 = true := by decide +kernel
theorem hd100 : az_hs[100]? = some (RX8, yX8_step, cX8_step, 1, some .int, 6, 130) := rfl
theorem cl100 : az_clt 100 8 = true := by decide +kernel
theorem hd101 : az_hs[101]? = some (RX8, yX8_finish, cX8_finish, 3, some .int, 6, 130) := rfl
theorem cl101 : az_clt 101 8 = true := by decide +kernel
theorem hd102 : az_hs[102]? = some (RX8, yX8_giveUp, cX8_giveUp, 2, some .int, 5, 107) := rfl
theorem cl102 : az_clt 102 8 = true := by decide +kernel
theorem hd103 : az_hs[103]? = some (RX8, yX8_crash, cX8_crash, 2, some .int, 5, 110) := rfl
theorem cl103 : az_clt 103 8 = true := by decide +kernel
theorem hd104 : az_hs[104]? = some (RX8, yX8_open, cX8_open, 2, some .int, 5, 107) := rfl
theorem cl104 : az_clt 104 8 = true := by decide +kernel
theorem hd105 : az_hs[105]? = some (RX8, yX8_close, cX8_close, 2, some .int, 5, 107) := rfl
theorem cl105 : az_clt 105 8 = true := by decide +kernel
theorem hd106 : az_hs[106]? = some (RX8, yX8_type, cX8_type, 2, some .int, 1, 21) := rfl
theorem cl106 : az_clt 106 8 = true := by decide +kernel
theorem hd107 : az_hs[107]? = some (RX8, yX8_clearText, cX8_clearText, 2, some .int, 1, 20) := rfl
theorem cl107 : az_clt 107 8 = true := by decide +kernel
theorem hd108 : az_hs[108]? = some (RX8, yX8_undo, cX8_undo, 1, some .int, 5, 107) := rfl
theorem cl108 : az_clt 108 8 = true := by decide +kernel
theorem hd109 : az_hs[109]? = some (RX8, yX8_keep, cX8_keep, 1, some .int, 4, 86) := rfl
theorem cl109 : az_clt 109 8 = true := by decide +kernel
theorem hd110 : az_hs[110]? = some (RX8, yX8_restore, cX8_restore, 1, some .int, 5, 107) := rfl
theorem cl110 : az_clt 110 8 = true := by decide +kernel
theorem hd111 : az_hs[111]? = some (RX8, yX8_read, cX8_read, 2, some .int, 3, 62) := rfl
theorem cl111 : az_clt 111 8 = true := by decide +kernel
theorem hd112 : az_hs[112]? = some (RX8, yX8_readDesk, cX8_readDesk, 2, some .int, 4, 83) := rfl
theorem cl112 : az_clt 112 8 = true := by decide +kernel
theorem hd113 : az_hs[113]? = some (RX8, yX8_readBy, cX8_readBy, 3, some .int, 3, 63) := rfl
theorem cl113 : az_clt 113 8 = true := by decide +kernel
theorem hd114 : az_hs[114]? = some (RX8, yX8_cell, cX8_cell, 3, some .int, 3, 66) := rfl
theorem cl114 : az_clt 114 8 = true := by decide +kernel
theorem hd115 : az_hs[115]? = some (RX8, yX8_table, cX8_table, 4, some .int, 2, 41) := rfl
theorem cl115 : az_clt 115 8 = true := by decide +kernel
theorem hd116 : az_hs[116]? = some (RX8, yX8_owed, cX8_owed, 3, some .int, 5, 105) := rfl
theorem cl116 : az_clt 116 8 = true := by decide +kernel
theorem hd117 : az_hs[117]? = some (RX8, yX8_reader, cX8_reader, 2, some .int, 2, 42) := rfl
theorem cl117 : az_clt 117 8 = true := by decide +kernel
theorem hd118 : az_hs[118]? = some (RX8, yX8_unevenness, cX8_unevenness, 1, some .double, 1, 22) := rfl
theorem cl118 : az_clt 118 8 = true := by decide +kernel
theorem hd119 : az_hs[119]? = some (RX8, yX8_unevennessBits, cX8_unevennessBits, 1, some .int, 2, 42) := rfl
theorem cl119 : az_clt 119 8 = true := by decide +kernel
theorem hd120 : az_hs[120]? = some (RX8, yX8_count, cX8_count, 2, some .int, 4, 88) := rfl
theorem cl120 : az_clt 120 8 = true := by decide +kernel
theorem hd121 : az_hs[121]? = some (RX8, yX8_isPage, cX8_isPage, 1, some .boolean, 0, 0) := rfl
theorem hd122 : az_hs[122]? = some (RX8, yX8_isCell, cX8_isCell, 1, some .boolean, 0, 0) := rfl
theorem hd123 : az_hs[123]? = some (RX8, yX8_asNumber, cX8_asNumber, 1, some .int, 0, 0) := rfl
theorem hd124 : az_hs[124]? = some (RX8, yX8_fillInts, cX8_fillInts, 3, none, 0, 0) := rfl
theorem hd125 : az_hs[125]? = some (RX8, yX8_copyInts, cX8_copyInts, 3, none, 0, 0) := rfl
theorem hd126 : az_hs[126]? = some (RX8, yX8_bitsOf, cX8_bitsOf, 4, some .int, 0, 0) := rfl
theorem hd127 : az_hs[127]? = some (RX9, yX9_init, cX9_init, 2, none, 1, 20) := rfl
theorem cl127 : az_clt 127 9 = true := by decide +kernel
theorem hd128 : az_hs[128]? = some (RX9, yX9_in, cX9_in, 3, some .boolean, 0, 0) := rfl
theorem hd129 : az_hs[129]? = some (RX9, yX9_isPage, cX9_isPage, 1, some .boolean, 1, 22) := rfl
theorem hd130 : az_hs[130]? = some (RX9, yX9_lays, cX9_lays, 5, none, 0, 0) := rfl
theorem hd131 : az_hs[131]? = some (RX9, yX9_records, cX9_records, 2, none, 1, 24) := rfl
theorem cl131 : az_clt 131 9 = true := by decide +kernel
theorem hd132 : az_hs[132]? = some (RX9, yX9_sealOf, cX9_sealOf, 1, some .int, 0, 0) := rfl
theorem hd133 : az_hs[133]? = some (RX9, yX9_old, cX9_old, 2, some .int, 0, 0) := rfl
theorem cl133 : az_clt 133 9 = true := by decide +kernel
theorem hd134 : az_hs[134]? = some (RX9, yX9_isReader, cX9_isReader, 2, some .boolean, 1, 22) := rfl
theorem cl134 : az_clt 134 9 = true := by decide +kernel
theorem hd135 : az_hs[135]? = some (RX9, yX9_pageOld, cX9_pageOld, 4, some .int, 1, 21) := rfl
theorem cl135 : az_clt 135 9 = true := by decide +kernel
theorem hd136 : az_hs[136]? = some (RX9, yX9_hasIt, cX9_hasIt, 5, some .boolean, 2, 43) := rfl
theorem cl136 : az_clt 136 9 = true := by decide +kernel
theorem hd137 : az_hs[137]? = some (RX9, yX9_readersOf, cX9_readersOf, 4, some .int, 3, 67) := rfl
theorem cl137 : az_clt 137 9 = true := by decide +kernel
theorem hd138 : az_hs[138]? = some (RX9, yX9_pageWritten, cX9_pageWritten, 4, some .int, 0, 0) := rfl
theorem cl138 : az_clt 138 9 = true := by decide +kernel
theorem hd139 : az_hs[139]? = some (RX9, yX9_isFree, cX9_isFree, 2, some .boolean, 4, 90) := rfl
theorem cl139 : az_clt 139 9 = true := by decide +kernel
theorem hd140 : az_hs[140]? = some (RX9, yX9_isTorn, cX9_isTorn, 2, some .boolean, 1, 20) := rfl
theorem cl140 : az_clt 140 9 = true := by decide +kernel
theorem hd141 : az_hs[141]? = some (RX9, yX9_nextFree, cX9_nextFree, 3, some .int, 5, 111) := rfl
theorem cl141 : az_clt 141 9 = true := by decide +kernel
theorem hd142 : az_hs[142]? = some (RX9, yX9_writes, cX9_writes, 4, none, 1, 20) := rfl
theorem cl142 : az_clt 142 9 = true := by decide +kernel
theorem hd143 : az_hs[143]? = some (RX9, yX9_told, cX9_told, 3, some .int, 0, 0) := rfl
theorem cl143 : az_clt 143 9 = true := by decide +kernel
theorem hd144 : az_hs[144]? = some (RX9, yX9_clearsDesk, cX9_clearsDesk, 2, none, 0, 0) := rfl
theorem cl144 : az_clt 144 9 = true := by decide +kernel
theorem hd145 : az_hs[145]? = some (RX9, yX9_becomes, cX9_becomes, 3, some .int, 2, 45) := rfl
theorem cl145 : az_clt 145 9 = true := by decide +kernel
theorem hd146 : az_hs[146]? = some (RX9, yX9_write, cX9_write, 3, some .int, 3, 67) := rfl
theorem cl146 : az_clt 146 9 = true := by decide +kernel
theorem hd147 : az_hs[147]? = some (RX9, yX9_drop, cX9_drop, 2, some .int, 3, 67) := rfl
theorem cl147 : az_clt 147 9 = true := by decide +kernel
theorem hd148 : az_hs[148]? = some (RX9, yX9_writeAll, cX9_writeAll, 3, some .int, 5, 108) := rfl
theorem cl148 : az_clt 148 9 = true := by decide +kernel
theorem hd149 : az_hs[149]? = some (RX9, yX9_clear, cX9_clear, 2, some .int, 2, 45) := rfl
theorem cl149 : az_clt 149 9 = true := by decide +kernel
theorem hd150 : az_hs[150]? = some (RX9, yX9_contents, cX9_contents, 3, some .int, 0, 0) := rfl
theorem cl150 : az_clt 150 9 = true := by decide +kernel
theorem hd151 : az_hs[151]? = some (RX9, yX9_owes, cX9_owes, 1, some .int, 1, 22) := rfl
theorem cl151 : az_clt 151 9 = true := by decide +kernel
theorem hd152 : az_hs[152]? = some (RX9, yX9_pageOf, cX9_pageOf, 4, some .int, 0, 0) := rfl
theorem cl152 : az_clt 152 9 = true := by decide +kernel
theorem hd153 : az_hs[153]? = some (RX9, yX9_endsSwap, cX9_endsSwap, 2, none, 0, 0) := rfl
theorem cl153 : az_clt 153 9 = true := by decide +kernel
theorem hd154 : az_hs[154]? = some (RX9, yX9_writesTable, cX9_writesTable, 5, none, 1, 21) := rfl
theorem cl154 : az_clt 154 9 = true := by decide +kernel
theorem hd155 : az_hs[155]? = some (RX9, yX9_canStep, cX9_canStep, 1, some .boolean, 6, 133) := rfl
theorem cl155 : az_clt 155 9 = true := by decide +kernel
theorem hd156 : az_hs[156]? = some (RX9, yX9_steps, cX9_steps, 3, none, 6, 133) := rfl
theorem cl156 : az_clt 156 9 = true := by decide +kernel
theorem hd157 : az_hs[157]? = some (RX9, yX9_begin, cX9_begin, 1, some .int, 2, 45) := rfl
theorem cl157 : az_clt 157 9 = true := by decide +kernel
theorem hd158 : az_hs[158]? = some (RX9, yX9_step, cX9_step, 1, some .int, 7, 155) := rfl
theorem cl158 : az_clt 158 9 = true := by decide +kernel
theorem hd159 : az_hs[159]? = some (RX9, yX9_finish, cX9_finish, 1, some .int, 7, 155) := rfl
theorem cl159 : az_clt 159 9 = true := by decide +kernel
theorem hd160 : az_hs[160]? = some (RX9, yX9_giveUp, cX9_giveUp, 2, some .int, 2, 45) := rfl
theorem cl160 : az_clt 160 9 = true := by decide +kernel
theorem hd161 : az_hs[161]? = some (RX9, yX9_tears, cX9_tears, 3, none, 6, 133) := rfl
theorem cl161 : az_clt 161 9 = true := by decide +kernel
theorem hd162 : az_hs[162]? = some (RX9, yX9_crash, cX9_crash, 3, some .int, 7, 155) := rfl
theorem cl162 : az_clt 162 9 = true := by decide +kernel
theorem hd163 : az_hs[163]? = some (RX9, yX9_readers, cX9_readers, 3, some .int, 2, 43) := rfl
theorem cl163 : az_clt 163 9 = true := by decide +kernel
theorem hd164 : az_hs[164]? = some (RX9, yX9_open, cX9_open, 4, some .int, 3, 65) := rfl
theorem cl164 : az_clt 164 9 = true := by decide +kernel
theorem hd165 : az_hs[165]? = some (RX9, yX9_close, cX9_close, 3, some .int, 3, 65) := rfl
theorem cl165 : az_clt 165 9 = true := by decide +kernel
theorem hd166 : az_hs[166]? = some (RX9, yX9_type, cX9_type, 2, some .int, 0, 0) := rfl
theorem cl166 : az_clt 166 9 = true := by decide +kernel
theorem hd167 : az_hs[167]? = some (RX9, yX9_clearText, cX9_clearText, 2, some .int, 0, 0) := rfl
theorem cl167 : az_clt 167 9 = true := by decide +kernel
theorem hd168 : az_hs[168]? = some (RX9, yX9_sees, cX9_sees, 3, some .boolean, 1, 22) := rfl
theorem cl168 : az_clt 168 9 = true := by decide +kernel
theorem hd169 : az_hs[169]? = some (RX9, yX9_takes, cX9_takes, 3, some .boolean, 2, 44) := rfl
theorem cl169 : az_clt 169 9 = true := by decide +kernel
theorem hd170 : az_hs[170]? = some (RX9, yX9_isEntry, cX9_isEntry, 2, some .boolean, 3, 66) := rfl
theorem cl170 : az_clt 170 9 = true := by decide +kernel
theorem hd171 : az_hs[171]? = some (RX9, yX9_fault, cX9_fault, 2, some .int, 4, 87) := rfl
theorem cl171 : az_clt 171 9 = true := by decide +kernel
theorem hd172 : az_hs[172]? = some (RX9, yX9_undo, cX9_undo, 1, some .int, 1, 24) := rfl
theorem cl172 : az_clt 172 9 = true := by decide +kernel
theorem hd173 : az_hs[173]? = some (RX9, yX9_keep, cX9_keep, 1, some .int, 1, 24) := rfl
theorem cl173 : az_clt 173 9 = true := by decide +kernel
theorem hd174 : az_hs[174]? = some (RX9, yX9_restore, cX9_restore, 1, some .int, 2, 45) := rfl
theorem cl174 : az_clt 174 9 = true := by decide +kernel
theorem hd175 : az_hs[175]? = some (RX9, yX9_contentOf, cX9_contentOf, 2, some .int, 0, 0) := rfl
theorem cl175 : az_clt 175 9 = true := by decide +kernel
theorem hd176 : az_hs[176]? = some (RX9, yX9_read, cX9_read, 2, some .int, 2, 42) := rfl
theorem cl176 : az_clt 176 9 = true := by decide +kernel
theorem hd177 : az_hs[177]? = some (RX9, yX9_readDesk, cX9_readDesk, 3, some .int, 2, 42) := rfl
theorem cl177 : az_clt 177 9 = true := by decide +kernel
theorem hd178 : az_hs[178]? = some (RX9, yX9_readBy, cX9_readBy, 3, some .int, 2, 43) := rfl
theorem cl178 : az_clt 178 9 = true := by decide +kernel
theorem hd179 : az_hs[179]? = some (RX9, yX9_cell, cX9_cell, 3, some .int, 5, 111) := rfl
theorem cl179 : az_clt 179 9 = true := by decide +kernel
theorem hd180 : az_hs[180]? = some (RX9, yX9_pagesOf, cX9_pagesOf, 4, some .int, 0, 0) := rfl
theorem cl180 : az_clt 180 9 = true := by decide +kernel
theorem hd181 : az_hs[181]? = some (RX9, yX9_table, cX9_table, 3, some .int, 1, 23) := rfl
theorem cl181 : az_clt 181 9 = true := by decide +kernel
theorem hd182 : az_hs[182]? = some (RX9, yX9_owed, cX9_owed, 4, some .int, 2, 42) := rfl
theorem cl182 : az_clt 182 9 = true := by decide +kernel
theorem hd183 : az_hs[183]? = some (RX9, yX9_reader, cX9_reader, 2, some .int, 2, 43) := rfl
theorem cl183 : az_clt 183 9 = true := by decide +kernel
theorem hd184 : az_hs[184]? = some (RX9, yX9_allWear, cX9_allWear, 3, some .int, 0, 0) := rfl
theorem cl184 : az_clt 184 9 = true := by decide +kernel
theorem hd185 : az_hs[185]? = some (RX9, yX9_greatestWear, cX9_greatestWear, 3, some .int, 0, 0) := rfl
theorem cl185 : az_clt 185 9 = true := by decide +kernel
theorem hd186 : az_hs[186]? = some (RX9, yX9_unevenness, cX9_unevenness, 1, some .double, 1, 22) := rfl
theorem cl186 : az_clt 186 9 = true := by decide +kernel
theorem hd187 : az_hs[187]? = some (RX9, yX9_unevennessBits, cX9_unevennessBits, 1, some .int, 2, 43) := rfl
theorem cl187 : az_clt 187 9 = true := by decide +kernel
theorem hd188 : az_hs[188]? = some (RX9, yX9_ones, cX9_ones, 3, some .int, 0, 0) := rfl
theorem hd189 : az_hs[189]? = some (RX9, yX9_cellsThat, cX9_cellsThat, 6, some .int, 5, 111) := rfl
theorem cl189 : az_clt 189 9 = true := by decide +kernel
theorem hd190 : az_hs[190]? = some (RX9, yX9_owedCells, cX9_owedCells, 3, some .int, 2, 42) := rfl
theorem cl190 : az_clt 190 9 = true := by decide +kernel
theorem hd191 : az_hs[191]? = some (RX9, yX9_count, cX9_count, 2, some .int, 6, 136) := rfl
theorem cl191 : az_clt 191 9 = true := by decide +kernel
theorem hd192 : az_hs[192]? = some (RJxf58ca, yJxf58ca_isNaN_12338, cJxf58ca_isNaN_12338, 1, some .boolean, 0, 0) := rfl
theorem hd193 : az_hs[193]? = some (RJxf58ca, yJxf58ca_floatToIntBits_5c35a, cJxf58ca_floatToIntBits_5c35a, 1, some .int, 1, 23) := rfl
theorem hd194 : az_hs[194]? = some (RJ6, yJ6_bitCount_0f7a4, cJ6_bitCount_0f7a4, 1, some .int, 0, 0) := rfl
theorem hd195 : az_hs[195]? = some (RJ9, yJ9_floorMod_7cf53, cJ9_floorMod_7cf53, 3, some .int, 0, 0) := rfl
