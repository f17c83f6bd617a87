theorem dX8_init_0 : decode cX8_init 0 = .ok (.aload_n 0, 1) := by decide +kernel
theorem dX8_init_1 : decode cX8_init 1 = .ok (.invokespecial 1, 3) := by decide +kernel
theorem dX8_init_4 : decode cX8_init 4 = .ok (.aload_n 0, 1) := by decide +kernel
theorem dX8_init_5 : decode cX8_init 5 = .ok (.new 7, 3) := by decide +kernel
theorem dX8_init_8 : decode cX8_init 8 = .ok (.dup, 1) := by decide +kernel
theorem dX8_init_9 : decode cX8_init 9 = .ok (.invokespecial 9, 3) := by decide +kernel
theorem dX8_init_12 : decode cX8_init 12 = .ok (.putfield 10, 3) := by decide +kernel
theorem dX8_init_15 : decode cX8_init 15 = .ok (.aload_n 0, 1) := by decide +kernel
theorem dX8_init_16 : decode cX8_init 16 = .ok (.new 16, 3) := by decide +kernel
theorem dX8_init_19 : decode cX8_init 19 = .ok (.dup, 1) := by decide +kernel
theorem dX8_init_20 : decode cX8_init 20 = .ok (.invokespecial 18, 3) := by decide +kernel
theorem dX8_init_23 : decode cX8_init 23 = .ok (.putfield 19, 3) := by decide +kernel
theorem dX8_init_26 : decode cX8_init 26 = .ok (.aload_n 0, 1) := by decide +kernel
theorem dX8_init_27 : decode cX8_init 27 = .ok (.new 16, 3) := by decide +kernel
theorem dX8_init_30 : decode cX8_init 30 = .ok (.dup, 1) := by decide +kernel
theorem dX8_init_31 : decode cX8_init 31 = .ok (.invokespecial 18, 3) := by decide +kernel
theorem dX8_init_34 : decode cX8_init 34 = .ok (.putfield 23, 3) := by decide +kernel
theorem dX8_init_37 : decode cX8_init 37 = .ok (.aload_n 0, 1) := by decide +kernel
theorem dX8_init_38 : decode cX8_init 38 = .ok (.new 26, 3) := by decide +kernel
theorem dX8_init_41 : decode cX8_init 41 = .ok (.dup, 1) := by decide +kernel
theorem dX8_init_42 : decode cX8_init 42 = .ok (.invokespecial 28, 3) := by decide +kernel
theorem dX8_init_45 : decode cX8_init 45 = .ok (.putfield 29, 3) := by decide +kernel
theorem dX8_init_48 : decode cX8_init 48 = .ok (.aload_n 0, 1) := by decide +kernel
theorem dX8_init_49 : decode cX8_init 49 = .ok (.new 26, 3) := by decide +kernel
theorem dX8_init_52 : decode cX8_init 52 = .ok (.dup, 1) := by decide +kernel
theorem dX8_init_53 : decode cX8_init 53 = .ok (.invokespecial 28, 3) := by decide +kernel
theorem dX8_init_56 : decode cX8_init 56 = .ok (.putfield 33, 3) := by decide +kernel
theorem dX8_init_59 : decode cX8_init 59 = .ok (.aload_n 0, 1) := by decide +kernel
theorem dX8_init_60 : decode cX8_init 60 = .ok (.new 26, 3) := by decide +kernel
theorem dX8_init_63 : decode cX8_init 63 = .ok (.dup, 1) := by decide +kernel
theorem dX8_init_64 : decode cX8_init 64 = .ok (.invokespecial 28, 3) := by decide +kernel
theorem dX8_init_67 : decode cX8_init 67 = .ok (.putfield 36, 3) := by decide +kernel
theorem dX8_init_70 : decode cX8_init 70 = .ok (.aload_n 0, 1) := by decide +kernel
theorem dX8_init_71 : decode cX8_init 71 = .ok (.iconst 2, 1) := by decide +kernel
theorem dX8_init_72 : decode cX8_init 72 = .ok (.newarray .int, 2) := by decide +kernel
theorem dX8_init_74 : decode cX8_init 74 = .ok (.putfield 39, 3) := by decide +kernel
theorem dX8_init_77 : decode cX8_init 77 = .ok (.aload_n 0, 1) := by decide +kernel
theorem dX8_init_78 : decode cX8_init 78 = .ok (.new 43, 3) := by decide +kernel
theorem dX8_init_81 : decode cX8_init 81 = .ok (.dup, 1) := by decide +kernel
theorem dX8_init_82 : decode cX8_init 82 = .ok (.bipush 10, 2) := by decide +kernel
theorem dX8_init_84 : decode cX8_init 84 = .ok (.invokespecial 45, 3) := by decide +kernel
theorem dX8_init_87 : decode cX8_init 87 = .ok (.putfield 48, 3) := by decide +kernel
theorem dX8_init_90 : decode cX8_init 90 = .ok (.aload_n 0, 1) := by decide +kernel
theorem dX8_init_91 : decode cX8_init 91 = .ok (.new 43, 3) := by decide +kernel
theorem dX8_init_94 : decode cX8_init 94 = .ok (.dup, 1) := by decide +kernel
theorem dX8_init_95 : decode cX8_init 95 = .ok (.bipush 10, 2) := by decide +kernel
theorem dX8_init_97 : decode cX8_init 97 = .ok (.invokespecial 45, 3) := by decide +kernel
theorem dX8_init_100 : decode cX8_init 100 = .ok (.putfield 52, 3) := by decide +kernel
theorem dX8_init_103 : decode cX8_init 103 = .ok (.aload_n 0, 1) := by decide +kernel
theorem dX8_init_104 : decode cX8_init 104 = .ok (.new 43, 3) := by decide +kernel
theorem dX8_init_107 : decode cX8_init 107 = .ok (.dup, 1) := by decide +kernel
theorem dX8_init_108 : decode cX8_init 108 = .ok (.bipush 30, 2) := by decide +kernel
theorem dX8_init_110 : decode cX8_init 110 = .ok (.invokespecial 45, 3) := by decide +kernel
theorem dX8_init_113 : decode cX8_init 113 = .ok (.putfield 55, 3) := by decide +kernel
theorem dX8_init_116 : decode cX8_init 116 = .ok (.aload_n 0, 1) := by decide +kernel
theorem dX8_init_117 : decode cX8_init 117 = .ok (.new 58, 3) := by decide +kernel
theorem dX8_init_120 : decode cX8_init 120 = .ok (.dup, 1) := by decide +kernel
theorem dX8_init_121 : decode cX8_init 121 = .ok (.aload_n 0, 1) := by decide +kernel
theorem dX8_init_122 : decode cX8_init 122 = .ok (.getfield 23, 3) := by decide +kernel
theorem dX8_init_125 : decode cX8_init 125 = .ok (.aload_n 0, 1) := by decide +kernel
theorem dX8_init_126 : decode cX8_init 126 = .ok (.getfield 29, 3) := by decide +kernel
theorem dX8_init_129 : decode cX8_init 129 = .ok (.invokespecial 60, 3) := by decide +kernel
theorem dX8_init_132 : decode cX8_init 132 = .ok (.putfield 63, 3) := by decide +kernel
theorem dX8_init_135 : decode cX8_init 135 = .ok (.aload_n 0, 1) := by decide +kernel
theorem dX8_init_136 : decode cX8_init 136 = .ok (.new 67, 3) := by decide +kernel
theorem dX8_init_139 : decode cX8_init 139 = .ok (.dup, 1) := by decide +kernel
theorem dX8_init_140 : decode cX8_init 140 = .ok (.aload_n 0, 1) := by decide +kernel
theorem dX8_init_141 : decode cX8_init 141 = .ok (.getfield 63, 3) := by decide +kernel
theorem dX8_init_144 : decode cX8_init 144 = .ok (.invokespecial 69, 3) := by decide +kernel
theorem dX8_init_147 : decode cX8_init 147 = .ok (.putfield 72, 3) := by decide +kernel
theorem dX8_init_150 : decode cX8_init 150 = .ok (.aload_n 0, 1) := by decide +kernel
theorem dX8_init_151 : decode cX8_init 151 = .ok (.new 76, 3) := by decide +kernel
theorem dX8_init_154 : decode cX8_init 154 = .ok (.dup, 1) := by decide +kernel
theorem dX8_init_155 : decode cX8_init 155 = .ok (.aload_n 0, 1) := by decide +kernel
theorem dX8_init_156 : decode cX8_init 156 = .ok (.getfield 63, 3) := by decide +kernel
theorem dX8_init_159 : decode cX8_init 159 = .ok (.aload_n 0, 1) := by decide +kernel
theorem dX8_init_160 : decode cX8_init 160 = .ok (.getfield 48, 3) := by decide +kernel
theorem dX8_init_163 : decode cX8_init 163 = .ok (.invokespecial 78, 3) := by decide +kernel
theorem dX8_init_166 : decode cX8_init 166 = .ok (.putfield 81, 3) := by decide +kernel
theorem dX8_init_169 : decode cX8_init 169 = .ok (.aload_n 0, 1) := by decide +kernel
theorem dX8_init_170 : decode cX8_init 170 = .ok (.new 85, 3) := by decide +kernel
theorem dX8_init_173 : decode cX8_init 173 = .ok (.dup, 1) := by decide +kernel
theorem dX8_init_174 : decode cX8_init 174 = .ok (.aload_n 0, 1) := by decide +kernel
theorem dX8_init_175 : decode cX8_init 175 = .ok (.getfield 63, 3) := by decide +kernel
theorem dX8_init_178 : decode cX8_init 178 = .ok (.invokespecial 87, 3) := by decide +kernel
theorem dX8_init_181 : decode cX8_init 181 = .ok (.putfield 88, 3) := by decide +kernel
theorem dX8_init_184 : decode cX8_init 184 = .ok (.return_, 1) := by decide +kernel
theorem dX8_feed_0 : decode cX8_feed 0 = .ok (.iload_n 1, 1) := by decide +kernel
theorem dX8_feed_1 : decode cX8_feed 1 = .ok (.iconst 1, 1) := by decide +kernel
theorem dX8_feed_2 : decode cX8_feed 2 = .ok (.if_icmp .lt 9, 3) := by decide +kernel
theorem dX8_feed_5 : decode cX8_feed 5 = .ok (.iload_n 1, 1) := by decide +kernel
theorem dX8_feed_6 : decode cX8_feed 6 = .ok (.bipush 8, 2) := by decide +kernel
theorem dX8_feed_8 : decode cX8_feed 8 = .ok (.if_icmp .le 6, 3) := by decide +kernel
theorem dX8_feed_11 : decode cX8_feed 11 = .ok (.ldc 92, 2) := by decide +kernel
theorem dX8_feed_13 : decode cX8_feed 13 = .ok (.ireturn, 1) := by decide +kernel
theorem dX8_feed_14 : decode cX8_feed 14 = .ok (.aload_n 0, 1) := by decide +kernel
theorem dX8_feed_15 : decode cX8_feed 15 = .ok (.getfield 10, 3) := by decide +kernel
theorem dX8_feed_18 : decode cX8_feed 18 = .ok (.getfield 93, 3) := by decide +kernel
theorem dX8_feed_21 : decode cX8_feed 21 = .ok (.iload_n 1, 1) := by decide +kernel
theorem dX8_feed_22 : decode cX8_feed 22 = .ok (.iadd, 1) := by decide +kernel
theorem dX8_feed_23 : decode cX8_feed 23 = .ok (.sipush 500, 3) := by decide +kernel
theorem dX8_feed_26 : decode cX8_feed 26 = .ok (.if_icmp .le 6, 3) := by decide +kernel
theorem dX8_feed_29 : decode cX8_feed 29 = .ok (.ldc 97, 2) := by decide +kernel
theorem dX8_feed_31 : decode cX8_feed 31 = .ok (.ireturn, 1) := by decide +kernel
theorem dX8_feed_32 : decode cX8_feed 32 = .ok (.aload_n 0, 1) := by decide +kernel
theorem dX8_feed_33 : decode cX8_feed 33 = .ok (.getfield 10, 3) := by decide +kernel
theorem dX8_feed_36 : decode cX8_feed 36 = .ok (.iload_n 1, 1) := by decide +kernel
theorem dX8_feed_37 : decode cX8_feed 37 = .ok (.lload_n 2, 1) := by decide +kernel
theorem dX8_feed_38 : decode cX8_feed 38 = .ok (.invokevirtual 98, 3) := by decide +kernel
theorem dX8_feed_41 : decode cX8_feed 41 = .ok (.aload_n 0, 1) := by decide +kernel
theorem dX8_feed_42 : decode cX8_feed 42 = .ok (.getfield 10, 3) := by decide +kernel
theorem dX8_feed_45 : decode cX8_feed 45 = .ok (.getfield 93, 3) := by decide +kernel
theorem dX8_feed_48 : decode cX8_feed 48 = .ok (.ireturn, 1) := by decide +kernel
theorem dX8_ground_0 : decode cX8_ground 0 = .ok (.aload_n 0, 1) := by decide +kernel
theorem dX8_ground_1 : decode cX8_ground 1 = .ok (.getfield 10, 3) := by decide +kernel
theorem dX8_ground_4 : decode cX8_ground 4 = .ok (.aload_n 0, 1) := by decide +kernel
theorem dX8_ground_5 : decode cX8_ground 5 = .ok (.getfield 19, 3) := by decide +kernel
theorem dX8_ground_8 : decode cX8_ground 8 = .ok (.invokevirtual 102, 3) := by decide +kernel
theorem dX8_ground_11 : decode cX8_ground 11 = .ok (.istore_n 1, 1) := by decide +kernel
theorem dX8_ground_12 : decode cX8_ground 12 = .ok (.iload_n 1, 1) := by decide +kernel
theorem dX8_ground_13 : decode cX8_ground 13 = .ok (.ifCond .eq 8, 3) := by decide +kernel
theorem dX8_ground_16 : decode cX8_ground 16 = .ok (.bipush (-10), 2) := by decide +kernel
theorem dX8_ground_18 : decode cX8_ground 18 = .ok (.iload_n 1, 1) := by decide +kernel
theorem dX8_ground_19 : decode cX8_ground 19 = .ok (.isub, 1) := by decide +kernel
theorem dX8_ground_20 : decode cX8_ground 20 = .ok (.ireturn, 1) := by decide +kernel
theorem dX8_ground_21 : decode cX8_ground 21 = .ok (.aload_n 0, 1) := by decide +kernel
theorem dX8_ground_22 : decode cX8_ground 22 = .ok (.getfield 23, 3) := by decide +kernel
theorem dX8_ground_25 : decode cX8_ground 25 = .ok (.aload_n 0, 1) := by decide +kernel
theorem dX8_ground_26 : decode cX8_ground 26 = .ok (.getfield 19, 3) := by decide +kernel
theorem dX8_ground_29 : decode cX8_ground 29 = .ok (.invokevirtual 106, 3) := by decide +kernel
theorem dX8_ground_32 : decode cX8_ground 32 = .ok (.aload_n 0, 1) := by decide +kernel
theorem dX8_ground_33 : decode cX8_ground 33 = .ok (.getfield 29, 3) := by decide +kernel
theorem dX8_ground_36 : decode cX8_ground 36 = .ok (.aload_n 0, 1) := by decide +kernel
theorem dX8_ground_37 : decode cX8_ground 37 = .ok (.getfield 23, 3) := by decide +kernel
theorem dX8_ground_40 : decode cX8_ground 40 = .ok (.invokevirtual 110, 3) := by decide +kernel
theorem dX8_ground_43 : decode cX8_ground 43 = .ok (.aload_n 0, 1) := by decide +kernel
theorem dX8_ground_44 : decode cX8_ground 44 = .ok (.getfield 63, 3) := by decide +kernel
theorem dX8_ground_47 : decode cX8_ground 47 = .ok (.invokevirtual 113, 3) := by decide +kernel
theorem dX8_ground_50 : decode cX8_ground 50 = .ok (.aload_n 0, 1) := by decide +kernel
theorem dX8_ground_51 : decode cX8_ground 51 = .ok (.invokevirtual 116, 3) := by decide +kernel
theorem dX8_ground_54 : decode cX8_ground 54 = .ok (.iconst 0, 1) := by decide +kernel
theorem dX8_ground_55 : decode cX8_ground 55 = .ok (.istore_n 2, 1) := by decide +kernel
theorem dX8_ground_56 : decode cX8_ground 56 = .ok (.iload_n 2, 1) := by decide +kernel
theorem dX8_ground_57 : decode cX8_ground 57 = .ok (.iconst 2, 1) := by decide +kernel
theorem dX8_ground_58 : decode cX8_ground 58 = .ok (.if_icmp .ge 16, 3) := by decide +kernel
theorem dX8_ground_61 : decode cX8_ground 61 = .ok (.aload_n 0, 1) := by decide +kernel
theorem dX8_ground_62 : decode cX8_ground 62 = .ok (.getfield 39, 3) := by decide +kernel
theorem dX8_ground_65 : decode cX8_ground 65 = .ok (.iload_n 2, 1) := by decide +kernel
theorem dX8_ground_66 : decode cX8_ground 66 = .ok (.iconst 0, 1) := by decide +kernel
theorem dX8_ground_67 : decode cX8_ground 67 = .ok (.iastore, 1) := by decide +kernel
theorem dX8_ground_68 : decode cX8_ground 68 = .ok (.iinc 2 1, 3) := by decide +kernel
theorem dX8_ground_71 : decode cX8_ground 71 = .ok (.goto (-15), 3) := by decide +kernel
theorem dX8_ground_74 : decode cX8_ground 74 = .ok (.aload_n 0, 1) := by decide +kernel
theorem dX8_ground_75 : decode cX8_ground 75 = .ok (.getfield 23, 3) := by decide +kernel
theorem dX8_ground_78 : decode cX8_ground 78 = .ok (.getfield 119, 3) := by decide +kernel
theorem dX8_ground_81 : decode cX8_ground 81 = .ok (.ireturn, 1) := by decide +kernel
theorem dX8_fault_0 : decode cX8_fault 0 = .ok (.aload_n 0, 1) := by decide +kernel
theorem dX8_fault_1 : decode cX8_fault 1 = .ok (.getfield 10, 3) := by decide +kernel
theorem dX8_fault_4 : decode cX8_fault 4 = .ok (.getfield 122, 3) := by decide +kernel
theorem dX8_fault_7 : decode cX8_fault 7 = .ok (.ireturn, 1) := by decide +kernel
theorem dX8_told_0 : decode cX8_told 0 = .ok (.iload_n 1, 1) := by decide +kernel
theorem dX8_told_1 : decode cX8_told 1 = .ok (.tableswitch 159 0 11 #[63, 71, 79, 87, 95, 103, 111, 119, 127, 135, 143, 151], 63) := by decide +kernel
theorem dX8_told_64 : decode cX8_told 64 = .ok (.aload_n 0, 1) := by decide +kernel
theorem dX8_told_65 : decode cX8_told 65 = .ok (.getfield 23, 3) := by decide +kernel
theorem dX8_told_68 : decode cX8_told 68 = .ok (.getfield 125, 3) := by decide +kernel
theorem dX8_told_71 : decode cX8_told 71 = .ok (.ireturn, 1) := by decide +kernel
theorem dX8_told_72 : decode cX8_told 72 = .ok (.aload_n 0, 1) := by decide +kernel
theorem dX8_told_73 : decode cX8_told 73 = .ok (.getfield 23, 3) := by decide +kernel
theorem dX8_told_76 : decode cX8_told 76 = .ok (.getfield 128, 3) := by decide +kernel
theorem dX8_told_79 : decode cX8_told 79 = .ok (.ireturn, 1) := by decide +kernel
theorem dX8_told_80 : decode cX8_told 80 = .ok (.aload_n 0, 1) := by decide +kernel
theorem dX8_told_81 : decode cX8_told 81 = .ok (.getfield 23, 3) := by decide +kernel
theorem dX8_told_84 : decode cX8_told 84 = .ok (.getfield 131, 3) := by decide +kernel
theorem dX8_told_87 : decode cX8_told 87 = .ok (.ireturn, 1) := by decide +kernel
theorem dX8_told_88 : decode cX8_told 88 = .ok (.aload_n 0, 1) := by decide +kernel
theorem dX8_told_89 : decode cX8_told 89 = .ok (.getfield 23, 3) := by decide +kernel
theorem dX8_told_92 : decode cX8_told 92 = .ok (.getfield 134, 3) := by decide +kernel
theorem dX8_told_95 : decode cX8_told 95 = .ok (.ireturn, 1) := by decide +kernel
theorem dX8_told_96 : decode cX8_told 96 = .ok (.aload_n 0, 1) := by decide +kernel
theorem dX8_told_97 : decode cX8_told 97 = .ok (.getfield 10, 3) := by decide +kernel
theorem dX8_told_100 : decode cX8_told 100 = .ok (.getfield 93, 3) := by decide +kernel
theorem dX8_told_103 : decode cX8_told 103 = .ok (.ireturn, 1) := by decide +kernel
theorem dX8_told_104 : decode cX8_told 104 = .ok (.aload_n 0, 1) := by decide +kernel
theorem dX8_told_105 : decode cX8_told 105 = .ok (.getfield 29, 3) := by decide +kernel
theorem dX8_told_108 : decode cX8_told 108 = .ok (.getfield 137, 3) := by decide +kernel
theorem dX8_told_111 : decode cX8_told 111 = .ok (.ireturn, 1) := by decide +kernel
theorem dX8_told_112 : decode cX8_told 112 = .ok (.aload_n 0, 1) := by decide +kernel
theorem dX8_told_113 : decode cX8_told 113 = .ok (.getfield 29, 3) := by decide +kernel
theorem dX8_told_116 : decode cX8_told 116 = .ok (.getfield 140, 3) := by decide +kernel
theorem dX8_told_119 : decode cX8_told 119 = .ok (.ireturn, 1) := by decide +kernel
theorem dX8_told_120 : decode cX8_told 120 = .ok (.aload_n 0, 1) := by decide +kernel
theorem dX8_told_121 : decode cX8_told 121 = .ok (.getfield 48, 3) := by decide +kernel
theorem dX8_told_124 : decode cX8_told 124 = .ok (.getfield 143, 3) := by decide +kernel
theorem dX8_told_127 : decode cX8_told 127 = .ok (.ireturn, 1) := by decide +kernel
theorem dX8_told_128 : decode cX8_told 128 = .ok (.aload_n 0, 1) := by decide +kernel
theorem dX8_told_129 : decode cX8_told 129 = .ok (.getfield 52, 3) := by decide +kernel
theorem dX8_told_132 : decode cX8_told 132 = .ok (.getfield 143, 3) := by decide +kernel
theorem dX8_told_135 : decode cX8_told 135 = .ok (.ireturn, 1) := by decide +kernel
theorem dX8_told_136 : decode cX8_told 136 = .ok (.aload_n 0, 1) := by decide +kernel
theorem dX8_told_137 : decode cX8_told 137 = .ok (.getfield 55, 3) := by decide +kernel
theorem dX8_told_140 : decode cX8_told 140 = .ok (.getfield 143, 3) := by decide +kernel
theorem dX8_told_143 : decode cX8_told 143 = .ok (.ireturn, 1) := by decide +kernel
theorem dX8_told_144 : decode cX8_told 144 = .ok (.aload_n 0, 1) := by decide +kernel
theorem dX8_told_145 : decode cX8_told 145 = .ok (.getfield 63, 3) := by decide +kernel
theorem dX8_told_148 : decode cX8_told 148 = .ok (.invokevirtual 146, 3) := by decide +kernel
theorem dX8_told_151 : decode cX8_told 151 = .ok (.ireturn, 1) := by decide +kernel
theorem dX8_told_152 : decode cX8_told 152 = .ok (.aload_n 0, 1) := by decide +kernel
theorem dX8_told_153 : decode cX8_told 153 = .ok (.getfield 23, 3) := by decide +kernel
theorem dX8_told_156 : decode cX8_told 156 = .ok (.getfield 150, 3) := by decide +kernel
theorem dX8_told_159 : decode cX8_told 159 = .ok (.ireturn, 1) := by decide +kernel
theorem dX8_told_160 : decode cX8_told 160 = .ok (.ldc 92, 2) := by decide +kernel
theorem dX8_told_162 : decode cX8_told 162 = .ok (.ireturn, 1) := by decide +kernel
theorem dX8_cell_0 : decode cX8_cell 0 = .ok (.aload_n 0, 1) := by decide +kernel
theorem dX8_cell_1 : decode cX8_cell 1 = .ok (.getfield 23, 3) := by decide +kernel
theorem dX8_cell_4 : decode cX8_cell 4 = .ok (.iload_n 1, 1) := by decide +kernel
theorem dX8_cell_5 : decode cX8_cell 5 = .ok (.iload_n 2, 1) := by decide +kernel
theorem dX8_cell_6 : decode cX8_cell 6 = .ok (.invokevirtual 153, 3) := by decide +kernel
theorem dX8_cell_9 : decode cX8_cell 9 = .ok (.istore 5, 2) := by decide +kernel
theorem dX8_cell_11 : decode cX8_cell 11 = .ok (.iload 5, 2) := by decide +kernel
theorem dX8_cell_13 : decode cX8_cell 13 = .ok (.iconst (-1), 1) := by decide +kernel
theorem dX8_cell_14 : decode cX8_cell 14 = .ok (.if_icmp .eq 14, 3) := by decide +kernel
theorem dX8_cell_17 : decode cX8_cell 17 = .ok (.aload_n 0, 1) := by decide +kernel
theorem dX8_cell_18 : decode cX8_cell 18 = .ok (.getfield 23, 3) := by decide +kernel
theorem dX8_cell_21 : decode cX8_cell 21 = .ok (.iload_n 3, 1) := by decide +kernel
theorem dX8_cell_22 : decode cX8_cell 22 = .ok (.invokevirtual 157, 3) := by decide +kernel
theorem dX8_cell_25 : decode cX8_cell 25 = .ok (.ifCond .ne 6, 3) := by decide +kernel
theorem dX8_cell_28 : decode cX8_cell 28 = .ok (.ldc 161, 2) := by decide +kernel
theorem dX8_cell_30 : decode cX8_cell 30 = .ok (.ireturn, 1) := by decide +kernel
theorem dX8_cell_31 : decode cX8_cell 31 = .ok (.iload 4, 2) := by decide +kernel
theorem dX8_cell_33 : decode cX8_cell 33 = .ok (.tableswitch 83 0 3 #[31, 42, 61, 72], 31) := by decide +kernel
theorem dX8_cell_64 : decode cX8_cell 64 = .ok (.aload_n 0, 1) := by decide +kernel
theorem dX8_cell_65 : decode cX8_cell 65 = .ok (.getfield 29, 3) := by decide +kernel
theorem dX8_cell_68 : decode cX8_cell 68 = .ok (.getfield 162, 3) := by decide +kernel
theorem dX8_cell_71 : decode cX8_cell 71 = .ok (.iload 5, 2) := by decide +kernel
theorem dX8_cell_73 : decode cX8_cell 73 = .ok (.iaload, 1) := by decide +kernel
theorem dX8_cell_74 : decode cX8_cell 74 = .ok (.ireturn, 1) := by decide +kernel
theorem dX8_cell_75 : decode cX8_cell 75 = .ok (.aload_n 0, 1) := by decide +kernel
theorem dX8_cell_76 : decode cX8_cell 76 = .ok (.getfield 63, 3) := by decide +kernel
theorem dX8_cell_79 : decode cX8_cell 79 = .ok (.iload 5, 2) := by decide +kernel
theorem dX8_cell_81 : decode cX8_cell 81 = .ok (.iload_n 3, 1) := by decide +kernel
theorem dX8_cell_82 : decode cX8_cell 82 = .ok (.invokevirtual 165, 3) := by decide +kernel
theorem dX8_cell_85 : decode cX8_cell 85 = .ok (.ifCond .eq 7, 3) := by decide +kernel
theorem dX8_cell_88 : decode cX8_cell 88 = .ok (.iconst 1, 1) := by decide +kernel
theorem dX8_cell_89 : decode cX8_cell 89 = .ok (.goto 4, 3) := by decide +kernel
theorem dX8_cell_92 : decode cX8_cell 92 = .ok (.iconst 0, 1) := by decide +kernel
theorem dX8_cell_93 : decode cX8_cell 93 = .ok (.ireturn, 1) := by decide +kernel
theorem dX8_cell_94 : decode cX8_cell 94 = .ok (.aload_n 0, 1) := by decide +kernel
theorem dX8_cell_95 : decode cX8_cell 95 = .ok (.getfield 63, 3) := by decide +kernel
theorem dX8_cell_98 : decode cX8_cell 98 = .ok (.iload 5, 2) := by decide +kernel
theorem dX8_cell_100 : decode cX8_cell 100 = .ok (.iload_n 3, 1) := by decide +kernel
theorem dX8_cell_101 : decode cX8_cell 101 = .ok (.invokevirtual 169, 3) := by decide +kernel
theorem dX8_cell_104 : decode cX8_cell 104 = .ok (.ireturn, 1) := by decide +kernel
theorem dX8_cell_105 : decode cX8_cell 105 = .ok (.aload_n 0, 1) := by decide +kernel
theorem dX8_cell_106 : decode cX8_cell 106 = .ok (.getfield 63, 3) := by decide +kernel
theorem dX8_cell_109 : decode cX8_cell 109 = .ok (.iload 5, 2) := by decide +kernel
theorem dX8_cell_111 : decode cX8_cell 111 = .ok (.iload_n 3, 1) := by decide +kernel
theorem dX8_cell_112 : decode cX8_cell 112 = .ok (.invokevirtual 172, 3) := by decide +kernel
theorem dX8_cell_115 : decode cX8_cell 115 = .ok (.ireturn, 1) := by decide +kernel
theorem dX8_cell_116 : decode cX8_cell 116 = .ok (.ldc 92, 2) := by decide +kernel
theorem dX8_cell_118 : decode cX8_cell 118 = .ok (.ireturn, 1) := by decide +kernel
theorem dX8_person_0 : decode cX8_person 0 = .ok (.aload_n 0, 1) := by decide +kernel
theorem dX8_person_1 : decode cX8_person 1 = .ok (.getfield 23, 3) := by decide +kernel
theorem dX8_person_4 : decode cX8_person 4 = .ok (.iload_n 1, 1) := by decide +kernel
theorem dX8_person_5 : decode cX8_person 5 = .ok (.invokevirtual 175, 3) := by decide +kernel
theorem dX8_person_8 : decode cX8_person 8 = .ok (.ifCond .ne 6, 3) := by decide +kernel
theorem dX8_person_11 : decode cX8_person 11 = .ok (.ldc 161, 2) := by decide +kernel
theorem dX8_person_13 : decode cX8_person 13 = .ok (.ireturn, 1) := by decide +kernel
theorem dX8_person_14 : decode cX8_person 14 = .ok (.iload_n 2, 1) := by decide +kernel
theorem dX8_person_15 : decode cX8_person 15 = .ok (.tableswitch 131 0 6 #[41, 58, 75, 84, 94, 104, 113], 41) := by decide +kernel
theorem dX8_person_56 : decode cX8_person 56 = .ok (.aload_n 0, 1) := by decide +kernel
theorem dX8_person_57 : decode cX8_person 57 = .ok (.getfield 23, 3) := by decide +kernel
theorem dX8_person_60 : decode cX8_person 60 = .ok (.aload_n 0, 1) := by decide +kernel
theorem dX8_person_61 : decode cX8_person 61 = .ok (.getfield 29, 3) := by decide +kernel
theorem dX8_person_64 : decode cX8_person 64 = .ok (.getfield 178, 3) := by decide +kernel
theorem dX8_person_67 : decode cX8_person 67 = .ok (.iload_n 1, 1) := by decide +kernel
theorem dX8_person_68 : decode cX8_person 68 = .ok (.iaload, 1) := by decide +kernel
theorem dX8_person_69 : decode cX8_person 69 = .ok (.invokevirtual 181, 3) := by decide +kernel
theorem dX8_person_72 : decode cX8_person 72 = .ok (.ireturn, 1) := by decide +kernel
theorem dX8_person_73 : decode cX8_person 73 = .ok (.aload_n 0, 1) := by decide +kernel
theorem dX8_person_74 : decode cX8_person 74 = .ok (.getfield 23, 3) := by decide +kernel
theorem dX8_person_77 : decode cX8_person 77 = .ok (.aload_n 0, 1) := by decide +kernel
theorem dX8_person_78 : decode cX8_person 78 = .ok (.getfield 29, 3) := by decide +kernel
theorem dX8_person_81 : decode cX8_person 81 = .ok (.getfield 178, 3) := by decide +kernel
theorem dX8_person_84 : decode cX8_person 84 = .ok (.iload_n 1, 1) := by decide +kernel
theorem dX8_person_85 : decode cX8_person 85 = .ok (.iaload, 1) := by decide +kernel
theorem dX8_person_86 : decode cX8_person 86 = .ok (.invokevirtual 185, 3) := by decide +kernel
theorem dX8_person_89 : decode cX8_person 89 = .ok (.ireturn, 1) := by decide +kernel
theorem dX8_person_90 : decode cX8_person 90 = .ok (.aload_n 0, 1) := by decide +kernel
theorem dX8_person_91 : decode cX8_person 91 = .ok (.getfield 63, 3) := by decide +kernel
theorem dX8_person_94 : decode cX8_person 94 = .ok (.iload_n 1, 1) := by decide +kernel
theorem dX8_person_95 : decode cX8_person 95 = .ok (.invokevirtual 188, 3) := by decide +kernel
theorem dX8_person_98 : decode cX8_person 98 = .ok (.ireturn, 1) := by decide +kernel
theorem dX8_person_99 : decode cX8_person 99 = .ok (.aload_n 0, 1) := by decide +kernel
theorem dX8_person_100 : decode cX8_person 100 = .ok (.getfield 29, 3) := by decide +kernel
theorem dX8_person_103 : decode cX8_person 103 = .ok (.getfield 191, 3) := by decide +kernel
theorem dX8_person_106 : decode cX8_person 106 = .ok (.iload_n 1, 1) := by decide +kernel
theorem dX8_person_107 : decode cX8_person 107 = .ok (.iaload, 1) := by decide +kernel
theorem dX8_person_108 : decode cX8_person 108 = .ok (.ireturn, 1) := by decide +kernel
theorem dX8_person_109 : decode cX8_person 109 = .ok (.aload_n 0, 1) := by decide +kernel
theorem dX8_person_110 : decode cX8_person 110 = .ok (.getfield 29, 3) := by decide +kernel
theorem dX8_person_113 : decode cX8_person 113 = .ok (.getfield 194, 3) := by decide +kernel
theorem dX8_person_116 : decode cX8_person 116 = .ok (.iload_n 1, 1) := by decide +kernel
theorem dX8_person_117 : decode cX8_person 117 = .ok (.iaload, 1) := by decide +kernel
theorem dX8_person_118 : decode cX8_person 118 = .ok (.ireturn, 1) := by decide +kernel
theorem dX8_person_119 : decode cX8_person 119 = .ok (.aload_n 0, 1) := by decide +kernel
theorem dX8_person_120 : decode cX8_person 120 = .ok (.getfield 63, 3) := by decide +kernel
theorem dX8_person_123 : decode cX8_person 123 = .ok (.iload_n 1, 1) := by decide +kernel
theorem dX8_person_124 : decode cX8_person 124 = .ok (.invokevirtual 197, 3) := by decide +kernel
theorem dX8_person_127 : decode cX8_person 127 = .ok (.ireturn, 1) := by decide +kernel
theorem dX8_person_128 : decode cX8_person 128 = .ok (.aload_n 0, 1) := by decide +kernel
theorem dX8_person_129 : decode cX8_person 129 = .ok (.getfield 63, 3) := by decide +kernel
theorem dX8_person_132 : decode cX8_person 132 = .ok (.iload_n 1, 1) := by decide +kernel
theorem dX8_person_133 : decode cX8_person 133 = .ok (.aload_n 0, 1) := by decide +kernel
theorem dX8_person_134 : decode cX8_person 134 = .ok (.getfield 29, 3) := by decide +kernel
theorem dX8_person_137 : decode cX8_person 137 = .ok (.getfield 178, 3) := by decide +kernel
theorem dX8_person_140 : decode cX8_person 140 = .ok (.iload_n 1, 1) := by decide +kernel
theorem dX8_person_141 : decode cX8_person 141 = .ok (.iaload, 1) := by decide +kernel
theorem dX8_person_142 : decode cX8_person 142 = .ok (.invokevirtual 200, 3) := by decide +kernel
theorem dX8_person_145 : decode cX8_person 145 = .ok (.ireturn, 1) := by decide +kernel
theorem dX8_person_146 : decode cX8_person 146 = .ok (.ldc 92, 2) := by decide +kernel
theorem dX8_person_148 : decode cX8_person 148 = .ok (.ireturn, 1) := by decide +kernel
theorem dX8_owed_0 : decode cX8_owed 0 = .ok (.aload_n 0, 1) := by decide +kernel
theorem dX8_owed_1 : decode cX8_owed 1 = .ok (.getfield 23, 3) := by decide +kernel
theorem dX8_owed_4 : decode cX8_owed 4 = .ok (.iload_n 1, 1) := by decide +kernel
theorem dX8_owed_5 : decode cX8_owed 5 = .ok (.invokevirtual 175, 3) := by decide +kernel
theorem dX8_owed_8 : decode cX8_owed 8 = .ok (.ifCond .eq 14, 3) := by decide +kernel
theorem dX8_owed_11 : decode cX8_owed 11 = .ok (.aload_n 0, 1) := by decide +kernel
theorem dX8_owed_12 : decode cX8_owed 12 = .ok (.getfield 23, 3) := by decide +kernel
theorem dX8_owed_15 : decode cX8_owed 15 = .ok (.iload_n 2, 1) := by decide +kernel
theorem dX8_owed_16 : decode cX8_owed 16 = .ok (.invokevirtual 157, 3) := by decide +kernel
theorem dX8_owed_19 : decode cX8_owed 19 = .ok (.ifCond .ne 6, 3) := by decide +kernel
theorem dX8_owed_22 : decode cX8_owed 22 = .ok (.ldc 161, 2) := by decide +kernel
theorem dX8_owed_24 : decode cX8_owed 24 = .ok (.ireturn, 1) := by decide +kernel
theorem dX8_owed_25 : decode cX8_owed 25 = .ok (.aload_n 0, 1) := by decide +kernel
theorem dX8_owed_26 : decode cX8_owed 26 = .ok (.getfield 63, 3) := by decide +kernel
theorem dX8_owed_29 : decode cX8_owed 29 = .ok (.iload_n 1, 1) := by decide +kernel
theorem dX8_owed_30 : decode cX8_owed 30 = .ok (.aload_n 0, 1) := by decide +kernel
theorem dX8_owed_31 : decode cX8_owed 31 = .ok (.getfield 29, 3) := by decide +kernel
theorem dX8_owed_34 : decode cX8_owed 34 = .ok (.getfield 178, 3) := by decide +kernel
theorem dX8_owed_37 : decode cX8_owed 37 = .ok (.iload_n 1, 1) := by decide +kernel
theorem dX8_owed_38 : decode cX8_owed 38 = .ok (.iaload, 1) := by decide +kernel
theorem dX8_owed_39 : decode cX8_owed 39 = .ok (.iload_n 2, 1) := by decide +kernel
theorem dX8_owed_40 : decode cX8_owed 40 = .ok (.invokevirtual 203, 3) := by decide +kernel
theorem dX8_owed_43 : decode cX8_owed 43 = .ok (.ireturn, 1) := by decide +kernel
theorem dX8_go_0 : decode cX8_go 0 = .ok (.aload_n 0, 1) := by decide +kernel
theorem dX8_go_1 : decode cX8_go 1 = .ok (.getfield 23, 3) := by decide +kernel
theorem dX8_go_4 : decode cX8_go 4 = .ok (.iload_n 2, 1) := by decide +kernel
theorem dX8_go_5 : decode cX8_go 5 = .ok (.iload_n 3, 1) := by decide +kernel
theorem dX8_go_6 : decode cX8_go 6 = .ok (.invokevirtual 153, 3) := by decide +kernel
theorem dX8_go_9 : decode cX8_go 9 = .ok (.istore 4, 2) := by decide +kernel
theorem dX8_go_11 : decode cX8_go 11 = .ok (.aload_n 0, 1) := by decide +kernel
theorem dX8_go_12 : decode cX8_go 12 = .ok (.getfield 23, 3) := by decide +kernel
theorem dX8_go_15 : decode cX8_go 15 = .ok (.iload_n 1, 1) := by decide +kernel
theorem dX8_go_16 : decode cX8_go 16 = .ok (.invokevirtual 175, 3) := by decide +kernel
theorem dX8_go_19 : decode cX8_go 19 = .ok (.ifCond .eq 9, 3) := by decide +kernel
theorem dX8_go_22 : decode cX8_go 22 = .ok (.iload 4, 2) := by decide +kernel
theorem dX8_go_24 : decode cX8_go 24 = .ok (.iconst (-1), 1) := by decide +kernel
theorem dX8_go_25 : decode cX8_go 25 = .ok (.if_icmp .ne 6, 3) := by decide +kernel
theorem dX8_go_28 : decode cX8_go 28 = .ok (.ldc 161, 2) := by decide +kernel
theorem dX8_go_30 : decode cX8_go 30 = .ok (.ireturn, 1) := by decide +kernel
theorem dX8_go_31 : decode cX8_go 31 = .ok (.aload_n 0, 1) := by decide +kernel
theorem dX8_go_32 : decode cX8_go 32 = .ok (.getfield 29, 3) := by decide +kernel
theorem dX8_go_35 : decode cX8_go 35 = .ok (.getfield 162, 3) := by decide +kernel
theorem dX8_go_38 : decode cX8_go 38 = .ok (.iload 4, 2) := by decide +kernel
theorem dX8_go_40 : decode cX8_go 40 = .ok (.iaload, 1) := by decide +kernel
theorem dX8_go_41 : decode cX8_go 41 = .ok (.ifCond .le 6, 3) := by decide +kernel
theorem dX8_go_44 : decode cX8_go 44 = .ok (.ldc 207, 2) := by decide +kernel
theorem dX8_go_46 : decode cX8_go 46 = .ok (.ireturn, 1) := by decide +kernel
theorem dX8_go_47 : decode cX8_go 47 = .ok (.aload_n 0, 1) := by decide +kernel
theorem dX8_go_48 : decode cX8_go 48 = .ok (.getfield 29, 3) := by decide +kernel
theorem dX8_go_51 : decode cX8_go 51 = .ok (.getfield 178, 3) := by decide +kernel
theorem dX8_go_54 : decode cX8_go 54 = .ok (.iload_n 1, 1) := by decide +kernel
theorem dX8_go_55 : decode cX8_go 55 = .ok (.iaload, 1) := by decide +kernel
theorem dX8_go_56 : decode cX8_go 56 = .ok (.istore 5, 2) := by decide +kernel
theorem dX8_go_58 : decode cX8_go 58 = .ok (.aload_n 0, 1) := by decide +kernel
theorem dX8_go_59 : decode cX8_go 59 = .ok (.getfield 29, 3) := by decide +kernel
theorem dX8_go_62 : decode cX8_go 62 = .ok (.getfield 178, 3) := by decide +kernel
theorem dX8_go_65 : decode cX8_go 65 = .ok (.iload_n 1, 1) := by decide +kernel
theorem dX8_go_66 : decode cX8_go 66 = .ok (.iload 4, 2) := by decide +kernel
theorem dX8_go_68 : decode cX8_go 68 = .ok (.iastore, 1) := by decide +kernel
theorem dX8_go_69 : decode cX8_go 69 = .ok (.aload_n 0, 1) := by decide +kernel
theorem dX8_go_70 : decode cX8_go 70 = .ok (.getfield 23, 3) := by decide +kernel
theorem dX8_go_73 : decode cX8_go 73 = .ok (.iload 5, 2) := by decide +kernel
theorem dX8_go_75 : decode cX8_go 75 = .ok (.invokevirtual 208, 3) := by decide +kernel
theorem dX8_go_78 : decode cX8_go 78 = .ok (.ireturn, 1) := by decide +kernel
theorem dX8_fold_0 : decode cX8_fold 0 = .ok (.aload_n 0, 1) := by decide +kernel
theorem dX8_fold_1 : decode cX8_fold 1 = .ok (.getfield 23, 3) := by decide +kernel
theorem dX8_fold_4 : decode cX8_fold 4 = .ok (.iload_n 1, 1) := by decide +kernel
theorem dX8_fold_5 : decode cX8_fold 5 = .ok (.invokevirtual 175, 3) := by decide +kernel
theorem dX8_fold_8 : decode cX8_fold 8 = .ok (.ifCond .ne 6, 3) := by decide +kernel
theorem dX8_fold_11 : decode cX8_fold 11 = .ok (.ldc 161, 2) := by decide +kernel
theorem dX8_fold_13 : decode cX8_fold 13 = .ok (.ireturn, 1) := by decide +kernel
theorem dX8_fold_14 : decode cX8_fold 14 = .ok (.aload_n 0, 1) := by decide +kernel
theorem dX8_fold_15 : decode cX8_fold 15 = .ok (.getfield 29, 3) := by decide +kernel
theorem dX8_fold_18 : decode cX8_fold 18 = .ok (.getfield 191, 3) := by decide +kernel
theorem dX8_fold_21 : decode cX8_fold 21 = .ok (.iload_n 1, 1) := by decide +kernel
theorem dX8_fold_22 : decode cX8_fold 22 = .ok (.iaload, 1) := by decide +kernel
theorem dX8_fold_23 : decode cX8_fold 23 = .ok (.istore_n 3, 1) := by decide +kernel
theorem dX8_fold_24 : decode cX8_fold 24 = .ok (.aload_n 0, 1) := by decide +kernel
theorem dX8_fold_25 : decode cX8_fold 25 = .ok (.getfield 29, 3) := by decide +kernel
theorem dX8_fold_28 : decode cX8_fold 28 = .ok (.getfield 191, 3) := by decide +kernel
theorem dX8_fold_31 : decode cX8_fold 31 = .ok (.iload_n 1, 1) := by decide +kernel
theorem dX8_fold_32 : decode cX8_fold 32 = .ok (.iload_n 2, 1) := by decide +kernel
theorem dX8_fold_33 : decode cX8_fold 33 = .ok (.ifCond .eq 7, 3) := by decide +kernel
theorem dX8_fold_36 : decode cX8_fold 36 = .ok (.iconst 1, 1) := by decide +kernel
theorem dX8_fold_37 : decode cX8_fold 37 = .ok (.goto 4, 3) := by decide +kernel
theorem dX8_fold_40 : decode cX8_fold 40 = .ok (.iconst 0, 1) := by decide +kernel
theorem dX8_fold_41 : decode cX8_fold 41 = .ok (.iastore, 1) := by decide +kernel
theorem dX8_fold_42 : decode cX8_fold 42 = .ok (.iload_n 3, 1) := by decide +kernel
theorem dX8_fold_43 : decode cX8_fold 43 = .ok (.ireturn, 1) := by decide +kernel
theorem dX8_law_0 : decode cX8_law 0 = .ok (.iload_n 1, 1) := by decide +kernel
theorem dX8_law_1 : decode cX8_law 1 = .ok (.ifCond .lt 8, 3) := by decide +kernel
theorem dX8_law_4 : decode cX8_law 4 = .ok (.iload_n 1, 1) := by decide +kernel
theorem dX8_law_5 : decode cX8_law 5 = .ok (.iconst 1, 1) := by decide +kernel
theorem dX8_law_6 : decode cX8_law 6 = .ok (.if_icmp .le 6, 3) := by decide +kernel
theorem dX8_law_9 : decode cX8_law 9 = .ok (.ldc 92, 2) := by decide +kernel
theorem dX8_law_11 : decode cX8_law 11 = .ok (.ireturn, 1) := by decide +kernel
theorem dX8_law_12 : decode cX8_law 12 = .ok (.aload_n 0, 1) := by decide +kernel
theorem dX8_law_13 : decode cX8_law 13 = .ok (.getfield 29, 3) := by decide +kernel
theorem dX8_law_16 : decode cX8_law 16 = .ok (.getfield 137, 3) := by decide +kernel
theorem dX8_law_19 : decode cX8_law 19 = .ok (.istore_n 2, 1) := by decide +kernel
theorem dX8_law_20 : decode cX8_law 20 = .ok (.aload_n 0, 1) := by decide +kernel
theorem dX8_law_21 : decode cX8_law 21 = .ok (.getfield 29, 3) := by decide +kernel
theorem dX8_law_24 : decode cX8_law 24 = .ok (.iload_n 1, 1) := by decide +kernel
theorem dX8_law_25 : decode cX8_law 25 = .ok (.putfield 137, 3) := by decide +kernel
theorem dX8_law_28 : decode cX8_law 28 = .ok (.iload_n 2, 1) := by decide +kernel
theorem dX8_law_29 : decode cX8_law 29 = .ok (.ireturn, 1) := by decide +kernel
theorem dX8_build_0 : decode cX8_build 0 = .ok (.aload_n 0, 1) := by decide +kernel
theorem dX8_build_1 : decode cX8_build 1 = .ok (.getfield 23, 3) := by decide +kernel
theorem dX8_build_4 : decode cX8_build 4 = .ok (.iload_n 1, 1) := by decide +kernel
theorem dX8_build_5 : decode cX8_build 5 = .ok (.iload_n 2, 1) := by decide +kernel
theorem dX8_build_6 : decode cX8_build 6 = .ok (.invokevirtual 153, 3) := by decide +kernel
theorem dX8_build_9 : decode cX8_build 9 = .ok (.istore 4, 2) := by decide +kernel
theorem dX8_build_11 : decode cX8_build 11 = .ok (.iload 4, 2) := by decide +kernel
theorem dX8_build_13 : decode cX8_build 13 = .ok (.iconst (-1), 1) := by decide +kernel
theorem dX8_build_14 : decode cX8_build 14 = .ok (.if_icmp .ne 6, 3) := by decide +kernel
theorem dX8_build_17 : decode cX8_build 17 = .ok (.ldc 161, 2) := by decide +kernel
theorem dX8_build_19 : decode cX8_build 19 = .ok (.ireturn, 1) := by decide +kernel
theorem dX8_build_20 : decode cX8_build 20 = .ok (.iload_n 3, 1) := by decide +kernel
theorem dX8_build_21 : decode cX8_build 21 = .ok (.ifCond .lt 9, 3) := by decide +kernel
theorem dX8_build_24 : decode cX8_build 24 = .ok (.iload_n 3, 1) := by decide +kernel
theorem dX8_build_25 : decode cX8_build 25 = .ok (.bipush 9, 2) := by decide +kernel
theorem dX8_build_27 : decode cX8_build 27 = .ok (.if_icmp .le 6, 3) := by decide +kernel
theorem dX8_build_30 : decode cX8_build 30 = .ok (.ldc 92, 2) := by decide +kernel
theorem dX8_build_32 : decode cX8_build 32 = .ok (.ireturn, 1) := by decide +kernel
theorem dX8_build_33 : decode cX8_build 33 = .ok (.iload_n 3, 1) := by decide +kernel
theorem dX8_build_34 : decode cX8_build 34 = .ok (.ifCond .le 18, 3) := by decide +kernel
theorem dX8_build_37 : decode cX8_build 37 = .ok (.aload_n 0, 1) := by decide +kernel
theorem dX8_build_38 : decode cX8_build 38 = .ok (.getfield 63, 3) := by decide +kernel
theorem dX8_build_41 : decode cX8_build 41 = .ok (.iload 4, 2) := by decide +kernel
theorem dX8_build_43 : decode cX8_build 43 = .ok (.invokevirtual 211, 3) := by decide +kernel
theorem dX8_build_46 : decode cX8_build 46 = .ok (.ifCond .eq 6, 3) := by decide +kernel
theorem dX8_build_49 : decode cX8_build 49 = .ok (.ldc 207, 2) := by decide +kernel
theorem dX8_build_51 : decode cX8_build 51 = .ok (.ireturn, 1) := by decide +kernel
theorem dX8_build_52 : decode cX8_build 52 = .ok (.aload_n 0, 1) := by decide +kernel
theorem dX8_build_53 : decode cX8_build 53 = .ok (.getfield 29, 3) := by decide +kernel
theorem dX8_build_56 : decode cX8_build 56 = .ok (.getfield 162, 3) := by decide +kernel
theorem dX8_build_59 : decode cX8_build 59 = .ok (.iload 4, 2) := by decide +kernel
theorem dX8_build_61 : decode cX8_build 61 = .ok (.iaload, 1) := by decide +kernel
theorem dX8_build_62 : decode cX8_build 62 = .ok (.istore 5, 2) := by decide +kernel
theorem dX8_build_64 : decode cX8_build 64 = .ok (.aload_n 0, 1) := by decide +kernel
theorem dX8_build_65 : decode cX8_build 65 = .ok (.getfield 29, 3) := by decide +kernel
theorem dX8_build_68 : decode cX8_build 68 = .ok (.getfield 162, 3) := by decide +kernel
theorem dX8_build_71 : decode cX8_build 71 = .ok (.iload 4, 2) := by decide +kernel
theorem dX8_build_73 : decode cX8_build 73 = .ok (.iload_n 3, 1) := by decide +kernel
theorem dX8_build_74 : decode cX8_build 74 = .ok (.iastore, 1) := by decide +kernel
theorem dX8_build_75 : decode cX8_build 75 = .ok (.aload_n 0, 1) := by decide +kernel
theorem dX8_build_76 : decode cX8_build 76 = .ok (.getfield 63, 3) := by decide +kernel
theorem dX8_build_79 : decode cX8_build 79 = .ok (.invokevirtual 113, 3) := by decide +kernel
theorem dX8_build_82 : decode cX8_build 82 = .ok (.iload 5, 2) := by decide +kernel
theorem dX8_build_84 : decode cX8_build 84 = .ok (.ireturn, 1) := by decide +kernel
theorem dX8_day_0 : decode cX8_day 0 = .ok (.iload_n 1, 1) := by decide +kernel
theorem dX8_day_1 : decode cX8_day 1 = .ok (.iconst 1, 1) := by decide +kernel
theorem dX8_day_2 : decode cX8_day 2 = .ok (.if_icmp .lt 9, 3) := by decide +kernel
theorem dX8_day_5 : decode cX8_day 5 = .ok (.iload_n 1, 1) := by decide +kernel
theorem dX8_day_6 : decode cX8_day 6 = .ok (.bipush 99, 2) := by decide +kernel
theorem dX8_day_8 : decode cX8_day 8 = .ok (.if_icmp .le 6, 3) := by decide +kernel
theorem dX8_day_11 : decode cX8_day 11 = .ok (.ldc 92, 2) := by decide +kernel
theorem dX8_day_13 : decode cX8_day 13 = .ok (.ireturn, 1) := by decide +kernel
theorem dX8_day_14 : decode cX8_day 14 = .ok (.aload_n 0, 1) := by decide +kernel
theorem dX8_day_15 : decode cX8_day 15 = .ok (.getfield 23, 3) := by decide +kernel
theorem dX8_day_18 : decode cX8_day 18 = .ok (.getfield 119, 3) := by decide +kernel
theorem dX8_day_21 : decode cX8_day 21 = .ok (.ifCond .ne 6, 3) := by decide +kernel
theorem dX8_day_24 : decode cX8_day 24 = .ok (.ldc 207, 2) := by decide +kernel
theorem dX8_day_26 : decode cX8_day 26 = .ok (.ireturn, 1) := by decide +kernel
theorem dX8_day_27 : decode cX8_day 27 = .ok (.iconst 0, 1) := by decide +kernel
theorem dX8_day_28 : decode cX8_day 28 = .ok (.istore_n 2, 1) := by decide +kernel
theorem dX8_day_29 : decode cX8_day 29 = .ok (.iload_n 2, 1) := by decide +kernel
theorem dX8_day_30 : decode cX8_day 30 = .ok (.iload_n 1, 1) := by decide +kernel
theorem dX8_day_31 : decode cX8_day 31 = .ok (.if_icmp .ge 21, 3) := by decide +kernel
theorem dX8_day_34 : decode cX8_day 34 = .ok (.aload_n 0, 1) := by decide +kernel
theorem dX8_day_35 : decode cX8_day 35 = .ok (.aload_n 0, 1) := by decide +kernel
theorem dX8_day_36 : decode cX8_day 36 = .ok (.invokevirtual 214, 3) := by decide +kernel
theorem dX8_day_39 : decode cX8_day 39 = .ok (.invokevirtual 217, 3) := by decide +kernel
theorem dX8_day_42 : decode cX8_day 42 = .ok (.aload_n 0, 1) := by decide +kernel
theorem dX8_day_43 : decode cX8_day 43 = .ok (.invokevirtual 220, 3) := by decide +kernel
theorem dX8_day_46 : decode cX8_day 46 = .ok (.iinc 2 1, 3) := by decide +kernel
theorem dX8_day_49 : decode cX8_day 49 = .ok (.goto (-20), 3) := by decide +kernel
theorem dX8_day_52 : decode cX8_day 52 = .ok (.aload_n 0, 1) := by decide +kernel
theorem dX8_day_53 : decode cX8_day 53 = .ok (.getfield 29, 3) := by decide +kernel
theorem dX8_day_56 : decode cX8_day 56 = .ok (.getfield 140, 3) := by decide +kernel
theorem dX8_day_59 : decode cX8_day 59 = .ok (.ireturn, 1) := by decide +kernel
theorem dX8_best_0 : decode cX8_best 0 = .ok (.aload_n 0, 1) := by decide +kernel
theorem dX8_best_1 : decode cX8_best 1 = .ok (.getfield 23, 3) := by decide +kernel
theorem dX8_best_4 : decode cX8_best 4 = .ok (.iload_n 1, 1) := by decide +kernel
theorem dX8_best_5 : decode cX8_best 5 = .ok (.invokevirtual 175, 3) := by decide +kernel
theorem dX8_best_8 : decode cX8_best 8 = .ok (.ifCond .ne 6, 3) := by decide +kernel
theorem dX8_best_11 : decode cX8_best 11 = .ok (.ldc 161, 2) := by decide +kernel
theorem dX8_best_13 : decode cX8_best 13 = .ok (.ireturn, 1) := by decide +kernel
theorem dX8_best_14 : decode cX8_best 14 = .ok (.iload_n 2, 1) := by decide +kernel
theorem dX8_best_15 : decode cX8_best 15 = .ok (.ifCond .lt 8, 3) := by decide +kernel
theorem dX8_best_18 : decode cX8_best 18 = .ok (.iload_n 2, 1) := by decide +kernel
theorem dX8_best_19 : decode cX8_best 19 = .ok (.iconst 1, 1) := by decide +kernel
theorem dX8_best_20 : decode cX8_best 20 = .ok (.if_icmp .le 6, 3) := by decide +kernel
theorem dX8_best_23 : decode cX8_best 23 = .ok (.ldc 92, 2) := by decide +kernel
theorem dX8_best_25 : decode cX8_best 25 = .ok (.ireturn, 1) := by decide +kernel
theorem dX8_best_26 : decode cX8_best 26 = .ok (.aload_n 0, 1) := by decide +kernel
theorem dX8_best_27 : decode cX8_best 27 = .ok (.getfield 23, 3) := by decide +kernel
theorem dX8_best_30 : decode cX8_best 30 = .ok (.aload_n 0, 1) := by decide +kernel
theorem dX8_best_31 : decode cX8_best 31 = .ok (.getfield 72, 3) := by decide +kernel
theorem dX8_best_34 : decode cX8_best 34 = .ok (.iload_n 1, 1) := by decide +kernel
theorem dX8_best_35 : decode cX8_best 35 = .ok (.iload_n 2, 1) := by decide +kernel
theorem dX8_best_36 : decode cX8_best 36 = .ok (.invokevirtual 223, 3) := by decide +kernel
theorem dX8_best_39 : decode cX8_best 39 = .ok (.invokevirtual 208, 3) := by decide +kernel
theorem dX8_best_42 : decode cX8_best 42 = .ok (.ireturn, 1) := by decide +kernel
theorem dX8_errand_0 : decode cX8_errand 0 = .ok (.aload_n 0, 1) := by decide +kernel
theorem dX8_errand_1 : decode cX8_errand 1 = .ok (.getfield 23, 3) := by decide +kernel
theorem dX8_errand_4 : decode cX8_errand 4 = .ok (.iload_n 2, 1) := by decide +kernel
theorem dX8_errand_5 : decode cX8_errand 5 = .ok (.iload_n 3, 1) := by decide +kernel
theorem dX8_errand_6 : decode cX8_errand 6 = .ok (.invokevirtual 153, 3) := by decide +kernel
theorem dX8_errand_9 : decode cX8_errand 9 = .ok (.istore 5, 2) := by decide +kernel
theorem dX8_errand_11 : decode cX8_errand 11 = .ok (.aload_n 0, 1) := by decide +kernel
theorem dX8_errand_12 : decode cX8_errand 12 = .ok (.getfield 23, 3) := by decide +kernel
theorem dX8_errand_15 : decode cX8_errand 15 = .ok (.iload_n 1, 1) := by decide +kernel
theorem dX8_errand_16 : decode cX8_errand 16 = .ok (.invokevirtual 175, 3) := by decide +kernel
theorem dX8_errand_19 : decode cX8_errand 19 = .ok (.ifCond .eq 21, 3) := by decide +kernel
theorem dX8_errand_22 : decode cX8_errand 22 = .ok (.iload 5, 2) := by decide +kernel
theorem dX8_errand_24 : decode cX8_errand 24 = .ok (.iconst (-1), 1) := by decide +kernel
theorem dX8_errand_25 : decode cX8_errand 25 = .ok (.if_icmp .eq 15, 3) := by decide +kernel
theorem dX8_errand_28 : decode cX8_errand 28 = .ok (.aload_n 0, 1) := by decide +kernel
theorem dX8_errand_29 : decode cX8_errand 29 = .ok (.getfield 23, 3) := by decide +kernel
theorem dX8_errand_32 : decode cX8_errand 32 = .ok (.iload 4, 2) := by decide +kernel
theorem dX8_errand_34 : decode cX8_errand 34 = .ok (.invokevirtual 157, 3) := by decide +kernel
theorem dX8_errand_37 : decode cX8_errand 37 = .ok (.ifCond .ne 6, 3) := by decide +kernel
theorem dX8_errand_40 : decode cX8_errand 40 = .ok (.ldc 161, 2) := by decide +kernel
theorem dX8_errand_42 : decode cX8_errand 42 = .ok (.ireturn, 1) := by decide +kernel
theorem dX8_errand_43 : decode cX8_errand 43 = .ok (.aload_n 0, 1) := by decide +kernel
theorem dX8_errand_44 : decode cX8_errand 44 = .ok (.getfield 48, 3) := by decide +kernel
theorem dX8_errand_47 : decode cX8_errand 47 = .ok (.iload_n 1, 1) := by decide +kernel
theorem dX8_errand_48 : decode cX8_errand 48 = .ok (.iload 5, 2) := by decide +kernel
theorem dX8_errand_50 : decode cX8_errand 50 = .ok (.iload 4, 2) := by decide +kernel
theorem dX8_errand_52 : decode cX8_errand 52 = .ok (.invokevirtual 226, 3) := by decide +kernel
theorem dX8_errand_55 : decode cX8_errand 55 = .ok (.ifCond .eq 13, 3) := by decide +kernel
theorem dX8_errand_58 : decode cX8_errand 58 = .ok (.aload_n 0, 1) := by decide +kernel
theorem dX8_errand_59 : decode cX8_errand 59 = .ok (.getfield 48, 3) := by decide +kernel
theorem dX8_errand_62 : decode cX8_errand 62 = .ok (.getfield 143, 3) := by decide +kernel
theorem dX8_errand_65 : decode cX8_errand 65 = .ok (.goto 5, 3) := by decide +kernel
theorem dX8_errand_68 : decode cX8_errand 68 = .ok (.ldc 97, 2) := by decide +kernel
theorem dX8_errand_70 : decode cX8_errand 70 = .ok (.ireturn, 1) := by decide +kernel
theorem dX8_walk_0 : decode cX8_walk 0 = .ok (.aload_n 0, 1) := by decide +kernel
theorem dX8_walk_1 : decode cX8_walk 1 = .ok (.getfield 23, 3) := by decide +kernel
theorem dX8_walk_4 : decode cX8_walk 4 = .ok (.iload_n 1, 1) := by decide +kernel
theorem dX8_walk_5 : decode cX8_walk 5 = .ok (.invokevirtual 175, 3) := by decide +kernel
theorem dX8_walk_8 : decode cX8_walk 8 = .ok (.ifCond .eq 19, 3) := by decide +kernel
theorem dX8_walk_11 : decode cX8_walk 11 = .ok (.iload_n 2, 1) := by decide +kernel
theorem dX8_walk_12 : decode cX8_walk 12 = .ok (.iconst (-1), 1) := by decide +kernel
theorem dX8_walk_13 : decode cX8_walk 13 = .ok (.if_icmp .eq 17, 3) := by decide +kernel
theorem dX8_walk_16 : decode cX8_walk 16 = .ok (.aload_n 0, 1) := by decide +kernel
theorem dX8_walk_17 : decode cX8_walk 17 = .ok (.getfield 23, 3) := by decide +kernel
theorem dX8_walk_20 : decode cX8_walk 20 = .ok (.iload_n 2, 1) := by decide +kernel
theorem dX8_walk_21 : decode cX8_walk 21 = .ok (.invokevirtual 157, 3) := by decide +kernel
theorem dX8_walk_24 : decode cX8_walk 24 = .ok (.ifCond .ne 6, 3) := by decide +kernel
theorem dX8_walk_27 : decode cX8_walk 27 = .ok (.ldc 161, 2) := by decide +kernel
theorem dX8_walk_29 : decode cX8_walk 29 = .ok (.ireturn, 1) := by decide +kernel
theorem dX8_walk_30 : decode cX8_walk 30 = .ok (.aload_n 0, 1) := by decide +kernel
theorem dX8_walk_31 : decode cX8_walk 31 = .ok (.getfield 81, 3) := by decide +kernel
theorem dX8_walk_34 : decode cX8_walk 34 = .ok (.iload_n 1, 1) := by decide +kernel
theorem dX8_walk_35 : decode cX8_walk 35 = .ok (.invokevirtual 230, 3) := by decide +kernel
theorem dX8_walk_38 : decode cX8_walk 38 = .ok (.istore_n 3, 1) := by decide +kernel
theorem dX8_walk_39 : decode cX8_walk 39 = .ok (.iload_n 3, 1) := by decide +kernel
theorem dX8_walk_40 : decode cX8_walk 40 = .ok (.iconst (-1), 1) := by decide +kernel
theorem dX8_walk_41 : decode cX8_walk 41 = .ok (.if_icmp .eq 8, 3) := by decide +kernel
theorem dX8_walk_44 : decode cX8_walk 44 = .ok (.iload_n 2, 1) := by decide +kernel
theorem dX8_walk_45 : decode cX8_walk 45 = .ok (.iconst (-1), 1) := by decide +kernel
theorem dX8_walk_46 : decode cX8_walk 46 = .ok (.if_icmp .ne 5, 3) := by decide +kernel
theorem dX8_walk_49 : decode cX8_walk 49 = .ok (.iload_n 3, 1) := by decide +kernel
theorem dX8_walk_50 : decode cX8_walk 50 = .ok (.ireturn, 1) := by decide +kernel
theorem dX8_walk_51 : decode cX8_walk 51 = .ok (.aload_n 0, 1) := by decide +kernel
theorem dX8_walk_52 : decode cX8_walk 52 = .ok (.getfield 23, 3) := by decide +kernel
theorem dX8_walk_55 : decode cX8_walk 55 = .ok (.aload_n 0, 1) := by decide +kernel
theorem dX8_walk_56 : decode cX8_walk 56 = .ok (.getfield 81, 3) := by decide +kernel
theorem dX8_walk_59 : decode cX8_walk 59 = .ok (.iload_n 1, 1) := by decide +kernel
theorem dX8_walk_60 : decode cX8_walk 60 = .ok (.iload_n 2, 1) := by decide +kernel
theorem dX8_walk_61 : decode cX8_walk 61 = .ok (.invokevirtual 233, 3) := by decide +kernel
theorem dX8_walk_64 : decode cX8_walk 64 = .ok (.invokevirtual 208, 3) := by decide +kernel
theorem dX8_walk_67 : decode cX8_walk 67 = .ok (.ireturn, 1) := by decide +kernel
theorem dX8_couple_0 : decode cX8_couple 0 = .ok (.aload_n 0, 1) := by decide +kernel
theorem dX8_couple_1 : decode cX8_couple 1 = .ok (.getfield 23, 3) := by decide +kernel
theorem dX8_couple_4 : decode cX8_couple 4 = .ok (.iload_n 1, 1) := by decide +kernel
theorem dX8_couple_5 : decode cX8_couple 5 = .ok (.invokevirtual 175, 3) := by decide +kernel
theorem dX8_couple_8 : decode cX8_couple 8 = .ok (.ifCond .eq 19, 3) := by decide +kernel
theorem dX8_couple_11 : decode cX8_couple 11 = .ok (.aload_n 0, 1) := by decide +kernel
theorem dX8_couple_12 : decode cX8_couple 12 = .ok (.getfield 23, 3) := by decide +kernel
theorem dX8_couple_15 : decode cX8_couple 15 = .ok (.iload_n 2, 1) := by decide +kernel
theorem dX8_couple_16 : decode cX8_couple 16 = .ok (.invokevirtual 175, 3) := by decide +kernel
theorem dX8_couple_19 : decode cX8_couple 19 = .ok (.ifCond .eq 8, 3) := by decide +kernel
theorem dX8_couple_22 : decode cX8_couple 22 = .ok (.iload_n 1, 1) := by decide +kernel
theorem dX8_couple_23 : decode cX8_couple 23 = .ok (.iload_n 2, 1) := by decide +kernel
theorem dX8_couple_24 : decode cX8_couple 24 = .ok (.if_icmp .ne 6, 3) := by decide +kernel
theorem dX8_couple_27 : decode cX8_couple 27 = .ok (.ldc 161, 2) := by decide +kernel
theorem dX8_couple_29 : decode cX8_couple 29 = .ok (.ireturn, 1) := by decide +kernel
theorem dX8_couple_30 : decode cX8_couple 30 = .ok (.aload_n 0, 1) := by decide +kernel
theorem dX8_couple_31 : decode cX8_couple 31 = .ok (.getfield 88, 3) := by decide +kernel
theorem dX8_couple_34 : decode cX8_couple 34 = .ok (.iload_n 1, 1) := by decide +kernel
theorem dX8_couple_35 : decode cX8_couple 35 = .ok (.iload_n 2, 1) := by decide +kernel
theorem dX8_couple_36 : decode cX8_couple 36 = .ok (.invokevirtual 236, 3) := by decide +kernel
theorem dX8_couple_39 : decode cX8_couple 39 = .ok (.ireturn, 1) := by decide +kernel
theorem dX8_couples_0 : decode cX8_couples 0 = .ok (.iload_n 1, 1) := by decide +kernel
theorem dX8_couples_1 : decode cX8_couples 1 = .ok (.iconst (-1), 1) := by decide +kernel
theorem dX8_couples_2 : decode cX8_couples 2 = .ok (.if_icmp .eq 17, 3) := by decide +kernel
theorem dX8_couples_5 : decode cX8_couples 5 = .ok (.aload_n 0, 1) := by decide +kernel
theorem dX8_couples_6 : decode cX8_couples 6 = .ok (.getfield 23, 3) := by decide +kernel
theorem dX8_couples_9 : decode cX8_couples 9 = .ok (.iload_n 1, 1) := by decide +kernel
theorem dX8_couples_10 : decode cX8_couples 10 = .ok (.invokevirtual 175, 3) := by decide +kernel
theorem dX8_couples_13 : decode cX8_couples 13 = .ok (.ifCond .ne 6, 3) := by decide +kernel
theorem dX8_couples_16 : decode cX8_couples 16 = .ok (.ldc 161, 2) := by decide +kernel
theorem dX8_couples_18 : decode cX8_couples 18 = .ok (.ireturn, 1) := by decide +kernel
theorem dX8_couples_19 : decode cX8_couples 19 = .ok (.aload_n 0, 1) := by decide +kernel
theorem dX8_couples_20 : decode cX8_couples 20 = .ok (.getfield 88, 3) := by decide +kernel
theorem dX8_couples_23 : decode cX8_couples 23 = .ok (.invokevirtual 239, 3) := by decide +kernel
theorem dX8_couples_26 : decode cX8_couples 26 = .ok (.iload_n 1, 1) := by decide +kernel
theorem dX8_couples_27 : decode cX8_couples 27 = .ok (.iconst (-1), 1) := by decide +kernel
theorem dX8_couples_28 : decode cX8_couples 28 = .ok (.if_icmp .ne 13, 3) := by decide +kernel
theorem dX8_couples_31 : decode cX8_couples 31 = .ok (.aload_n 0, 1) := by decide +kernel
theorem dX8_couples_32 : decode cX8_couples 32 = .ok (.getfield 88, 3) := by decide +kernel
theorem dX8_couples_35 : decode cX8_couples 35 = .ok (.invokevirtual 242, 3) := by decide +kernel
theorem dX8_couples_38 : decode cX8_couples 38 = .ok (.goto 11, 3) := by decide +kernel
theorem dX8_couples_41 : decode cX8_couples 41 = .ok (.aload_n 0, 1) := by decide +kernel
theorem dX8_couples_42 : decode cX8_couples 42 = .ok (.getfield 88, 3) := by decide +kernel
theorem dX8_couples_45 : decode cX8_couples 45 = .ok (.iload_n 1, 1) := by decide +kernel
theorem dX8_couples_46 : decode cX8_couples 46 = .ok (.invokevirtual 245, 3) := by decide +kernel
theorem dX8_couples_49 : decode cX8_couples 49 = .ok (.ireturn, 1) := by decide +kernel
theorem dX8_wall_0 : decode cX8_wall 0 = .ok (.aload_n 0, 1) := by decide +kernel
theorem dX8_wall_1 : decode cX8_wall 1 = .ok (.getfield 23, 3) := by decide +kernel
theorem dX8_wall_4 : decode cX8_wall 4 = .ok (.iload_n 1, 1) := by decide +kernel
theorem dX8_wall_5 : decode cX8_wall 5 = .ok (.iload_n 2, 1) := by decide +kernel
theorem dX8_wall_6 : decode cX8_wall 6 = .ok (.invokevirtual 153, 3) := by decide +kernel
theorem dX8_wall_9 : decode cX8_wall 9 = .ok (.istore 4, 2) := by decide +kernel
theorem dX8_wall_11 : decode cX8_wall 11 = .ok (.iload 4, 2) := by decide +kernel
theorem dX8_wall_13 : decode cX8_wall 13 = .ok (.iconst (-1), 1) := by decide +kernel
theorem dX8_wall_14 : decode cX8_wall 14 = .ok (.if_icmp .ne 6, 3) := by decide +kernel
theorem dX8_wall_17 : decode cX8_wall 17 = .ok (.ldc 161, 2) := by decide +kernel
theorem dX8_wall_19 : decode cX8_wall 19 = .ok (.ireturn, 1) := by decide +kernel
theorem dX8_wall_20 : decode cX8_wall 20 = .ok (.iload_n 3, 1) := by decide +kernel
theorem dX8_wall_21 : decode cX8_wall 21 = .ok (.iconst 1, 1) := by decide +kernel
theorem dX8_wall_22 : decode cX8_wall 22 = .ok (.if_icmp .lt 9, 3) := by decide +kernel
theorem dX8_wall_25 : decode cX8_wall 25 = .ok (.iload_n 3, 1) := by decide +kernel
theorem dX8_wall_26 : decode cX8_wall 26 = .ok (.bipush 9, 2) := by decide +kernel
theorem dX8_wall_28 : decode cX8_wall 28 = .ok (.if_icmp .le 6, 3) := by decide +kernel
theorem dX8_wall_31 : decode cX8_wall 31 = .ok (.ldc 92, 2) := by decide +kernel
theorem dX8_wall_33 : decode cX8_wall 33 = .ok (.ireturn, 1) := by decide +kernel
theorem dX8_wall_34 : decode cX8_wall 34 = .ok (.aload_n 0, 1) := by decide +kernel
theorem dX8_wall_35 : decode cX8_wall 35 = .ok (.getfield 72, 3) := by decide +kernel
theorem dX8_wall_38 : decode cX8_wall 38 = .ok (.iload 4, 2) := by decide +kernel
theorem dX8_wall_40 : decode cX8_wall 40 = .ok (.invokevirtual 248, 3) := by decide +kernel
theorem dX8_wall_43 : decode cX8_wall 43 = .ok (.ifCond .ne 6, 3) := by decide +kernel
theorem dX8_wall_46 : decode cX8_wall 46 = .ok (.ldc 207, 2) := by decide +kernel
theorem dX8_wall_48 : decode cX8_wall 48 = .ok (.ireturn, 1) := by decide +kernel
theorem dX8_wall_49 : decode cX8_wall 49 = .ok (.aload_n 0, 1) := by decide +kernel
theorem dX8_wall_50 : decode cX8_wall 50 = .ok (.getfield 63, 3) := by decide +kernel
theorem dX8_wall_53 : decode cX8_wall 53 = .ok (.invokevirtual 146, 3) := by decide +kernel
theorem dX8_wall_56 : decode cX8_wall 56 = .ok (.aload_n 0, 1) := by decide +kernel
theorem dX8_wall_57 : decode cX8_wall 57 = .ok (.getfield 72, 3) := by decide +kernel
theorem dX8_wall_60 : decode cX8_wall 60 = .ok (.iload 4, 2) := by decide +kernel
theorem dX8_wall_62 : decode cX8_wall 62 = .ok (.iload_n 3, 1) := by decide +kernel
theorem dX8_wall_63 : decode cX8_wall 63 = .ok (.iconst (-1), 1) := by decide +kernel
theorem dX8_wall_64 : decode cX8_wall 64 = .ok (.invokevirtual 251, 3) := by decide +kernel
theorem dX8_wall_67 : decode cX8_wall 67 = .ok (.isub, 1) := by decide +kernel
theorem dX8_wall_68 : decode cX8_wall 68 = .ok (.ireturn, 1) := by decide +kernel
theorem dX8_bestWall_0 : decode cX8_bestWall 0 = .ok (.aload_n 0, 1) := by decide +kernel
theorem dX8_bestWall_1 : decode cX8_bestWall 1 = .ok (.getfield 23, 3) := by decide +kernel
theorem dX8_bestWall_4 : decode cX8_bestWall 4 = .ok (.iload_n 2, 1) := by decide +kernel
theorem dX8_bestWall_5 : decode cX8_bestWall 5 = .ok (.invokevirtual 175, 3) := by decide +kernel
theorem dX8_bestWall_8 : decode cX8_bestWall 8 = .ok (.ifCond .ne 6, 3) := by decide +kernel
theorem dX8_bestWall_11 : decode cX8_bestWall 11 = .ok (.ldc 161, 2) := by decide +kernel
theorem dX8_bestWall_13 : decode cX8_bestWall 13 = .ok (.ireturn, 1) := by decide +kernel
theorem dX8_bestWall_14 : decode cX8_bestWall 14 = .ok (.iload_n 1, 1) := by decide +kernel
theorem dX8_bestWall_15 : decode cX8_bestWall 15 = .ok (.iconst 1, 1) := by decide +kernel
theorem dX8_bestWall_16 : decode cX8_bestWall 16 = .ok (.if_icmp .lt 18, 3) := by decide +kernel
theorem dX8_bestWall_19 : decode cX8_bestWall 19 = .ok (.iload_n 1, 1) := by decide +kernel
theorem dX8_bestWall_20 : decode cX8_bestWall 20 = .ok (.bipush 9, 2) := by decide +kernel
theorem dX8_bestWall_22 : decode cX8_bestWall 22 = .ok (.if_icmp .gt 12, 3) := by decide +kernel
theorem dX8_bestWall_25 : decode cX8_bestWall 25 = .ok (.iload_n 3, 1) := by decide +kernel
theorem dX8_bestWall_26 : decode cX8_bestWall 26 = .ok (.ifCond .lt 8, 3) := by decide +kernel
theorem dX8_bestWall_29 : decode cX8_bestWall 29 = .ok (.iload_n 3, 1) := by decide +kernel
theorem dX8_bestWall_30 : decode cX8_bestWall 30 = .ok (.iconst 1, 1) := by decide +kernel
theorem dX8_bestWall_31 : decode cX8_bestWall 31 = .ok (.if_icmp .le 6, 3) := by decide +kernel
theorem dX8_bestWall_34 : decode cX8_bestWall 34 = .ok (.ldc 92, 2) := by decide +kernel
theorem dX8_bestWall_36 : decode cX8_bestWall 36 = .ok (.ireturn, 1) := by decide +kernel
theorem dX8_bestWall_37 : decode cX8_bestWall 37 = .ok (.aload_n 0, 1) := by decide +kernel
theorem dX8_bestWall_38 : decode cX8_bestWall 38 = .ok (.getfield 23, 3) := by decide +kernel
theorem dX8_bestWall_41 : decode cX8_bestWall 41 = .ok (.aload_n 0, 1) := by decide +kernel
theorem dX8_bestWall_42 : decode cX8_bestWall 42 = .ok (.getfield 72, 3) := by decide +kernel
theorem dX8_bestWall_45 : decode cX8_bestWall 45 = .ok (.iload_n 1, 1) := by decide +kernel
theorem dX8_bestWall_46 : decode cX8_bestWall 46 = .ok (.iload_n 3, 1) := by decide +kernel
theorem dX8_bestWall_47 : decode cX8_bestWall 47 = .ok (.iconst 1, 1) := by decide +kernel
theorem dX8_bestWall_48 : decode cX8_bestWall 48 = .ok (.if_icmp .ne 7, 3) := by decide +kernel
theorem dX8_bestWall_51 : decode cX8_bestWall 51 = .ok (.iload_n 2, 1) := by decide +kernel
theorem dX8_bestWall_52 : decode cX8_bestWall 52 = .ok (.goto 4, 3) := by decide +kernel
theorem dX8_bestWall_55 : decode cX8_bestWall 55 = .ok (.iconst (-1), 1) := by decide +kernel
theorem dX8_bestWall_56 : decode cX8_bestWall 56 = .ok (.invokevirtual 254, 3) := by decide +kernel
theorem dX8_bestWall_59 : decode cX8_bestWall 59 = .ok (.invokevirtual 208, 3) := by decide +kernel
theorem dX8_bestWall_62 : decode cX8_bestWall 62 = .ok (.ireturn, 1) := by decide +kernel
theorem dX8_richest_0 : decode cX8_richest 0 = .ok (.iload_n 1, 1) := by decide +kernel
theorem dX8_richest_1 : decode cX8_richest 1 = .ok (.ifCond .lt 8, 3) := by decide +kernel
theorem dX8_richest_4 : decode cX8_richest 4 = .ok (.iload_n 1, 1) := by decide +kernel
theorem dX8_richest_5 : decode cX8_richest 5 = .ok (.iconst 1, 1) := by decide +kernel
theorem dX8_richest_6 : decode cX8_richest 6 = .ok (.if_icmp .le 6, 3) := by decide +kernel
theorem dX8_richest_9 : decode cX8_richest 9 = .ok (.ldc 92, 2) := by decide +kernel
theorem dX8_richest_11 : decode cX8_richest 11 = .ok (.ireturn, 1) := by decide +kernel
theorem dX8_richest_12 : decode cX8_richest 12 = .ok (.aload_n 0, 1) := by decide +kernel
theorem dX8_richest_13 : decode cX8_richest 13 = .ok (.getfield 63, 3) := by decide +kernel
theorem dX8_richest_16 : decode cX8_richest 16 = .ok (.invokevirtual 257, 3) := by decide +kernel
theorem dX8_richest_19 : decode cX8_richest 19 = .ok (.istore_n 2, 1) := by decide +kernel
theorem dX8_richest_20 : decode cX8_richest 20 = .ok (.iload_n 1, 1) := by decide +kernel
theorem dX8_richest_21 : decode cX8_richest 21 = .ok (.ifCond .eq 8, 3) := by decide +kernel
theorem dX8_richest_24 : decode cX8_richest 24 = .ok (.iload_n 2, 1) := by decide +kernel
theorem dX8_richest_25 : decode cX8_richest 25 = .ok (.iconst (-1), 1) := by decide +kernel
theorem dX8_richest_26 : decode cX8_richest 26 = .ok (.if_icmp .ne 7, 3) := by decide +kernel
theorem dX8_richest_29 : decode cX8_richest 29 = .ok (.iload_n 2, 1) := by decide +kernel
theorem dX8_richest_30 : decode cX8_richest 30 = .ok (.goto 11, 3) := by decide +kernel
theorem dX8_richest_33 : decode cX8_richest 33 = .ok (.aload_n 0, 1) := by decide +kernel
theorem dX8_richest_34 : decode cX8_richest 34 = .ok (.getfield 63, 3) := by decide +kernel
theorem dX8_richest_37 : decode cX8_richest 37 = .ok (.iload_n 2, 1) := by decide +kernel
theorem dX8_richest_38 : decode cX8_richest 38 = .ok (.invokevirtual 260, 3) := by decide +kernel
theorem dX8_richest_41 : decode cX8_richest 41 = .ok (.ireturn, 1) := by decide +kernel
theorem dX8_tell_0 : decode cX8_tell 0 = .ok (.aload_n 0, 1) := by decide +kernel
theorem dX8_tell_1 : decode cX8_tell 1 = .ok (.getfield 23, 3) := by decide +kernel
theorem dX8_tell_4 : decode cX8_tell 4 = .ok (.iload_n 1, 1) := by decide +kernel
theorem dX8_tell_5 : decode cX8_tell 5 = .ok (.invokevirtual 157, 3) := by decide +kernel
theorem dX8_tell_8 : decode cX8_tell 8 = .ok (.ifCond .ne 6, 3) := by decide +kernel
theorem dX8_tell_11 : decode cX8_tell 11 = .ok (.ldc 161, 2) := by decide +kernel
theorem dX8_tell_13 : decode cX8_tell 13 = .ok (.ireturn, 1) := by decide +kernel
theorem dX8_tell_14 : decode cX8_tell 14 = .ok (.iload_n 2, 1) := by decide +kernel
theorem dX8_tell_15 : decode cX8_tell 15 = .ok (.ifCond .lt 9, 3) := by decide +kernel
theorem dX8_tell_18 : decode cX8_tell 18 = .ok (.iload_n 2, 1) := by decide +kernel
theorem dX8_tell_19 : decode cX8_tell 19 = .ok (.bipush 99, 2) := by decide +kernel
theorem dX8_tell_21 : decode cX8_tell 21 = .ok (.if_icmp .le 6, 3) := by decide +kernel
theorem dX8_tell_24 : decode cX8_tell 24 = .ok (.ldc 92, 2) := by decide +kernel
theorem dX8_tell_26 : decode cX8_tell 26 = .ok (.ireturn, 1) := by decide +kernel
theorem dX8_tell_27 : decode cX8_tell 27 = .ok (.aload_n 0, 1) := by decide +kernel
theorem dX8_tell_28 : decode cX8_tell 28 = .ok (.getfield 52, 3) := by decide +kernel
theorem dX8_tell_31 : decode cX8_tell 31 = .ok (.iconst 0, 1) := by decide +kernel
theorem dX8_tell_32 : decode cX8_tell 32 = .ok (.iload_n 1, 1) := by decide +kernel
theorem dX8_tell_33 : decode cX8_tell 33 = .ok (.iload_n 2, 1) := by decide +kernel
theorem dX8_tell_34 : decode cX8_tell 34 = .ok (.invokevirtual 226, 3) := by decide +kernel
theorem dX8_tell_37 : decode cX8_tell 37 = .ok (.ifCond .eq 13, 3) := by decide +kernel
theorem dX8_tell_40 : decode cX8_tell 40 = .ok (.aload_n 0, 1) := by decide +kernel
theorem dX8_tell_41 : decode cX8_tell 41 = .ok (.getfield 52, 3) := by decide +kernel
theorem dX8_tell_44 : decode cX8_tell 44 = .ok (.getfield 143, 3) := by decide +kernel
theorem dX8_tell_47 : decode cX8_tell 47 = .ok (.goto 5, 3) := by decide +kernel
theorem dX8_tell_50 : decode cX8_tell 50 = .ok (.ldc 97, 2) := by decide +kernel
theorem dX8_tell_52 : decode cX8_tell 52 = .ok (.ireturn, 1) := by decide +kernel
theorem dX8_stood_0 : decode cX8_stood 0 = .ok (.aload_n 0, 1) := by decide +kernel
theorem dX8_stood_1 : decode cX8_stood 1 = .ok (.getfield 23, 3) := by decide +kernel
theorem dX8_stood_4 : decode cX8_stood 4 = .ok (.iload_n 1, 1) := by decide +kernel
theorem dX8_stood_5 : decode cX8_stood 5 = .ok (.invokevirtual 175, 3) := by decide +kernel
theorem dX8_stood_8 : decode cX8_stood 8 = .ok (.ifCond .ne 6, 3) := by decide +kernel
theorem dX8_stood_11 : decode cX8_stood 11 = .ok (.ldc 161, 2) := by decide +kernel
theorem dX8_stood_13 : decode cX8_stood 13 = .ok (.ireturn, 1) := by decide +kernel
theorem dX8_stood_14 : decode cX8_stood 14 = .ok (.iload_n 2, 1) := by decide +kernel
theorem dX8_stood_15 : decode cX8_stood 15 = .ok (.iconst (-1), 1) := by decide +kernel
theorem dX8_stood_16 : decode cX8_stood 16 = .ok (.if_icmp .ne 18, 3) := by decide +kernel
theorem dX8_stood_19 : decode cX8_stood 19 = .ok (.aload_n 0, 1) := by decide +kernel
theorem dX8_stood_20 : decode cX8_stood 20 = .ok (.getfield 72, 3) := by decide +kernel
theorem dX8_stood_23 : decode cX8_stood 23 = .ok (.iload_n 1, 1) := by decide +kernel
theorem dX8_stood_24 : decode cX8_stood 24 = .ok (.aload_n 0, 1) := by decide +kernel
theorem dX8_stood_25 : decode cX8_stood 25 = .ok (.getfield 52, 3) := by decide +kernel
theorem dX8_stood_28 : decode cX8_stood 28 = .ok (.invokevirtual 263, 3) := by decide +kernel
theorem dX8_stood_31 : decode cX8_stood 31 = .ok (.goto 23, 3) := by decide +kernel
theorem dX8_stood_34 : decode cX8_stood 34 = .ok (.aload_n 0, 1) := by decide +kernel
theorem dX8_stood_35 : decode cX8_stood 35 = .ok (.getfield 23, 3) := by decide +kernel
theorem dX8_stood_38 : decode cX8_stood 38 = .ok (.aload_n 0, 1) := by decide +kernel
theorem dX8_stood_39 : decode cX8_stood 39 = .ok (.getfield 72, 3) := by decide +kernel
theorem dX8_stood_42 : decode cX8_stood 42 = .ok (.iload_n 1, 1) := by decide +kernel
theorem dX8_stood_43 : decode cX8_stood 43 = .ok (.aload_n 0, 1) := by decide +kernel
theorem dX8_stood_44 : decode cX8_stood 44 = .ok (.getfield 52, 3) := by decide +kernel
theorem dX8_stood_47 : decode cX8_stood 47 = .ok (.iload_n 2, 1) := by decide +kernel
theorem dX8_stood_48 : decode cX8_stood 48 = .ok (.invokevirtual 267, 3) := by decide +kernel
theorem dX8_stood_51 : decode cX8_stood 51 = .ok (.invokevirtual 208, 3) := by decide +kernel
theorem dX8_stood_54 : decode cX8_stood 54 = .ok (.ireturn, 1) := by decide +kernel
theorem dX8_write_0 : decode cX8_write 0 = .ok (.aload_n 0, 1) := by decide +kernel
theorem dX8_write_1 : decode cX8_write 1 = .ok (.getfield 23, 3) := by decide +kernel
theorem dX8_write_4 : decode cX8_write 4 = .ok (.iload_n 1, 1) := by decide +kernel
theorem dX8_write_5 : decode cX8_write 5 = .ok (.invokevirtual 157, 3) := by decide +kernel
theorem dX8_write_8 : decode cX8_write 8 = .ok (.ifCond .eq 14, 3) := by decide +kernel
theorem dX8_write_11 : decode cX8_write 11 = .ok (.aload_n 0, 1) := by decide +kernel
theorem dX8_write_12 : decode cX8_write 12 = .ok (.getfield 23, 3) := by decide +kernel
theorem dX8_write_15 : decode cX8_write 15 = .ok (.iload_n 2, 1) := by decide +kernel
theorem dX8_write_16 : decode cX8_write 16 = .ok (.invokevirtual 175, 3) := by decide +kernel
theorem dX8_write_19 : decode cX8_write 19 = .ok (.ifCond .ne 6, 3) := by decide +kernel
theorem dX8_write_22 : decode cX8_write 22 = .ok (.ldc 161, 2) := by decide +kernel
theorem dX8_write_24 : decode cX8_write 24 = .ok (.ireturn, 1) := by decide +kernel
theorem dX8_write_25 : decode cX8_write 25 = .ok (.iload_n 3, 1) := by decide +kernel
theorem dX8_write_26 : decode cX8_write 26 = .ok (.ifCond .lt 9, 3) := by decide +kernel
theorem dX8_write_29 : decode cX8_write 29 = .ok (.iload_n 3, 1) := by decide +kernel
theorem dX8_write_30 : decode cX8_write 30 = .ok (.bipush 99, 2) := by decide +kernel
theorem dX8_write_32 : decode cX8_write 32 = .ok (.if_icmp .le 6, 3) := by decide +kernel
theorem dX8_write_35 : decode cX8_write 35 = .ok (.ldc 92, 2) := by decide +kernel
theorem dX8_write_37 : decode cX8_write 37 = .ok (.ireturn, 1) := by decide +kernel
theorem dX8_write_38 : decode cX8_write 38 = .ok (.aload_n 0, 1) := by decide +kernel
theorem dX8_write_39 : decode cX8_write 39 = .ok (.getfield 55, 3) := by decide +kernel
theorem dX8_write_42 : decode cX8_write 42 = .ok (.iload_n 2, 1) := by decide +kernel
theorem dX8_write_43 : decode cX8_write 43 = .ok (.iload_n 1, 1) := by decide +kernel
theorem dX8_write_44 : decode cX8_write 44 = .ok (.iload_n 3, 1) := by decide +kernel
theorem dX8_write_45 : decode cX8_write 45 = .ok (.invokevirtual 226, 3) := by decide +kernel
theorem dX8_write_48 : decode cX8_write 48 = .ok (.ifCond .eq 13, 3) := by decide +kernel
theorem dX8_write_51 : decode cX8_write 51 = .ok (.aload_n 0, 1) := by decide +kernel
theorem dX8_write_52 : decode cX8_write 52 = .ok (.getfield 55, 3) := by decide +kernel
theorem dX8_write_55 : decode cX8_write 55 = .ok (.getfield 143, 3) := by decide +kernel
theorem dX8_write_58 : decode cX8_write 58 = .ok (.goto 5, 3) := by decide +kernel
theorem dX8_write_61 : decode cX8_write 61 = .ok (.ldc 97, 2) := by decide +kernel
theorem dX8_write_63 : decode cX8_write 63 = .ok (.ireturn, 1) := by decide +kernel
theorem dX8_tear_0 : decode cX8_tear 0 = .ok (.aload_n 0, 1) := by decide +kernel
theorem dX8_tear_1 : decode cX8_tear 1 = .ok (.getfield 48, 3) := by decide +kernel
theorem dX8_tear_4 : decode cX8_tear 4 = .ok (.getfield 143, 3) := by decide +kernel
theorem dX8_tear_7 : decode cX8_tear 7 = .ok (.aload_n 0, 1) := by decide +kernel
theorem dX8_tear_8 : decode cX8_tear 8 = .ok (.getfield 52, 3) := by decide +kernel
theorem dX8_tear_11 : decode cX8_tear 11 = .ok (.getfield 143, 3) := by decide +kernel
theorem dX8_tear_14 : decode cX8_tear 14 = .ok (.iadd, 1) := by decide +kernel
theorem dX8_tear_15 : decode cX8_tear 15 = .ok (.aload_n 0, 1) := by decide +kernel
theorem dX8_tear_16 : decode cX8_tear 16 = .ok (.getfield 55, 3) := by decide +kernel
theorem dX8_tear_19 : decode cX8_tear 19 = .ok (.getfield 143, 3) := by decide +kernel
theorem dX8_tear_22 : decode cX8_tear 22 = .ok (.iadd, 1) := by decide +kernel
theorem dX8_tear_23 : decode cX8_tear 23 = .ok (.istore_n 1, 1) := by decide +kernel
theorem dX8_tear_24 : decode cX8_tear 24 = .ok (.aload_n 0, 1) := by decide +kernel
theorem dX8_tear_25 : decode cX8_tear 25 = .ok (.invokevirtual 116, 3) := by decide +kernel
theorem dX8_tear_28 : decode cX8_tear 28 = .ok (.iload_n 1, 1) := by decide +kernel
theorem dX8_tear_29 : decode cX8_tear 29 = .ok (.ireturn, 1) := by decide +kernel
theorem dX8_judge_0 : decode cX8_judge 0 = .ok (.iconst 0, 1) := by decide +kernel
theorem dX8_judge_1 : decode cX8_judge 1 = .ok (.istore_n 1, 1) := by decide +kernel
theorem dX8_judge_2 : decode cX8_judge 2 = .ok (.iload_n 1, 1) := by decide +kernel
theorem dX8_judge_3 : decode cX8_judge 3 = .ok (.aload_n 0, 1) := by decide +kernel
theorem dX8_judge_4 : decode cX8_judge 4 = .ok (.getfield 55, 3) := by decide +kernel
theorem dX8_judge_7 : decode cX8_judge 7 = .ok (.getfield 143, 3) := by decide +kernel
theorem dX8_judge_10 : decode cX8_judge 10 = .ok (.if_icmp .ge 46, 3) := by decide +kernel
theorem dX8_judge_13 : decode cX8_judge 13 = .ok (.aload_n 0, 1) := by decide +kernel
theorem dX8_judge_14 : decode cX8_judge 14 = .ok (.getfield 55, 3) := by decide +kernel
theorem dX8_judge_17 : decode cX8_judge 17 = .ok (.iload_n 1, 1) := by decide +kernel
theorem dX8_judge_18 : decode cX8_judge 18 = .ok (.invokevirtual 271, 3) := by decide +kernel
theorem dX8_judge_21 : decode cX8_judge 21 = .ok (.istore_n 2, 1) := by decide +kernel
theorem dX8_judge_22 : decode cX8_judge 22 = .ok (.aload_n 0, 1) := by decide +kernel
theorem dX8_judge_23 : decode cX8_judge 23 = .ok (.getfield 55, 3) := by decide +kernel
theorem dX8_judge_26 : decode cX8_judge 26 = .ok (.iload_n 1, 1) := by decide +kernel
theorem dX8_judge_27 : decode cX8_judge 27 = .ok (.invokevirtual 274, 3) := by decide +kernel
theorem dX8_judge_30 : decode cX8_judge 30 = .ok (.istore_n 3, 1) := by decide +kernel
theorem dX8_judge_31 : decode cX8_judge 31 = .ok (.aload_n 0, 1) := by decide +kernel
theorem dX8_judge_32 : decode cX8_judge 32 = .ok (.iload_n 2, 1) := by decide +kernel
theorem dX8_judge_33 : decode cX8_judge 33 = .ok (.iload_n 3, 1) := by decide +kernel
theorem dX8_judge_34 : decode cX8_judge 34 = .ok (.invokevirtual 277, 3) := by decide +kernel
theorem dX8_judge_37 : decode cX8_judge 37 = .ok (.aload_n 0, 1) := by decide +kernel
theorem dX8_judge_38 : decode cX8_judge 38 = .ok (.getfield 55, 3) := by decide +kernel
theorem dX8_judge_41 : decode cX8_judge 41 = .ok (.iload_n 1, 1) := by decide +kernel
theorem dX8_judge_42 : decode cX8_judge 42 = .ok (.invokevirtual 280, 3) := by decide +kernel
theorem dX8_judge_45 : decode cX8_judge 45 = .ok (.if_icmp .eq 5, 3) := by decide +kernel
theorem dX8_judge_48 : decode cX8_judge 48 = .ok (.iload_n 1, 1) := by decide +kernel
theorem dX8_judge_49 : decode cX8_judge 49 = .ok (.ireturn, 1) := by decide +kernel
theorem dX8_judge_50 : decode cX8_judge 50 = .ok (.iinc 1 1, 3) := by decide +kernel
theorem dX8_judge_53 : decode cX8_judge 53 = .ok (.goto (-51), 3) := by decide +kernel
theorem dX8_judge_56 : decode cX8_judge 56 = .ok (.iconst (-1), 1) := by decide +kernel
theorem dX8_judge_57 : decode cX8_judge 57 = .ok (.ireturn, 1) := by decide +kernel
theorem dX8_seed_0 : decode cX8_seed 0 = .ok (.iload_n 1, 1) := by decide +kernel
theorem dX8_seed_1 : decode cX8_seed 1 = .ok (.ifCond .ge 6, 3) := by decide +kernel
theorem dX8_seed_4 : decode cX8_seed 4 = .ok (.ldc 92, 2) := by decide +kernel
theorem dX8_seed_6 : decode cX8_seed 6 = .ok (.ireturn, 1) := by decide +kernel
theorem dX8_seed_7 : decode cX8_seed 7 = .ok (.aload_n 0, 1) := by decide +kernel
theorem dX8_seed_8 : decode cX8_seed 8 = .ok (.getfield 29, 3) := by decide +kernel
theorem dX8_seed_11 : decode cX8_seed 11 = .ok (.getfield 283, 3) := by decide +kernel
theorem dX8_seed_14 : decode cX8_seed 14 = .ok (.istore_n 2, 1) := by decide +kernel
theorem dX8_seed_15 : decode cX8_seed 15 = .ok (.aload_n 0, 1) := by decide +kernel
theorem dX8_seed_16 : decode cX8_seed 16 = .ok (.getfield 29, 3) := by decide +kernel
theorem dX8_seed_19 : decode cX8_seed 19 = .ok (.iload_n 1, 1) := by decide +kernel
theorem dX8_seed_20 : decode cX8_seed 20 = .ok (.putfield 283, 3) := by decide +kernel
theorem dX8_seed_23 : decode cX8_seed 23 = .ok (.iload_n 2, 1) := by decide +kernel
theorem dX8_seed_24 : decode cX8_seed 24 = .ok (.ireturn, 1) := by decide +kernel
theorem dX8_keep_0 : decode cX8_keep 0 = .ok (.iload_n 1, 1) := by decide +kernel
theorem dX8_keep_1 : decode cX8_keep 1 = .ok (.ifCond .lt 8, 3) := by decide +kernel
theorem dX8_keep_4 : decode cX8_keep 4 = .ok (.iload_n 1, 1) := by decide +kernel
theorem dX8_keep_5 : decode cX8_keep 5 = .ok (.iconst 2, 1) := by decide +kernel
theorem dX8_keep_6 : decode cX8_keep 6 = .ok (.if_icmp .lt 6, 3) := by decide +kernel
theorem dX8_keep_9 : decode cX8_keep 9 = .ok (.ldc 161, 2) := by decide +kernel
theorem dX8_keep_11 : decode cX8_keep 11 = .ok (.ireturn, 1) := by decide +kernel
theorem dX8_keep_12 : decode cX8_keep 12 = .ok (.aload_n 0, 1) := by decide +kernel
theorem dX8_keep_13 : decode cX8_keep 13 = .ok (.iload_n 1, 1) := by decide +kernel
theorem dX8_keep_14 : decode cX8_keep 14 = .ok (.invokevirtual 286, 3) := by decide +kernel
theorem dX8_keep_17 : decode cX8_keep 17 = .ok (.aload_n 0, 1) := by decide +kernel
theorem dX8_keep_18 : decode cX8_keep 18 = .ok (.getfield 29, 3) := by decide +kernel
theorem dX8_keep_21 : decode cX8_keep 21 = .ok (.invokevirtual 290, 3) := by decide +kernel
theorem dX8_keep_24 : decode cX8_keep 24 = .ok (.aload_n 0, 1) := by decide +kernel
theorem dX8_keep_25 : decode cX8_keep 25 = .ok (.getfield 39, 3) := by decide +kernel
theorem dX8_keep_28 : decode cX8_keep 28 = .ok (.iload_n 1, 1) := by decide +kernel
theorem dX8_keep_29 : decode cX8_keep 29 = .ok (.iconst 1, 1) := by decide +kernel
theorem dX8_keep_30 : decode cX8_keep 30 = .ok (.iastore, 1) := by decide +kernel
theorem dX8_keep_31 : decode cX8_keep 31 = .ok (.iconst 1, 1) := by decide +kernel
theorem dX8_keep_32 : decode cX8_keep 32 = .ok (.ireturn, 1) := by decide +kernel
theorem dX8_goBack_0 : decode cX8_goBack 0 = .ok (.iload_n 1, 1) := by decide +kernel
theorem dX8_goBack_1 : decode cX8_goBack 1 = .ok (.ifCond .lt 8, 3) := by decide +kernel
theorem dX8_goBack_4 : decode cX8_goBack 4 = .ok (.iload_n 1, 1) := by decide +kernel
theorem dX8_goBack_5 : decode cX8_goBack 5 = .ok (.iconst 2, 1) := by decide +kernel
theorem dX8_goBack_6 : decode cX8_goBack 6 = .ok (.if_icmp .lt 6, 3) := by decide +kernel
theorem dX8_goBack_9 : decode cX8_goBack 9 = .ok (.ldc 161, 2) := by decide +kernel
theorem dX8_goBack_11 : decode cX8_goBack 11 = .ok (.ireturn, 1) := by decide +kernel
theorem dX8_goBack_12 : decode cX8_goBack 12 = .ok (.aload_n 0, 1) := by decide +kernel
theorem dX8_goBack_13 : decode cX8_goBack 13 = .ok (.getfield 39, 3) := by decide +kernel
theorem dX8_goBack_16 : decode cX8_goBack 16 = .ok (.iload_n 1, 1) := by decide +kernel
theorem dX8_goBack_17 : decode cX8_goBack 17 = .ok (.iaload, 1) := by decide +kernel
theorem dX8_goBack_18 : decode cX8_goBack 18 = .ok (.ifCond .ne 6, 3) := by decide +kernel
theorem dX8_goBack_21 : decode cX8_goBack 21 = .ok (.ldc 207, 2) := by decide +kernel
theorem dX8_goBack_23 : decode cX8_goBack 23 = .ok (.ireturn, 1) := by decide +kernel
theorem dX8_goBack_24 : decode cX8_goBack 24 = .ok (.aload_n 0, 1) := by decide +kernel
theorem dX8_goBack_25 : decode cX8_goBack 25 = .ok (.getfield 29, 3) := by decide +kernel
theorem dX8_goBack_28 : decode cX8_goBack 28 = .ok (.aload_n 0, 1) := by decide +kernel
theorem dX8_goBack_29 : decode cX8_goBack 29 = .ok (.iload_n 1, 1) := by decide +kernel
theorem dX8_goBack_30 : decode cX8_goBack 30 = .ok (.invokevirtual 286, 3) := by decide +kernel
theorem dX8_goBack_33 : decode cX8_goBack 33 = .ok (.invokevirtual 290, 3) := by decide +kernel
theorem dX8_goBack_36 : decode cX8_goBack 36 = .ok (.aload_n 0, 1) := by decide +kernel
theorem dX8_goBack_37 : decode cX8_goBack 37 = .ok (.getfield 63, 3) := by decide +kernel
theorem dX8_goBack_40 : decode cX8_goBack 40 = .ok (.invokevirtual 113, 3) := by decide +kernel
theorem dX8_goBack_43 : decode cX8_goBack 43 = .ok (.iconst 1, 1) := by decide +kernel
theorem dX8_goBack_44 : decode cX8_goBack 44 = .ok (.ireturn, 1) := by decide +kernel
theorem dX8_imageOf_0 : decode cX8_imageOf 0 = .ok (.iload_n 1, 1) := by decide +kernel
theorem dX8_imageOf_1 : decode cX8_imageOf 1 = .ok (.ifCond .ne 10, 3) := by decide +kernel
theorem dX8_imageOf_4 : decode cX8_imageOf 4 = .ok (.aload_n 0, 1) := by decide +kernel
theorem dX8_imageOf_5 : decode cX8_imageOf 5 = .ok (.getfield 33, 3) := by decide +kernel
theorem dX8_imageOf_8 : decode cX8_imageOf 8 = .ok (.goto 7, 3) := by decide +kernel
theorem dX8_imageOf_11 : decode cX8_imageOf 11 = .ok (.aload_n 0, 1) := by decide +kernel
theorem dX8_imageOf_12 : decode cX8_imageOf 12 = .ok (.getfield 36, 3) := by decide +kernel
theorem dX8_imageOf_15 : decode cX8_imageOf 15 = .ok (.areturn, 1) := by decide +kernel
theorem dX8_clearNotes_0 : decode cX8_clearNotes 0 = .ok (.aload_n 0, 1) := by decide +kernel
theorem dX8_clearNotes_1 : decode cX8_clearNotes 1 = .ok (.getfield 48, 3) := by decide +kernel
theorem dX8_clearNotes_4 : decode cX8_clearNotes 4 = .ok (.invokevirtual 293, 3) := by decide +kernel
theorem dX8_clearNotes_7 : decode cX8_clearNotes 7 = .ok (.aload_n 0, 1) := by decide +kernel
theorem dX8_clearNotes_8 : decode cX8_clearNotes 8 = .ok (.getfield 52, 3) := by decide +kernel
theorem dX8_clearNotes_11 : decode cX8_clearNotes 11 = .ok (.invokevirtual 293, 3) := by decide +kernel
theorem dX8_clearNotes_14 : decode cX8_clearNotes 14 = .ok (.aload_n 0, 1) := by decide +kernel
theorem dX8_clearNotes_15 : decode cX8_clearNotes 15 = .ok (.getfield 55, 3) := by decide +kernel
theorem dX8_clearNotes_18 : decode cX8_clearNotes 18 = .ok (.invokevirtual 293, 3) := by decide +kernel
theorem dX8_clearNotes_21 : decode cX8_clearNotes 21 = .ok (.return_, 1) := by decide +kernel
theorem dX8_drawHour_0 : decode cX8_drawHour 0 = .ok (.aload_n 0, 1) := by decide +kernel
theorem dX8_drawHour_1 : decode cX8_drawHour 1 = .ok (.getfield 29, 3) := by decide +kernel
theorem dX8_drawHour_4 : decode cX8_drawHour 4 = .ok (.bipush 100, 2) := by decide +kernel
theorem dX8_drawHour_6 : decode cX8_drawHour 6 = .ok (.invokevirtual 296, 3) := by decide +kernel
theorem dX8_drawHour_9 : decode cX8_drawHour 9 = .ok (.aload_n 0, 1) := by decide +kernel
theorem dX8_drawHour_10 : decode cX8_drawHour 10 = .ok (.getfield 23, 3) := by decide +kernel
theorem dX8_drawHour_13 : decode cX8_drawHour 13 = .ok (.getfield 150, 3) := by decide +kernel
theorem dX8_drawHour_16 : decode cX8_drawHour 16 = .ok (.if_icmp .ge 5, 3) := by decide +kernel
theorem dX8_drawHour_19 : decode cX8_drawHour 19 = .ok (.iconst (-1), 1) := by decide +kernel
theorem dX8_drawHour_20 : decode cX8_drawHour 20 = .ok (.ireturn, 1) := by decide +kernel
theorem dX8_drawHour_21 : decode cX8_drawHour 21 = .ok (.aload_n 0, 1) := by decide +kernel
theorem dX8_drawHour_22 : decode cX8_drawHour 22 = .ok (.getfield 23, 3) := by decide +kernel
theorem dX8_drawHour_25 : decode cX8_drawHour 25 = .ok (.invokevirtual 299, 3) := by decide +kernel
theorem dX8_drawHour_28 : decode cX8_drawHour 28 = .ok (.istore_n 1, 1) := by decide +kernel
theorem dX8_drawHour_29 : decode cX8_drawHour 29 = .ok (.iload_n 1, 1) := by decide +kernel
theorem dX8_drawHour_30 : decode cX8_drawHour 30 = .ok (.ifCond .ne 5, 3) := by decide +kernel
theorem dX8_drawHour_33 : decode cX8_drawHour 33 = .ok (.iconst (-1), 1) := by decide +kernel
theorem dX8_drawHour_34 : decode cX8_drawHour 34 = .ok (.ireturn, 1) := by decide +kernel
theorem dX8_drawHour_35 : decode cX8_drawHour 35 = .ok (.aload_n 0, 1) := by decide +kernel
theorem dX8_drawHour_36 : decode cX8_drawHour 36 = .ok (.getfield 23, 3) := by decide +kernel
theorem dX8_drawHour_39 : decode cX8_drawHour 39 = .ok (.aload_n 0, 1) := by decide +kernel
theorem dX8_drawHour_40 : decode cX8_drawHour 40 = .ok (.getfield 29, 3) := by decide +kernel
theorem dX8_drawHour_43 : decode cX8_drawHour 43 = .ok (.iload_n 1, 1) := by decide +kernel
theorem dX8_drawHour_44 : decode cX8_drawHour 44 = .ok (.invokevirtual 296, 3) := by decide +kernel
theorem dX8_drawHour_47 : decode cX8_drawHour 47 = .ok (.invokevirtual 302, 3) := by decide +kernel
theorem dX8_drawHour_50 : decode cX8_drawHour 50 = .ok (.ireturn, 1) := by decide +kernel
theorem dX8_payAt_0 : decode cX8_payAt 0 = .ok (.aload_n 0, 1) := by decide +kernel
theorem dX8_payAt_1 : decode cX8_payAt 1 = .ok (.getfield 23, 3) := by decide +kernel
theorem dX8_payAt_4 : decode cX8_payAt 4 = .ok (.iload_n 1, 1) := by decide +kernel
theorem dX8_payAt_5 : decode cX8_payAt 5 = .ok (.invokevirtual 157, 3) := by decide +kernel
theorem dX8_payAt_8 : decode cX8_payAt 8 = .ok (.ifCond .ne 4, 3) := by decide +kernel
theorem dX8_payAt_11 : decode cX8_payAt 11 = .ok (.return_, 1) := by decide +kernel
theorem dX8_payAt_12 : decode cX8_payAt 12 = .ok (.iconst 0, 1) := by decide +kernel
theorem dX8_payAt_13 : decode cX8_payAt 13 = .ok (.istore_n 2, 1) := by decide +kernel
theorem dX8_payAt_14 : decode cX8_payAt 14 = .ok (.iload_n 2, 1) := by decide +kernel
theorem dX8_payAt_15 : decode cX8_payAt 15 = .ok (.aload_n 0, 1) := by decide +kernel
theorem dX8_payAt_16 : decode cX8_payAt 16 = .ok (.getfield 23, 3) := by decide +kernel
theorem dX8_payAt_19 : decode cX8_payAt 19 = .ok (.getfield 134, 3) := by decide +kernel
theorem dX8_payAt_22 : decode cX8_payAt 22 = .ok (.if_icmp .ge 54, 3) := by decide +kernel
theorem dX8_payAt_25 : decode cX8_payAt 25 = .ok (.aload_n 0, 1) := by decide +kernel
theorem dX8_payAt_26 : decode cX8_payAt 26 = .ok (.getfield 63, 3) := by decide +kernel
theorem dX8_payAt_29 : decode cX8_payAt 29 = .ok (.iload_n 2, 1) := by decide +kernel
theorem dX8_payAt_30 : decode cX8_payAt 30 = .ok (.aload_n 0, 1) := by decide +kernel
theorem dX8_payAt_31 : decode cX8_payAt 31 = .ok (.getfield 29, 3) := by decide +kernel
theorem dX8_payAt_34 : decode cX8_payAt 34 = .ok (.getfield 178, 3) := by decide +kernel
theorem dX8_payAt_37 : decode cX8_payAt 37 = .ok (.iload_n 2, 1) := by decide +kernel
theorem dX8_payAt_38 : decode cX8_payAt 38 = .ok (.iaload, 1) := by decide +kernel
theorem dX8_payAt_39 : decode cX8_payAt 39 = .ok (.iload_n 1, 1) := by decide +kernel
theorem dX8_payAt_40 : decode cX8_payAt 40 = .ok (.invokevirtual 203, 3) := by decide +kernel
theorem dX8_payAt_43 : decode cX8_payAt 43 = .ok (.istore_n 3, 1) := by decide +kernel
theorem dX8_payAt_44 : decode cX8_payAt 44 = .ok (.aload_n 0, 1) := by decide +kernel
theorem dX8_payAt_45 : decode cX8_payAt 45 = .ok (.getfield 29, 3) := by decide +kernel
theorem dX8_payAt_48 : decode cX8_payAt 48 = .ok (.getfield 194, 3) := by decide +kernel
theorem dX8_payAt_51 : decode cX8_payAt 51 = .ok (.iload_n 2, 1) := by decide +kernel
theorem dX8_payAt_52 : decode cX8_payAt 52 = .ok (.dup2, 1) := by decide +kernel
theorem dX8_payAt_53 : decode cX8_payAt 53 = .ok (.iaload, 1) := by decide +kernel
theorem dX8_payAt_54 : decode cX8_payAt 54 = .ok (.iload_n 3, 1) := by decide +kernel
theorem dX8_payAt_55 : decode cX8_payAt 55 = .ok (.isub, 1) := by decide +kernel
theorem dX8_payAt_56 : decode cX8_payAt 56 = .ok (.iastore, 1) := by decide +kernel
theorem dX8_payAt_57 : decode cX8_payAt 57 = .ok (.aload_n 0, 1) := by decide +kernel
theorem dX8_payAt_58 : decode cX8_payAt 58 = .ok (.getfield 29, 3) := by decide +kernel
theorem dX8_payAt_61 : decode cX8_payAt 61 = .ok (.dup, 1) := by decide +kernel
theorem dX8_payAt_62 : decode cX8_payAt 62 = .ok (.getfield 140, 3) := by decide +kernel
theorem dX8_payAt_65 : decode cX8_payAt 65 = .ok (.iload_n 3, 1) := by decide +kernel
theorem dX8_payAt_66 : decode cX8_payAt 66 = .ok (.iadd, 1) := by decide +kernel
theorem dX8_payAt_67 : decode cX8_payAt 67 = .ok (.putfield 140, 3) := by decide +kernel
theorem dX8_payAt_70 : decode cX8_payAt 70 = .ok (.iinc 2 1, 3) := by decide +kernel
theorem dX8_payAt_73 : decode cX8_payAt 73 = .ok (.goto (-59), 3) := by decide +kernel
theorem dX8_payAt_76 : decode cX8_payAt 76 = .ok (.return_, 1) := by decide +kernel
theorem dX8_wander_0 : decode cX8_wander 0 = .ok (.iconst 0, 1) := by decide +kernel
theorem dX8_wander_1 : decode cX8_wander 1 = .ok (.istore_n 1, 1) := by decide +kernel
theorem dX8_wander_2 : decode cX8_wander 2 = .ok (.iload_n 1, 1) := by decide +kernel
theorem dX8_wander_3 : decode cX8_wander 3 = .ok (.aload_n 0, 1) := by decide +kernel
theorem dX8_wander_4 : decode cX8_wander 4 = .ok (.getfield 23, 3) := by decide +kernel
theorem dX8_wander_7 : decode cX8_wander 7 = .ok (.getfield 134, 3) := by decide +kernel
theorem dX8_wander_10 : decode cX8_wander 10 = .ok (.if_icmp .ge 108, 3) := by decide +kernel
theorem dX8_wander_13 : decode cX8_wander 13 = .ok (.aload_n 0, 1) := by decide +kernel
theorem dX8_wander_14 : decode cX8_wander 14 = .ok (.getfield 29, 3) := by decide +kernel
theorem dX8_wander_17 : decode cX8_wander 17 = .ok (.bipush 9, 2) := by decide +kernel
theorem dX8_wander_19 : decode cX8_wander 19 = .ok (.invokevirtual 296, 3) := by decide +kernel
theorem dX8_wander_22 : decode cX8_wander 22 = .ok (.istore_n 2, 1) := by decide +kernel
theorem dX8_wander_23 : decode cX8_wander 23 = .ok (.aload_n 0, 1) := by decide +kernel
theorem dX8_wander_24 : decode cX8_wander 24 = .ok (.getfield 23, 3) := by decide +kernel
theorem dX8_wander_27 : decode cX8_wander 27 = .ok (.aload_n 0, 1) := by decide +kernel
theorem dX8_wander_28 : decode cX8_wander 28 = .ok (.getfield 29, 3) := by decide +kernel
theorem dX8_wander_31 : decode cX8_wander 31 = .ok (.getfield 178, 3) := by decide +kernel
theorem dX8_wander_34 : decode cX8_wander 34 = .ok (.iload_n 1, 1) := by decide +kernel
theorem dX8_wander_35 : decode cX8_wander 35 = .ok (.iaload, 1) := by decide +kernel
theorem dX8_wander_36 : decode cX8_wander 36 = .ok (.invokevirtual 181, 3) := by decide +kernel
theorem dX8_wander_39 : decode cX8_wander 39 = .ok (.iload_n 2, 1) := by decide +kernel
theorem dX8_wander_40 : decode cX8_wander 40 = .ok (.iconst 3, 1) := by decide +kernel
theorem dX8_wander_41 : decode cX8_wander 41 = .ok (.irem, 1) := by decide +kernel
theorem dX8_wander_42 : decode cX8_wander 42 = .ok (.iadd, 1) := by decide +kernel
theorem dX8_wander_43 : decode cX8_wander 43 = .ok (.iconst 1, 1) := by decide +kernel
theorem dX8_wander_44 : decode cX8_wander 44 = .ok (.isub, 1) := by decide +kernel
theorem dX8_wander_45 : decode cX8_wander 45 = .ok (.istore_n 3, 1) := by decide +kernel
theorem dX8_wander_46 : decode cX8_wander 46 = .ok (.aload_n 0, 1) := by decide +kernel
theorem dX8_wander_47 : decode cX8_wander 47 = .ok (.getfield 23, 3) := by decide +kernel
theorem dX8_wander_50 : decode cX8_wander 50 = .ok (.aload_n 0, 1) := by decide +kernel
theorem dX8_wander_51 : decode cX8_wander 51 = .ok (.getfield 29, 3) := by decide +kernel
theorem dX8_wander_54 : decode cX8_wander 54 = .ok (.getfield 178, 3) := by decide +kernel
theorem dX8_wander_57 : decode cX8_wander 57 = .ok (.iload_n 1, 1) := by decide +kernel
theorem dX8_wander_58 : decode cX8_wander 58 = .ok (.iaload, 1) := by decide +kernel
theorem dX8_wander_59 : decode cX8_wander 59 = .ok (.invokevirtual 185, 3) := by decide +kernel
theorem dX8_wander_62 : decode cX8_wander 62 = .ok (.iload_n 2, 1) := by decide +kernel
theorem dX8_wander_63 : decode cX8_wander 63 = .ok (.iconst 3, 1) := by decide +kernel
theorem dX8_wander_64 : decode cX8_wander 64 = .ok (.idiv, 1) := by decide +kernel
theorem dX8_wander_65 : decode cX8_wander 65 = .ok (.iadd, 1) := by decide +kernel
theorem dX8_wander_66 : decode cX8_wander 66 = .ok (.iconst 1, 1) := by decide +kernel
theorem dX8_wander_67 : decode cX8_wander 67 = .ok (.isub, 1) := by decide +kernel
theorem dX8_wander_68 : decode cX8_wander 68 = .ok (.istore 4, 2) := by decide +kernel
theorem dX8_wander_70 : decode cX8_wander 70 = .ok (.aload_n 0, 1) := by decide +kernel
theorem dX8_wander_71 : decode cX8_wander 71 = .ok (.getfield 23, 3) := by decide +kernel
theorem dX8_wander_74 : decode cX8_wander 74 = .ok (.iload_n 3, 1) := by decide +kernel
theorem dX8_wander_75 : decode cX8_wander 75 = .ok (.iload 4, 2) := by decide +kernel
theorem dX8_wander_77 : decode cX8_wander 77 = .ok (.invokevirtual 153, 3) := by decide +kernel
theorem dX8_wander_80 : decode cX8_wander 80 = .ok (.istore 5, 2) := by decide +kernel
theorem dX8_wander_82 : decode cX8_wander 82 = .ok (.iload 5, 2) := by decide +kernel
theorem dX8_wander_84 : decode cX8_wander 84 = .ok (.iconst (-1), 1) := by decide +kernel
theorem dX8_wander_85 : decode cX8_wander 85 = .ok (.if_icmp .eq 27, 3) := by decide +kernel
theorem dX8_wander_88 : decode cX8_wander 88 = .ok (.aload_n 0, 1) := by decide +kernel
theorem dX8_wander_89 : decode cX8_wander 89 = .ok (.getfield 29, 3) := by decide +kernel
theorem dX8_wander_92 : decode cX8_wander 92 = .ok (.getfield 162, 3) := by decide +kernel
theorem dX8_wander_95 : decode cX8_wander 95 = .ok (.iload 5, 2) := by decide +kernel
theorem dX8_wander_97 : decode cX8_wander 97 = .ok (.iaload, 1) := by decide +kernel
theorem dX8_wander_98 : decode cX8_wander 98 = .ok (.ifCond .ne 14, 3) := by decide +kernel
theorem dX8_wander_101 : decode cX8_wander 101 = .ok (.aload_n 0, 1) := by decide +kernel
theorem dX8_wander_102 : decode cX8_wander 102 = .ok (.getfield 29, 3) := by decide +kernel
theorem dX8_wander_105 : decode cX8_wander 105 = .ok (.getfield 178, 3) := by decide +kernel
theorem dX8_wander_108 : decode cX8_wander 108 = .ok (.iload_n 1, 1) := by decide +kernel
theorem dX8_wander_109 : decode cX8_wander 109 = .ok (.iload 5, 2) := by decide +kernel
theorem dX8_wander_111 : decode cX8_wander 111 = .ok (.iastore, 1) := by decide +kernel
theorem dX8_wander_112 : decode cX8_wander 112 = .ok (.iinc 1 1, 3) := by decide +kernel
theorem dX8_wander_115 : decode cX8_wander 115 = .ok (.goto (-113), 3) := by decide +kernel
theorem dX8_wander_118 : decode cX8_wander 118 = .ok (.return_, 1) := by decide +kernel
theorem dL_law_0 : decode cL_law 0 = .ok (.new 7, 3) := by decide +kernel
theorem dL_law_3 : decode cL_law 3 = .ok (.dup, 1) := by decide +kernel
theorem dL_law_4 : decode cL_law 4 = .ok (.invokespecial 9, 3) := by decide +kernel
theorem dL_law_7 : decode cL_law 7 = .ok (.astore_n 1, 1) := by decide +kernel
theorem dL_law_8 : decode cL_law 8 = .ok (.new 10, 3) := by decide +kernel
theorem dL_law_11 : decode cL_law 11 = .ok (.dup, 1) := by decide +kernel
theorem dL_law_12 : decode cL_law 12 = .ok (.invokespecial 12, 3) := by decide +kernel
theorem dL_law_15 : decode cL_law 15 = .ok (.astore_n 2, 1) := by decide +kernel
theorem dL_law_16 : decode cL_law 16 = .ok (.iconst 0, 1) := by decide +kernel
theorem dL_law_17 : decode cL_law 17 = .ok (.istore_n 3, 1) := by decide +kernel
theorem dL_law_18 : decode cL_law 18 = .ok (.iload_n 3, 1) := by decide +kernel
theorem dL_law_19 : decode cL_law 19 = .ok (.aload_n 0, 1) := by decide +kernel
theorem dL_law_20 : decode cL_law 20 = .ok (.arraylength, 1) := by decide +kernel
theorem dL_law_21 : decode cL_law 21 = .ok (.iconst 5, 1) := by decide +kernel
theorem dL_law_22 : decode cL_law 22 = .ok (.isub, 1) := by decide +kernel
theorem dL_law_23 : decode cL_law 23 = .ok (.if_icmp .gt 1043, 3) := by decide +kernel
theorem dL_law_26 : decode cL_law 26 = .ok (.aload_n 0, 1) := by decide +kernel
theorem dL_law_27 : decode cL_law 27 = .ok (.iload_n 3, 1) := by decide +kernel
theorem dL_law_28 : decode cL_law 28 = .ok (.iaload, 1) := by decide +kernel
theorem dL_law_29 : decode cL_law 29 = .ok (.bipush 31, 2) := by decide +kernel
theorem dL_law_31 : decode cL_law 31 = .ok (.iand, 1) := by decide +kernel
theorem dL_law_32 : decode cL_law 32 = .ok (.tableswitch 1028 0 27 #[128, 191, 204, 217, 240, 293, 326, 359, 402, 451, 474, 517, 540, 573, 626, 659, 692, 715, 758, 801, 824, 857, 890, 933, 946, 959, 982, 1005], 128) := by decide +kernel
theorem dL_law_160 : decode cL_law 160 = .ok (.aload_n 1, 1) := by decide +kernel
theorem dL_law_161 : decode cL_law 161 = .ok (.aload_n 0, 1) := by decide +kernel
theorem dL_law_162 : decode cL_law 162 = .ok (.iload_n 3, 1) := by decide +kernel
theorem dL_law_163 : decode cL_law 163 = .ok (.iconst 1, 1) := by decide +kernel
theorem dL_law_164 : decode cL_law 164 = .ok (.iadd, 1) := by decide +kernel
theorem dL_law_165 : decode cL_law 165 = .ok (.iaload, 1) := by decide +kernel
theorem dL_law_166 : decode cL_law 166 = .ok (.aload_n 0, 1) := by decide +kernel
theorem dL_law_167 : decode cL_law 167 = .ok (.iload_n 3, 1) := by decide +kernel
theorem dL_law_168 : decode cL_law 168 = .ok (.iconst 2, 1) := by decide +kernel
theorem dL_law_169 : decode cL_law 169 = .ok (.iadd, 1) := by decide +kernel
theorem dL_law_170 : decode cL_law 170 = .ok (.iaload, 1) := by decide +kernel
theorem dL_law_171 : decode cL_law 171 = .ok (.i2l, 1) := by decide +kernel
theorem dL_law_172 : decode cL_law 172 = .ok (.bipush 32, 2) := by decide +kernel
theorem dL_law_174 : decode cL_law 174 = .ok (.lshl, 1) := by decide +kernel
theorem dL_law_175 : decode cL_law 175 = .ok (.aload_n 0, 1) := by decide +kernel
theorem dL_law_176 : decode cL_law 176 = .ok (.iload_n 3, 1) := by decide +kernel
theorem dL_law_177 : decode cL_law 177 = .ok (.iconst 3, 1) := by decide +kernel
theorem dL_law_178 : decode cL_law 178 = .ok (.iadd, 1) := by decide +kernel
theorem dL_law_179 : decode cL_law 179 = .ok (.iaload, 1) := by decide +kernel
theorem dL_law_180 : decode cL_law 180 = .ok (.i2l, 1) := by decide +kernel
theorem dL_law_181 : decode cL_law 181 = .ok (.ldc2_w 13, 3) := by decide +kernel
theorem dL_law_184 : decode cL_law 184 = .ok (.land, 1) := by decide +kernel
theorem dL_law_185 : decode cL_law 185 = .ok (.lor, 1) := by decide +kernel
theorem dL_law_186 : decode cL_law 186 = .ok (.invokevirtual 15, 3) := by decide +kernel
theorem dL_law_189 : decode cL_law 189 = .ok (.aload_n 2, 1) := by decide +kernel
theorem dL_law_190 : decode cL_law 190 = .ok (.aload_n 0, 1) := by decide +kernel
theorem dL_law_191 : decode cL_law 191 = .ok (.iload_n 3, 1) := by decide +kernel
theorem dL_law_192 : decode cL_law 192 = .ok (.iconst 1, 1) := by decide +kernel
theorem dL_law_193 : decode cL_law 193 = .ok (.iadd, 1) := by decide +kernel
theorem dL_law_194 : decode cL_law 194 = .ok (.iaload, 1) := by decide +kernel
theorem dL_law_195 : decode cL_law 195 = .ok (.aload_n 0, 1) := by decide +kernel
theorem dL_law_196 : decode cL_law 196 = .ok (.iload_n 3, 1) := by decide +kernel
theorem dL_law_197 : decode cL_law 197 = .ok (.iconst 2, 1) := by decide +kernel
theorem dL_law_198 : decode cL_law 198 = .ok (.iadd, 1) := by decide +kernel
theorem dL_law_199 : decode cL_law 199 = .ok (.iaload, 1) := by decide +kernel
theorem dL_law_200 : decode cL_law 200 = .ok (.i2l, 1) := by decide +kernel
theorem dL_law_201 : decode cL_law 201 = .ok (.bipush 32, 2) := by decide +kernel
theorem dL_law_203 : decode cL_law 203 = .ok (.lshl, 1) := by decide +kernel
theorem dL_law_204 : decode cL_law 204 = .ok (.aload_n 0, 1) := by decide +kernel
theorem dL_law_205 : decode cL_law 205 = .ok (.iload_n 3, 1) := by decide +kernel
theorem dL_law_206 : decode cL_law 206 = .ok (.iconst 3, 1) := by decide +kernel
theorem dL_law_207 : decode cL_law 207 = .ok (.iadd, 1) := by decide +kernel
theorem dL_law_208 : decode cL_law 208 = .ok (.iaload, 1) := by decide +kernel
theorem dL_law_209 : decode cL_law 209 = .ok (.i2l, 1) := by decide +kernel
theorem dL_law_210 : decode cL_law 210 = .ok (.ldc2_w 13, 3) := by decide +kernel
theorem dL_law_213 : decode cL_law 213 = .ok (.land, 1) := by decide +kernel
theorem dL_law_214 : decode cL_law 214 = .ok (.lor, 1) := by decide +kernel
theorem dL_law_215 : decode cL_law 215 = .ok (.invokevirtual 19, 3) := by decide +kernel
theorem dL_law_218 : decode cL_law 218 = .ok (.if_icmp .eq 842, 3) := by decide +kernel
theorem dL_law_221 : decode cL_law 221 = .ok (.iconst 0, 1) := by decide +kernel
theorem dL_law_222 : decode cL_law 222 = .ok (.ireturn, 1) := by decide +kernel
theorem dL_law_223 : decode cL_law 223 = .ok (.aload_n 1, 1) := by decide +kernel
theorem dL_law_224 : decode cL_law 224 = .ok (.invokevirtual 20, 3) := by decide +kernel
theorem dL_law_227 : decode cL_law 227 = .ok (.aload_n 2, 1) := by decide +kernel
theorem dL_law_228 : decode cL_law 228 = .ok (.invokevirtual 24, 3) := by decide +kernel
theorem dL_law_231 : decode cL_law 231 = .ok (.if_icmp .eq 829, 3) := by decide +kernel
theorem dL_law_234 : decode cL_law 234 = .ok (.iconst 0, 1) := by decide +kernel
theorem dL_law_235 : decode cL_law 235 = .ok (.ireturn, 1) := by decide +kernel
theorem dL_law_236 : decode cL_law 236 = .ok (.aload_n 1, 1) := by decide +kernel
theorem dL_law_237 : decode cL_law 237 = .ok (.invokevirtual 25, 3) := by decide +kernel
theorem dL_law_240 : decode cL_law 240 = .ok (.aload_n 2, 1) := by decide +kernel
theorem dL_law_241 : decode cL_law 241 = .ok (.invokevirtual 28, 3) := by decide +kernel
theorem dL_law_244 : decode cL_law 244 = .ok (.if_icmp .eq 816, 3) := by decide +kernel
theorem dL_law_247 : decode cL_law 247 = .ok (.iconst 0, 1) := by decide +kernel
theorem dL_law_248 : decode cL_law 248 = .ok (.ireturn, 1) := by decide +kernel
theorem dL_law_249 : decode cL_law 249 = .ok (.aload_n 1, 1) := by decide +kernel
theorem dL_law_250 : decode cL_law 250 = .ok (.aload_n 0, 1) := by decide +kernel
theorem dL_law_251 : decode cL_law 251 = .ok (.iload_n 3, 1) := by decide +kernel
theorem dL_law_252 : decode cL_law 252 = .ok (.iconst 1, 1) := by decide +kernel
theorem dL_law_253 : decode cL_law 253 = .ok (.iadd, 1) := by decide +kernel
theorem dL_law_254 : decode cL_law 254 = .ok (.iaload, 1) := by decide +kernel
theorem dL_law_255 : decode cL_law 255 = .ok (.invokevirtual 29, 3) := by decide +kernel
theorem dL_law_258 : decode cL_law 258 = .ok (.aload_n 2, 1) := by decide +kernel
theorem dL_law_259 : decode cL_law 259 = .ok (.aload_n 0, 1) := by decide +kernel
theorem dL_law_260 : decode cL_law 260 = .ok (.iload_n 3, 1) := by decide +kernel
theorem dL_law_261 : decode cL_law 261 = .ok (.iconst 1, 1) := by decide +kernel
theorem dL_law_262 : decode cL_law 262 = .ok (.iadd, 1) := by decide +kernel
theorem dL_law_263 : decode cL_law 263 = .ok (.iaload, 1) := by decide +kernel
theorem dL_law_264 : decode cL_law 264 = .ok (.invokevirtual 33, 3) := by decide +kernel
theorem dL_law_267 : decode cL_law 267 = .ok (.if_icmp .eq 793, 3) := by decide +kernel
theorem dL_law_270 : decode cL_law 270 = .ok (.iconst 0, 1) := by decide +kernel
theorem dL_law_271 : decode cL_law 271 = .ok (.ireturn, 1) := by decide +kernel
theorem dL_law_272 : decode cL_law 272 = .ok (.aload_n 1, 1) := by decide +kernel
theorem dL_law_273 : decode cL_law 273 = .ok (.aload_n 0, 1) := by decide +kernel
theorem dL_law_274 : decode cL_law 274 = .ok (.iload_n 3, 1) := by decide +kernel
theorem dL_law_275 : decode cL_law 275 = .ok (.iconst 1, 1) := by decide +kernel
theorem dL_law_276 : decode cL_law 276 = .ok (.iadd, 1) := by decide +kernel
theorem dL_law_277 : decode cL_law 277 = .ok (.iaload, 1) := by decide +kernel
theorem dL_law_278 : decode cL_law 278 = .ok (.aload_n 0, 1) := by decide +kernel
theorem dL_law_279 : decode cL_law 279 = .ok (.iload_n 3, 1) := by decide +kernel
theorem dL_law_280 : decode cL_law 280 = .ok (.iconst 2, 1) := by decide +kernel
theorem dL_law_281 : decode cL_law 281 = .ok (.iadd, 1) := by decide +kernel
theorem dL_law_282 : decode cL_law 282 = .ok (.iaload, 1) := by decide +kernel
theorem dL_law_283 : decode cL_law 283 = .ok (.aload_n 0, 1) := by decide +kernel
theorem dL_law_284 : decode cL_law 284 = .ok (.iload_n 3, 1) := by decide +kernel
theorem dL_law_285 : decode cL_law 285 = .ok (.iconst 3, 1) := by decide +kernel
theorem dL_law_286 : decode cL_law 286 = .ok (.iadd, 1) := by decide +kernel
theorem dL_law_287 : decode cL_law 287 = .ok (.iaload, 1) := by decide +kernel
theorem dL_law_288 : decode cL_law 288 = .ok (.aload_n 0, 1) := by decide +kernel
theorem dL_law_289 : decode cL_law 289 = .ok (.iload_n 3, 1) := by decide +kernel
theorem dL_law_290 : decode cL_law 290 = .ok (.iconst 4, 1) := by decide +kernel
theorem dL_law_291 : decode cL_law 291 = .ok (.iadd, 1) := by decide +kernel
theorem dL_law_292 : decode cL_law 292 = .ok (.iaload, 1) := by decide +kernel
theorem dL_law_293 : decode cL_law 293 = .ok (.invokevirtual 34, 3) := by decide +kernel
theorem dL_law_296 : decode cL_law 296 = .ok (.aload_n 2, 1) := by decide +kernel
theorem dL_law_297 : decode cL_law 297 = .ok (.aload_n 0, 1) := by decide +kernel
theorem dL_law_298 : decode cL_law 298 = .ok (.iload_n 3, 1) := by decide +kernel
theorem dL_law_299 : decode cL_law 299 = .ok (.iconst 1, 1) := by decide +kernel
theorem dL_law_300 : decode cL_law 300 = .ok (.iadd, 1) := by decide +kernel
theorem dL_law_301 : decode cL_law 301 = .ok (.iaload, 1) := by decide +kernel
theorem dL_law_302 : decode cL_law 302 = .ok (.aload_n 0, 1) := by decide +kernel
theorem dL_law_303 : decode cL_law 303 = .ok (.iload_n 3, 1) := by decide +kernel
theorem dL_law_304 : decode cL_law 304 = .ok (.iconst 2, 1) := by decide +kernel
theorem dL_law_305 : decode cL_law 305 = .ok (.iadd, 1) := by decide +kernel
theorem dL_law_306 : decode cL_law 306 = .ok (.iaload, 1) := by decide +kernel
theorem dL_law_307 : decode cL_law 307 = .ok (.aload_n 0, 1) := by decide +kernel
theorem dL_law_308 : decode cL_law 308 = .ok (.iload_n 3, 1) := by decide +kernel
theorem dL_law_309 : decode cL_law 309 = .ok (.iconst 3, 1) := by decide +kernel
theorem dL_law_310 : decode cL_law 310 = .ok (.iadd, 1) := by decide +kernel
theorem dL_law_311 : decode cL_law 311 = .ok (.iaload, 1) := by decide +kernel
theorem dL_law_312 : decode cL_law 312 = .ok (.aload_n 0, 1) := by decide +kernel
theorem dL_law_313 : decode cL_law 313 = .ok (.iload_n 3, 1) := by decide +kernel
theorem dL_law_314 : decode cL_law 314 = .ok (.iconst 4, 1) := by decide +kernel
theorem dL_law_315 : decode cL_law 315 = .ok (.iadd, 1) := by decide +kernel
theorem dL_law_316 : decode cL_law 316 = .ok (.iaload, 1) := by decide +kernel
theorem dL_law_317 : decode cL_law 317 = .ok (.invokevirtual 38, 3) := by decide +kernel
theorem dL_law_320 : decode cL_law 320 = .ok (.if_icmp .eq 740, 3) := by decide +kernel
theorem dL_law_323 : decode cL_law 323 = .ok (.iconst 0, 1) := by decide +kernel
theorem dL_law_324 : decode cL_law 324 = .ok (.ireturn, 1) := by decide +kernel
theorem dL_law_325 : decode cL_law 325 = .ok (.aload_n 1, 1) := by decide +kernel
theorem dL_law_326 : decode cL_law 326 = .ok (.aload_n 0, 1) := by decide +kernel
theorem dL_law_327 : decode cL_law 327 = .ok (.iload_n 3, 1) := by decide +kernel
theorem dL_law_328 : decode cL_law 328 = .ok (.iconst 1, 1) := by decide +kernel
theorem dL_law_329 : decode cL_law 329 = .ok (.iadd, 1) := by decide +kernel
theorem dL_law_330 : decode cL_law 330 = .ok (.iaload, 1) := by decide +kernel
theorem dL_law_331 : decode cL_law 331 = .ok (.aload_n 0, 1) := by decide +kernel
theorem dL_law_332 : decode cL_law 332 = .ok (.iload_n 3, 1) := by decide +kernel
theorem dL_law_333 : decode cL_law 333 = .ok (.iconst 2, 1) := by decide +kernel
theorem dL_law_334 : decode cL_law 334 = .ok (.iadd, 1) := by decide +kernel
theorem dL_law_335 : decode cL_law 335 = .ok (.iaload, 1) := by decide +kernel
theorem dL_law_336 : decode cL_law 336 = .ok (.invokevirtual 39, 3) := by decide +kernel
theorem dL_law_339 : decode cL_law 339 = .ok (.aload_n 2, 1) := by decide +kernel
theorem dL_law_340 : decode cL_law 340 = .ok (.aload_n 0, 1) := by decide +kernel
theorem dL_law_341 : decode cL_law 341 = .ok (.iload_n 3, 1) := by decide +kernel
theorem dL_law_342 : decode cL_law 342 = .ok (.iconst 1, 1) := by decide +kernel
theorem dL_law_343 : decode cL_law 343 = .ok (.iadd, 1) := by decide +kernel
theorem dL_law_344 : decode cL_law 344 = .ok (.iaload, 1) := by decide +kernel
theorem dL_law_345 : decode cL_law 345 = .ok (.aload_n 0, 1) := by decide +kernel
theorem dL_law_346 : decode cL_law 346 = .ok (.iload_n 3, 1) := by decide +kernel
theorem dL_law_347 : decode cL_law 347 = .ok (.iconst 2, 1) := by decide +kernel
theorem dL_law_348 : decode cL_law 348 = .ok (.iadd, 1) := by decide +kernel
theorem dL_law_349 : decode cL_law 349 = .ok (.iaload, 1) := by decide +kernel
theorem dL_law_350 : decode cL_law 350 = .ok (.invokevirtual 43, 3) := by decide +kernel
theorem dL_law_353 : decode cL_law 353 = .ok (.if_icmp .eq 707, 3) := by decide +kernel
theorem dL_law_356 : decode cL_law 356 = .ok (.iconst 0, 1) := by decide +kernel
theorem dL_law_357 : decode cL_law 357 = .ok (.ireturn, 1) := by decide +kernel
theorem dL_law_358 : decode cL_law 358 = .ok (.aload_n 1, 1) := by decide +kernel
theorem dL_law_359 : decode cL_law 359 = .ok (.aload_n 0, 1) := by decide +kernel
theorem dL_law_360 : decode cL_law 360 = .ok (.iload_n 3, 1) := by decide +kernel
theorem dL_law_361 : decode cL_law 361 = .ok (.iconst 1, 1) := by decide +kernel
theorem dL_law_362 : decode cL_law 362 = .ok (.iadd, 1) := by decide +kernel
theorem dL_law_363 : decode cL_law 363 = .ok (.iaload, 1) := by decide +kernel
theorem dL_law_364 : decode cL_law 364 = .ok (.aload_n 0, 1) := by decide +kernel
theorem dL_law_365 : decode cL_law 365 = .ok (.iload_n 3, 1) := by decide +kernel
theorem dL_law_366 : decode cL_law 366 = .ok (.iconst 2, 1) := by decide +kernel
theorem dL_law_367 : decode cL_law 367 = .ok (.iadd, 1) := by decide +kernel
theorem dL_law_368 : decode cL_law 368 = .ok (.iaload, 1) := by decide +kernel
theorem dL_law_369 : decode cL_law 369 = .ok (.invokevirtual 44, 3) := by decide +kernel
theorem dL_law_372 : decode cL_law 372 = .ok (.aload_n 2, 1) := by decide +kernel
theorem dL_law_373 : decode cL_law 373 = .ok (.aload_n 0, 1) := by decide +kernel
theorem dL_law_374 : decode cL_law 374 = .ok (.iload_n 3, 1) := by decide +kernel
theorem dL_law_375 : decode cL_law 375 = .ok (.iconst 1, 1) := by decide +kernel
theorem dL_law_376 : decode cL_law 376 = .ok (.iadd, 1) := by decide +kernel
theorem dL_law_377 : decode cL_law 377 = .ok (.iaload, 1) := by decide +kernel
theorem dL_law_378 : decode cL_law 378 = .ok (.aload_n 0, 1) := by decide +kernel
theorem dL_law_379 : decode cL_law 379 = .ok (.iload_n 3, 1) := by decide +kernel
theorem dL_law_380 : decode cL_law 380 = .ok (.iconst 2, 1) := by decide +kernel
theorem dL_law_381 : decode cL_law 381 = .ok (.iadd, 1) := by decide +kernel
theorem dL_law_382 : decode cL_law 382 = .ok (.iaload, 1) := by decide +kernel
theorem dL_law_383 : decode cL_law 383 = .ok (.invokevirtual 47, 3) := by decide +kernel
theorem dL_law_386 : decode cL_law 386 = .ok (.if_icmp .eq 674, 3) := by decide +kernel
theorem dL_law_389 : decode cL_law 389 = .ok (.iconst 0, 1) := by decide +kernel
theorem dL_law_390 : decode cL_law 390 = .ok (.ireturn, 1) := by decide +kernel
theorem dL_law_391 : decode cL_law 391 = .ok (.aload_n 1, 1) := by decide +kernel
theorem dL_law_392 : decode cL_law 392 = .ok (.aload_n 0, 1) := by decide +kernel
theorem dL_law_393 : decode cL_law 393 = .ok (.iload_n 3, 1) := by decide +kernel
theorem dL_law_394 : decode cL_law 394 = .ok (.iconst 1, 1) := by decide +kernel
theorem dL_law_395 : decode cL_law 395 = .ok (.iadd, 1) := by decide +kernel
theorem dL_law_396 : decode cL_law 396 = .ok (.iaload, 1) := by decide +kernel
theorem dL_law_397 : decode cL_law 397 = .ok (.aload_n 0, 1) := by decide +kernel
theorem dL_law_398 : decode cL_law 398 = .ok (.iload_n 3, 1) := by decide +kernel
theorem dL_law_399 : decode cL_law 399 = .ok (.iconst 2, 1) := by decide +kernel
theorem dL_law_400 : decode cL_law 400 = .ok (.iadd, 1) := by decide +kernel
theorem dL_law_401 : decode cL_law 401 = .ok (.iaload, 1) := by decide +kernel
theorem dL_law_402 : decode cL_law 402 = .ok (.aload_n 0, 1) := by decide +kernel
theorem dL_law_403 : decode cL_law 403 = .ok (.iload_n 3, 1) := by decide +kernel
theorem dL_law_404 : decode cL_law 404 = .ok (.iconst 3, 1) := by decide +kernel
theorem dL_law_405 : decode cL_law 405 = .ok (.iadd, 1) := by decide +kernel
theorem dL_law_406 : decode cL_law 406 = .ok (.iaload, 1) := by decide +kernel
theorem dL_law_407 : decode cL_law 407 = .ok (.invokevirtual 48, 3) := by decide +kernel
theorem dL_law_410 : decode cL_law 410 = .ok (.aload_n 2, 1) := by decide +kernel
theorem dL_law_411 : decode cL_law 411 = .ok (.aload_n 0, 1) := by decide +kernel
theorem dL_law_412 : decode cL_law 412 = .ok (.iload_n 3, 1) := by decide +kernel
theorem dL_law_413 : decode cL_law 413 = .ok (.iconst 1, 1) := by decide +kernel
theorem dL_law_414 : decode cL_law 414 = .ok (.iadd, 1) := by decide +kernel
theorem dL_law_415 : decode cL_law 415 = .ok (.iaload, 1) := by decide +kernel
theorem dL_law_416 : decode cL_law 416 = .ok (.aload_n 0, 1) := by decide +kernel
theorem dL_law_417 : decode cL_law 417 = .ok (.iload_n 3, 1) := by decide +kernel
theorem dL_law_418 : decode cL_law 418 = .ok (.iconst 2, 1) := by decide +kernel
theorem dL_law_419 : decode cL_law 419 = .ok (.iadd, 1) := by decide +kernel
theorem dL_law_420 : decode cL_law 420 = .ok (.iaload, 1) := by decide +kernel
theorem dL_law_421 : decode cL_law 421 = .ok (.aload_n 0, 1) := by decide +kernel
theorem dL_law_422 : decode cL_law 422 = .ok (.iload_n 3, 1) := by decide +kernel
theorem dL_law_423 : decode cL_law 423 = .ok (.iconst 3, 1) := by decide +kernel
theorem dL_law_424 : decode cL_law 424 = .ok (.iadd, 1) := by decide +kernel
theorem dL_law_425 : decode cL_law 425 = .ok (.iaload, 1) := by decide +kernel
theorem dL_law_426 : decode cL_law 426 = .ok (.invokevirtual 52, 3) := by decide +kernel
theorem dL_law_429 : decode cL_law 429 = .ok (.if_icmp .eq 631, 3) := by decide +kernel
theorem dL_law_432 : decode cL_law 432 = .ok (.iconst 0, 1) := by decide +kernel
theorem dL_law_433 : decode cL_law 433 = .ok (.ireturn, 1) := by decide +kernel
theorem dL_law_434 : decode cL_law 434 = .ok (.aload_n 1, 1) := by decide +kernel
theorem dL_law_435 : decode cL_law 435 = .ok (.aload_n 0, 1) := by decide +kernel
theorem dL_law_436 : decode cL_law 436 = .ok (.iload_n 3, 1) := by decide +kernel
theorem dL_law_437 : decode cL_law 437 = .ok (.iconst 1, 1) := by decide +kernel
theorem dL_law_438 : decode cL_law 438 = .ok (.iadd, 1) := by decide +kernel
theorem dL_law_439 : decode cL_law 439 = .ok (.iaload, 1) := by decide +kernel
theorem dL_law_440 : decode cL_law 440 = .ok (.aload_n 0, 1) := by decide +kernel
theorem dL_law_441 : decode cL_law 441 = .ok (.iload_n 3, 1) := by decide +kernel
theorem dL_law_442 : decode cL_law 442 = .ok (.iconst 2, 1) := by decide +kernel
theorem dL_law_443 : decode cL_law 443 = .ok (.iadd, 1) := by decide +kernel
theorem dL_law_444 : decode cL_law 444 = .ok (.iaload, 1) := by decide +kernel
theorem dL_law_445 : decode cL_law 445 = .ok (.ifCond .eq 7, 3) := by decide +kernel
theorem dL_law_448 : decode cL_law 448 = .ok (.iconst 1, 1) := by decide +kernel
theorem dL_law_449 : decode cL_law 449 = .ok (.goto 4, 3) := by decide +kernel
theorem dL_law_452 : decode cL_law 452 = .ok (.iconst 0, 1) := by decide +kernel
theorem dL_law_453 : decode cL_law 453 = .ok (.invokevirtual 53, 3) := by decide +kernel
theorem dL_law_456 : decode cL_law 456 = .ok (.aload_n 2, 1) := by decide +kernel
theorem dL_law_457 : decode cL_law 457 = .ok (.aload_n 0, 1) := by decide +kernel
theorem dL_law_458 : decode cL_law 458 = .ok (.iload_n 3, 1) := by decide +kernel
theorem dL_law_459 : decode cL_law 459 = .ok (.iconst 1, 1) := by decide +kernel
theorem dL_law_460 : decode cL_law 460 = .ok (.iadd, 1) := by decide +kernel
theorem dL_law_461 : decode cL_law 461 = .ok (.iaload, 1) := by decide +kernel
theorem dL_law_462 : decode cL_law 462 = .ok (.aload_n 0, 1) := by decide +kernel
theorem dL_law_463 : decode cL_law 463 = .ok (.iload_n 3, 1) := by decide +kernel
theorem dL_law_464 : decode cL_law 464 = .ok (.iconst 2, 1) := by decide +kernel
theorem dL_law_465 : decode cL_law 465 = .ok (.iadd, 1) := by decide +kernel
theorem dL_law_466 : decode cL_law 466 = .ok (.iaload, 1) := by decide +kernel
theorem dL_law_467 : decode cL_law 467 = .ok (.ifCond .eq 7, 3) := by decide +kernel
theorem dL_law_470 : decode cL_law 470 = .ok (.iconst 1, 1) := by decide +kernel
theorem dL_law_471 : decode cL_law 471 = .ok (.goto 4, 3) := by decide +kernel
theorem dL_law_474 : decode cL_law 474 = .ok (.iconst 0, 1) := by decide +kernel
theorem dL_law_475 : decode cL_law 475 = .ok (.invokevirtual 57, 3) := by decide +kernel
theorem dL_law_478 : decode cL_law 478 = .ok (.if_icmp .eq 582, 3) := by decide +kernel
theorem dL_law_481 : decode cL_law 481 = .ok (.iconst 0, 1) := by decide +kernel
theorem dL_law_482 : decode cL_law 482 = .ok (.ireturn, 1) := by decide +kernel
theorem dL_law_483 : decode cL_law 483 = .ok (.aload_n 1, 1) := by decide +kernel
theorem dL_law_484 : decode cL_law 484 = .ok (.aload_n 0, 1) := by decide +kernel
theorem dL_law_485 : decode cL_law 485 = .ok (.iload_n 3, 1) := by decide +kernel
theorem dL_law_486 : decode cL_law 486 = .ok (.iconst 1, 1) := by decide +kernel
theorem dL_law_487 : decode cL_law 487 = .ok (.iadd, 1) := by decide +kernel
theorem dL_law_488 : decode cL_law 488 = .ok (.iaload, 1) := by decide +kernel
theorem dL_law_489 : decode cL_law 489 = .ok (.invokevirtual 58, 3) := by decide +kernel
theorem dL_law_492 : decode cL_law 492 = .ok (.aload_n 2, 1) := by decide +kernel
theorem dL_law_493 : decode cL_law 493 = .ok (.aload_n 0, 1) := by decide +kernel
theorem dL_law_494 : decode cL_law 494 = .ok (.iload_n 3, 1) := by decide +kernel
theorem dL_law_495 : decode cL_law 495 = .ok (.iconst 1, 1) := by decide +kernel
theorem dL_law_496 : decode cL_law 496 = .ok (.iadd, 1) := by decide +kernel
theorem dL_law_497 : decode cL_law 497 = .ok (.iaload, 1) := by decide +kernel
theorem dL_law_498 : decode cL_law 498 = .ok (.invokevirtual 61, 3) := by decide +kernel
theorem dL_law_501 : decode cL_law 501 = .ok (.if_icmp .eq 559, 3) := by decide +kernel
theorem dL_law_504 : decode cL_law 504 = .ok (.iconst 0, 1) := by decide +kernel
theorem dL_law_505 : decode cL_law 505 = .ok (.ireturn, 1) := by decide +kernel
theorem dL_law_506 : decode cL_law 506 = .ok (.aload_n 1, 1) := by decide +kernel
theorem dL_law_507 : decode cL_law 507 = .ok (.aload_n 0, 1) := by decide +kernel
theorem dL_law_508 : decode cL_law 508 = .ok (.iload_n 3, 1) := by decide +kernel
theorem dL_law_509 : decode cL_law 509 = .ok (.iconst 1, 1) := by decide +kernel
theorem dL_law_510 : decode cL_law 510 = .ok (.iadd, 1) := by decide +kernel
theorem dL_law_511 : decode cL_law 511 = .ok (.iaload, 1) := by decide +kernel
theorem dL_law_512 : decode cL_law 512 = .ok (.aload_n 0, 1) := by decide +kernel
theorem dL_law_513 : decode cL_law 513 = .ok (.iload_n 3, 1) := by decide +kernel
theorem dL_law_514 : decode cL_law 514 = .ok (.iconst 2, 1) := by decide +kernel
theorem dL_law_515 : decode cL_law 515 = .ok (.iadd, 1) := by decide +kernel
theorem dL_law_516 : decode cL_law 516 = .ok (.iaload, 1) := by decide +kernel
theorem dL_law_517 : decode cL_law 517 = .ok (.aload_n 0, 1) := by decide +kernel
theorem dL_law_518 : decode cL_law 518 = .ok (.iload_n 3, 1) := by decide +kernel
theorem dL_law_519 : decode cL_law 519 = .ok (.iconst 3, 1) := by decide +kernel
theorem dL_law_520 : decode cL_law 520 = .ok (.iadd, 1) := by decide +kernel
theorem dL_law_521 : decode cL_law 521 = .ok (.iaload, 1) := by decide +kernel
theorem dL_law_522 : decode cL_law 522 = .ok (.invokevirtual 62, 3) := by decide +kernel
theorem dL_law_525 : decode cL_law 525 = .ok (.aload_n 2, 1) := by decide +kernel
theorem dL_law_526 : decode cL_law 526 = .ok (.aload_n 0, 1) := by decide +kernel
theorem dL_law_527 : decode cL_law 527 = .ok (.iload_n 3, 1) := by decide +kernel
theorem dL_law_528 : decode cL_law 528 = .ok (.iconst 1, 1) := by decide +kernel
theorem dL_law_529 : decode cL_law 529 = .ok (.iadd, 1) := by decide +kernel
theorem dL_law_530 : decode cL_law 530 = .ok (.iaload, 1) := by decide +kernel
theorem dL_law_531 : decode cL_law 531 = .ok (.aload_n 0, 1) := by decide +kernel
theorem dL_law_532 : decode cL_law 532 = .ok (.iload_n 3, 1) := by decide +kernel
theorem dL_law_533 : decode cL_law 533 = .ok (.iconst 2, 1) := by decide +kernel
theorem dL_law_534 : decode cL_law 534 = .ok (.iadd, 1) := by decide +kernel
theorem dL_law_535 : decode cL_law 535 = .ok (.iaload, 1) := by decide +kernel
theorem dL_law_536 : decode cL_law 536 = .ok (.aload_n 0, 1) := by decide +kernel
theorem dL_law_537 : decode cL_law 537 = .ok (.iload_n 3, 1) := by decide +kernel
theorem dL_law_538 : decode cL_law 538 = .ok (.iconst 3, 1) := by decide +kernel
theorem dL_law_539 : decode cL_law 539 = .ok (.iadd, 1) := by decide +kernel
theorem dL_law_540 : decode cL_law 540 = .ok (.iaload, 1) := by decide +kernel
theorem dL_law_541 : decode cL_law 541 = .ok (.invokevirtual 65, 3) := by decide +kernel
theorem dL_law_544 : decode cL_law 544 = .ok (.if_icmp .eq 516, 3) := by decide +kernel
theorem dL_law_547 : decode cL_law 547 = .ok (.iconst 0, 1) := by decide +kernel
theorem dL_law_548 : decode cL_law 548 = .ok (.ireturn, 1) := by decide +kernel
theorem dL_law_549 : decode cL_law 549 = .ok (.aload_n 1, 1) := by decide +kernel
theorem dL_law_550 : decode cL_law 550 = .ok (.aload_n 0, 1) := by decide +kernel
theorem dL_law_551 : decode cL_law 551 = .ok (.iload_n 3, 1) := by decide +kernel
theorem dL_law_552 : decode cL_law 552 = .ok (.iconst 1, 1) := by decide +kernel
theorem dL_law_553 : decode cL_law 553 = .ok (.iadd, 1) := by decide +kernel
theorem dL_law_554 : decode cL_law 554 = .ok (.iaload, 1) := by decide +kernel
theorem dL_law_555 : decode cL_law 555 = .ok (.invokevirtual 66, 3) := by decide +kernel
theorem dL_law_558 : decode cL_law 558 = .ok (.aload_n 2, 1) := by decide +kernel
theorem dL_law_559 : decode cL_law 559 = .ok (.aload_n 0, 1) := by decide +kernel
theorem dL_law_560 : decode cL_law 560 = .ok (.iload_n 3, 1) := by decide +kernel
theorem dL_law_561 : decode cL_law 561 = .ok (.iconst 1, 1) := by decide +kernel
theorem dL_law_562 : decode cL_law 562 = .ok (.iadd, 1) := by decide +kernel
theorem dL_law_563 : decode cL_law 563 = .ok (.iaload, 1) := by decide +kernel
theorem dL_law_564 : decode cL_law 564 = .ok (.invokevirtual 69, 3) := by decide +kernel
theorem dL_law_567 : decode cL_law 567 = .ok (.if_icmp .eq 493, 3) := by decide +kernel
theorem dL_law_570 : decode cL_law 570 = .ok (.iconst 0, 1) := by decide +kernel
theorem dL_law_571 : decode cL_law 571 = .ok (.ireturn, 1) := by decide +kernel
theorem dL_law_572 : decode cL_law 572 = .ok (.aload_n 1, 1) := by decide +kernel
theorem dL_law_573 : decode cL_law 573 = .ok (.aload_n 0, 1) := by decide +kernel
theorem dL_law_574 : decode cL_law 574 = .ok (.iload_n 3, 1) := by decide +kernel
theorem dL_law_575 : decode cL_law 575 = .ok (.iconst 1, 1) := by decide +kernel
theorem dL_law_576 : decode cL_law 576 = .ok (.iadd, 1) := by decide +kernel
theorem dL_law_577 : decode cL_law 577 = .ok (.iaload, 1) := by decide +kernel
theorem dL_law_578 : decode cL_law 578 = .ok (.aload_n 0, 1) := by decide +kernel
theorem dL_law_579 : decode cL_law 579 = .ok (.iload_n 3, 1) := by decide +kernel
theorem dL_law_580 : decode cL_law 580 = .ok (.iconst 2, 1) := by decide +kernel
theorem dL_law_581 : decode cL_law 581 = .ok (.iadd, 1) := by decide +kernel
theorem dL_law_582 : decode cL_law 582 = .ok (.iaload, 1) := by decide +kernel
theorem dL_law_583 : decode cL_law 583 = .ok (.invokevirtual 70, 3) := by decide +kernel
theorem dL_law_586 : decode cL_law 586 = .ok (.aload_n 2, 1) := by decide +kernel
theorem dL_law_587 : decode cL_law 587 = .ok (.aload_n 0, 1) := by decide +kernel
theorem dL_law_588 : decode cL_law 588 = .ok (.iload_n 3, 1) := by decide +kernel
theorem dL_law_589 : decode cL_law 589 = .ok (.iconst 1, 1) := by decide +kernel
theorem dL_law_590 : decode cL_law 590 = .ok (.iadd, 1) := by decide +kernel
theorem dL_law_591 : decode cL_law 591 = .ok (.iaload, 1) := by decide +kernel
theorem dL_law_592 : decode cL_law 592 = .ok (.aload_n 0, 1) := by decide +kernel
theorem dL_law_593 : decode cL_law 593 = .ok (.iload_n 3, 1) := by decide +kernel
theorem dL_law_594 : decode cL_law 594 = .ok (.iconst 2, 1) := by decide +kernel
theorem dL_law_595 : decode cL_law 595 = .ok (.iadd, 1) := by decide +kernel
theorem dL_law_596 : decode cL_law 596 = .ok (.iaload, 1) := by decide +kernel
theorem dL_law_597 : decode cL_law 597 = .ok (.invokevirtual 73, 3) := by decide +kernel
theorem dL_law_600 : decode cL_law 600 = .ok (.if_icmp .eq 460, 3) := by decide +kernel
theorem dL_law_603 : decode cL_law 603 = .ok (.iconst 0, 1) := by decide +kernel
theorem dL_law_604 : decode cL_law 604 = .ok (.ireturn, 1) := by decide +kernel
theorem dL_law_605 : decode cL_law 605 = .ok (.aload_n 1, 1) := by decide +kernel
theorem dL_law_606 : decode cL_law 606 = .ok (.aload_n 0, 1) := by decide +kernel
theorem dL_law_607 : decode cL_law 607 = .ok (.iload_n 3, 1) := by decide +kernel
theorem dL_law_608 : decode cL_law 608 = .ok (.iconst 1, 1) := by decide +kernel
theorem dL_law_609 : decode cL_law 609 = .ok (.iadd, 1) := by decide +kernel
theorem dL_law_610 : decode cL_law 610 = .ok (.iaload, 1) := by decide +kernel
theorem dL_law_611 : decode cL_law 611 = .ok (.aload_n 0, 1) := by decide +kernel
theorem dL_law_612 : decode cL_law 612 = .ok (.iload_n 3, 1) := by decide +kernel
theorem dL_law_613 : decode cL_law 613 = .ok (.iconst 2, 1) := by decide +kernel
theorem dL_law_614 : decode cL_law 614 = .ok (.iadd, 1) := by decide +kernel
theorem dL_law_615 : decode cL_law 615 = .ok (.iaload, 1) := by decide +kernel
theorem dL_law_616 : decode cL_law 616 = .ok (.aload_n 0, 1) := by decide +kernel
theorem dL_law_617 : decode cL_law 617 = .ok (.iload_n 3, 1) := by decide +kernel
theorem dL_law_618 : decode cL_law 618 = .ok (.iconst 3, 1) := by decide +kernel
theorem dL_law_619 : decode cL_law 619 = .ok (.iadd, 1) := by decide +kernel
theorem dL_law_620 : decode cL_law 620 = .ok (.iaload, 1) := by decide +kernel
theorem dL_law_621 : decode cL_law 621 = .ok (.aload_n 0, 1) := by decide +kernel
theorem dL_law_622 : decode cL_law 622 = .ok (.iload_n 3, 1) := by decide +kernel
theorem dL_law_623 : decode cL_law 623 = .ok (.iconst 4, 1) := by decide +kernel
theorem dL_law_624 : decode cL_law 624 = .ok (.iadd, 1) := by decide +kernel
theorem dL_law_625 : decode cL_law 625 = .ok (.iaload, 1) := by decide +kernel
theorem dL_law_626 : decode cL_law 626 = .ok (.invokevirtual 74, 3) := by decide +kernel
theorem dL_law_629 : decode cL_law 629 = .ok (.aload_n 2, 1) := by decide +kernel
theorem dL_law_630 : decode cL_law 630 = .ok (.aload_n 0, 1) := by decide +kernel
theorem dL_law_631 : decode cL_law 631 = .ok (.iload_n 3, 1) := by decide +kernel
theorem dL_law_632 : decode cL_law 632 = .ok (.iconst 1, 1) := by decide +kernel
theorem dL_law_633 : decode cL_law 633 = .ok (.iadd, 1) := by decide +kernel
theorem dL_law_634 : decode cL_law 634 = .ok (.iaload, 1) := by decide +kernel
theorem dL_law_635 : decode cL_law 635 = .ok (.aload_n 0, 1) := by decide +kernel
theorem dL_law_636 : decode cL_law 636 = .ok (.iload_n 3, 1) := by decide +kernel
theorem dL_law_637 : decode cL_law 637 = .ok (.iconst 2, 1) := by decide +kernel
theorem dL_law_638 : decode cL_law 638 = .ok (.iadd, 1) := by decide +kernel
theorem dL_law_639 : decode cL_law 639 = .ok (.iaload, 1) := by decide +kernel
theorem dL_law_640 : decode cL_law 640 = .ok (.aload_n 0, 1) := by decide +kernel
theorem dL_law_641 : decode cL_law 641 = .ok (.iload_n 3, 1) := by decide +kernel
theorem dL_law_642 : decode cL_law 642 = .ok (.iconst 3, 1) := by decide +kernel
theorem dL_law_643 : decode cL_law 643 = .ok (.iadd, 1) := by decide +kernel
theorem dL_law_644 : decode cL_law 644 = .ok (.iaload, 1) := by decide +kernel
theorem dL_law_645 : decode cL_law 645 = .ok (.aload_n 0, 1) := by decide +kernel
theorem dL_law_646 : decode cL_law 646 = .ok (.iload_n 3, 1) := by decide +kernel
theorem dL_law_647 : decode cL_law 647 = .ok (.iconst 4, 1) := by decide +kernel
theorem dL_law_648 : decode cL_law 648 = .ok (.iadd, 1) := by decide +kernel
theorem dL_law_649 : decode cL_law 649 = .ok (.iaload, 1) := by decide +kernel
theorem dL_law_650 : decode cL_law 650 = .ok (.invokevirtual 77, 3) := by decide +kernel
theorem dL_law_653 : decode cL_law 653 = .ok (.if_icmp .eq 407, 3) := by decide +kernel
theorem dL_law_656 : decode cL_law 656 = .ok (.iconst 0, 1) := by decide +kernel
theorem dL_law_657 : decode cL_law 657 = .ok (.ireturn, 1) := by decide +kernel
theorem dL_law_658 : decode cL_law 658 = .ok (.aload_n 1, 1) := by decide +kernel
theorem dL_law_659 : decode cL_law 659 = .ok (.aload_n 0, 1) := by decide +kernel
theorem dL_law_660 : decode cL_law 660 = .ok (.iload_n 3, 1) := by decide +kernel
theorem dL_law_661 : decode cL_law 661 = .ok (.iconst 1, 1) := by decide +kernel
theorem dL_law_662 : decode cL_law 662 = .ok (.iadd, 1) := by decide +kernel
theorem dL_law_663 : decode cL_law 663 = .ok (.iaload, 1) := by decide +kernel
theorem dL_law_664 : decode cL_law 664 = .ok (.aload_n 0, 1) := by decide +kernel
theorem dL_law_665 : decode cL_law 665 = .ok (.iload_n 3, 1) := by decide +kernel
theorem dL_law_666 : decode cL_law 666 = .ok (.iconst 2, 1) := by decide +kernel
theorem dL_law_667 : decode cL_law 667 = .ok (.iadd, 1) := by decide +kernel
theorem dL_law_668 : decode cL_law 668 = .ok (.iaload, 1) := by decide +kernel
theorem dL_law_669 : decode cL_law 669 = .ok (.invokevirtual 78, 3) := by decide +kernel
theorem dL_law_672 : decode cL_law 672 = .ok (.aload_n 2, 1) := by decide +kernel
theorem dL_law_673 : decode cL_law 673 = .ok (.aload_n 0, 1) := by decide +kernel
theorem dL_law_674 : decode cL_law 674 = .ok (.iload_n 3, 1) := by decide +kernel
theorem dL_law_675 : decode cL_law 675 = .ok (.iconst 1, 1) := by decide +kernel
theorem dL_law_676 : decode cL_law 676 = .ok (.iadd, 1) := by decide +kernel
theorem dL_law_677 : decode cL_law 677 = .ok (.iaload, 1) := by decide +kernel
theorem dL_law_678 : decode cL_law 678 = .ok (.aload_n 0, 1) := by decide +kernel
theorem dL_law_679 : decode cL_law 679 = .ok (.iload_n 3, 1) := by decide +kernel
theorem dL_law_680 : decode cL_law 680 = .ok (.iconst 2, 1) := by decide +kernel
theorem dL_law_681 : decode cL_law 681 = .ok (.iadd, 1) := by decide +kernel
theorem dL_law_682 : decode cL_law 682 = .ok (.iaload, 1) := by decide +kernel
theorem dL_law_683 : decode cL_law 683 = .ok (.invokevirtual 81, 3) := by decide +kernel
theorem dL_law_686 : decode cL_law 686 = .ok (.if_icmp .eq 374, 3) := by decide +kernel
theorem dL_law_689 : decode cL_law 689 = .ok (.iconst 0, 1) := by decide +kernel
theorem dL_law_690 : decode cL_law 690 = .ok (.ireturn, 1) := by decide +kernel
theorem dL_law_691 : decode cL_law 691 = .ok (.aload_n 1, 1) := by decide +kernel
theorem dL_law_692 : decode cL_law 692 = .ok (.aload_n 0, 1) := by decide +kernel
theorem dL_law_693 : decode cL_law 693 = .ok (.iload_n 3, 1) := by decide +kernel
theorem dL_law_694 : decode cL_law 694 = .ok (.iconst 1, 1) := by decide +kernel
theorem dL_law_695 : decode cL_law 695 = .ok (.iadd, 1) := by decide +kernel
theorem dL_law_696 : decode cL_law 696 = .ok (.iaload, 1) := by decide +kernel
theorem dL_law_697 : decode cL_law 697 = .ok (.aload_n 0, 1) := by decide +kernel
theorem dL_law_698 : decode cL_law 698 = .ok (.iload_n 3, 1) := by decide +kernel
theorem dL_law_699 : decode cL_law 699 = .ok (.iconst 2, 1) := by decide +kernel
theorem dL_law_700 : decode cL_law 700 = .ok (.iadd, 1) := by decide +kernel
theorem dL_law_701 : decode cL_law 701 = .ok (.iaload, 1) := by decide +kernel
theorem dL_law_702 : decode cL_law 702 = .ok (.invokevirtual 82, 3) := by decide +kernel
theorem dL_law_705 : decode cL_law 705 = .ok (.aload_n 2, 1) := by decide +kernel
theorem dL_law_706 : decode cL_law 706 = .ok (.aload_n 0, 1) := by decide +kernel
theorem dL_law_707 : decode cL_law 707 = .ok (.iload_n 3, 1) := by decide +kernel
theorem dL_law_708 : decode cL_law 708 = .ok (.iconst 1, 1) := by decide +kernel
theorem dL_law_709 : decode cL_law 709 = .ok (.iadd, 1) := by decide +kernel
theorem dL_law_710 : decode cL_law 710 = .ok (.iaload, 1) := by decide +kernel
theorem dL_law_711 : decode cL_law 711 = .ok (.aload_n 0, 1) := by decide +kernel
theorem dL_law_712 : decode cL_law 712 = .ok (.iload_n 3, 1) := by decide +kernel
theorem dL_law_713 : decode cL_law 713 = .ok (.iconst 2, 1) := by decide +kernel
theorem dL_law_714 : decode cL_law 714 = .ok (.iadd, 1) := by decide +kernel
theorem dL_law_715 : decode cL_law 715 = .ok (.iaload, 1) := by decide +kernel
theorem dL_law_716 : decode cL_law 716 = .ok (.invokevirtual 85, 3) := by decide +kernel
theorem dL_law_719 : decode cL_law 719 = .ok (.if_icmp .eq 341, 3) := by decide +kernel
theorem dL_law_722 : decode cL_law 722 = .ok (.iconst 0, 1) := by decide +kernel
theorem dL_law_723 : decode cL_law 723 = .ok (.ireturn, 1) := by decide +kernel
theorem dL_law_724 : decode cL_law 724 = .ok (.aload_n 1, 1) := by decide +kernel
theorem dL_law_725 : decode cL_law 725 = .ok (.aload_n 0, 1) := by decide +kernel
theorem dL_law_726 : decode cL_law 726 = .ok (.iload_n 3, 1) := by decide +kernel
theorem dL_law_727 : decode cL_law 727 = .ok (.iconst 1, 1) := by decide +kernel
theorem dL_law_728 : decode cL_law 728 = .ok (.iadd, 1) := by decide +kernel
theorem dL_law_729 : decode cL_law 729 = .ok (.iaload, 1) := by decide +kernel
theorem dL_law_730 : decode cL_law 730 = .ok (.invokevirtual 86, 3) := by decide +kernel
theorem dL_law_733 : decode cL_law 733 = .ok (.aload_n 2, 1) := by decide +kernel
theorem dL_law_734 : decode cL_law 734 = .ok (.aload_n 0, 1) := by decide +kernel
theorem dL_law_735 : decode cL_law 735 = .ok (.iload_n 3, 1) := by decide +kernel
theorem dL_law_736 : decode cL_law 736 = .ok (.iconst 1, 1) := by decide +kernel
theorem dL_law_737 : decode cL_law 737 = .ok (.iadd, 1) := by decide +kernel
theorem dL_law_738 : decode cL_law 738 = .ok (.iaload, 1) := by decide +kernel
theorem dL_law_739 : decode cL_law 739 = .ok (.invokevirtual 89, 3) := by decide +kernel
theorem dL_law_742 : decode cL_law 742 = .ok (.if_icmp .eq 318, 3) := by decide +kernel
theorem dL_law_745 : decode cL_law 745 = .ok (.iconst 0, 1) := by decide +kernel
theorem dL_law_746 : decode cL_law 746 = .ok (.ireturn, 1) := by decide +kernel
theorem dL_law_747 : decode cL_law 747 = .ok (.aload_n 1, 1) := by decide +kernel
theorem dL_law_748 : decode cL_law 748 = .ok (.aload_n 0, 1) := by decide +kernel
theorem dL_law_749 : decode cL_law 749 = .ok (.iload_n 3, 1) := by decide +kernel
theorem dL_law_750 : decode cL_law 750 = .ok (.iconst 1, 1) := by decide +kernel
theorem dL_law_751 : decode cL_law 751 = .ok (.iadd, 1) := by decide +kernel
theorem dL_law_752 : decode cL_law 752 = .ok (.iaload, 1) := by decide +kernel
theorem dL_law_753 : decode cL_law 753 = .ok (.aload_n 0, 1) := by decide +kernel
theorem dL_law_754 : decode cL_law 754 = .ok (.iload_n 3, 1) := by decide +kernel
theorem dL_law_755 : decode cL_law 755 = .ok (.iconst 2, 1) := by decide +kernel
theorem dL_law_756 : decode cL_law 756 = .ok (.iadd, 1) := by decide +kernel
theorem dL_law_757 : decode cL_law 757 = .ok (.iaload, 1) := by decide +kernel
theorem dL_law_758 : decode cL_law 758 = .ok (.aload_n 0, 1) := by decide +kernel
theorem dL_law_759 : decode cL_law 759 = .ok (.iload_n 3, 1) := by decide +kernel
theorem dL_law_760 : decode cL_law 760 = .ok (.iconst 3, 1) := by decide +kernel
theorem dL_law_761 : decode cL_law 761 = .ok (.iadd, 1) := by decide +kernel
theorem dL_law_762 : decode cL_law 762 = .ok (.iaload, 1) := by decide +kernel
theorem dL_law_763 : decode cL_law 763 = .ok (.invokevirtual 90, 3) := by decide +kernel
theorem dL_law_766 : decode cL_law 766 = .ok (.aload_n 2, 1) := by decide +kernel
theorem dL_law_767 : decode cL_law 767 = .ok (.aload_n 0, 1) := by decide +kernel
theorem dL_law_768 : decode cL_law 768 = .ok (.iload_n 3, 1) := by decide +kernel
theorem dL_law_769 : decode cL_law 769 = .ok (.iconst 1, 1) := by decide +kernel
theorem dL_law_770 : decode cL_law 770 = .ok (.iadd, 1) := by decide +kernel
theorem dL_law_771 : decode cL_law 771 = .ok (.iaload, 1) := by decide +kernel
theorem dL_law_772 : decode cL_law 772 = .ok (.aload_n 0, 1) := by decide +kernel
theorem dL_law_773 : decode cL_law 773 = .ok (.iload_n 3, 1) := by decide +kernel
theorem dL_law_774 : decode cL_law 774 = .ok (.iconst 2, 1) := by decide +kernel
theorem dL_law_775 : decode cL_law 775 = .ok (.iadd, 1) := by decide +kernel
theorem dL_law_776 : decode cL_law 776 = .ok (.iaload, 1) := by decide +kernel
theorem dL_law_777 : decode cL_law 777 = .ok (.aload_n 0, 1) := by decide +kernel
theorem dL_law_778 : decode cL_law 778 = .ok (.iload_n 3, 1) := by decide +kernel
theorem dL_law_779 : decode cL_law 779 = .ok (.iconst 3, 1) := by decide +kernel
theorem dL_law_780 : decode cL_law 780 = .ok (.iadd, 1) := by decide +kernel
theorem dL_law_781 : decode cL_law 781 = .ok (.iaload, 1) := by decide +kernel
theorem dL_law_782 : decode cL_law 782 = .ok (.invokevirtual 93, 3) := by decide +kernel
theorem dL_law_785 : decode cL_law 785 = .ok (.if_icmp .eq 275, 3) := by decide +kernel
theorem dL_law_788 : decode cL_law 788 = .ok (.iconst 0, 1) := by decide +kernel
theorem dL_law_789 : decode cL_law 789 = .ok (.ireturn, 1) := by decide +kernel
theorem dL_law_790 : decode cL_law 790 = .ok (.aload_n 1, 1) := by decide +kernel
theorem dL_law_791 : decode cL_law 791 = .ok (.aload_n 0, 1) := by decide +kernel
theorem dL_law_792 : decode cL_law 792 = .ok (.iload_n 3, 1) := by decide +kernel
theorem dL_law_793 : decode cL_law 793 = .ok (.iconst 1, 1) := by decide +kernel
theorem dL_law_794 : decode cL_law 794 = .ok (.iadd, 1) := by decide +kernel
theorem dL_law_795 : decode cL_law 795 = .ok (.iaload, 1) := by decide +kernel
theorem dL_law_796 : decode cL_law 796 = .ok (.aload_n 0, 1) := by decide +kernel
theorem dL_law_797 : decode cL_law 797 = .ok (.iload_n 3, 1) := by decide +kernel
theorem dL_law_798 : decode cL_law 798 = .ok (.iconst 2, 1) := by decide +kernel
theorem dL_law_799 : decode cL_law 799 = .ok (.iadd, 1) := by decide +kernel
theorem dL_law_800 : decode cL_law 800 = .ok (.iaload, 1) := by decide +kernel
theorem dL_law_801 : decode cL_law 801 = .ok (.aload_n 0, 1) := by decide +kernel
theorem dL_law_802 : decode cL_law 802 = .ok (.iload_n 3, 1) := by decide +kernel
theorem dL_law_803 : decode cL_law 803 = .ok (.iconst 3, 1) := by decide +kernel
theorem dL_law_804 : decode cL_law 804 = .ok (.iadd, 1) := by decide +kernel
theorem dL_law_805 : decode cL_law 805 = .ok (.iaload, 1) := by decide +kernel
theorem dL_law_806 : decode cL_law 806 = .ok (.invokevirtual 94, 3) := by decide +kernel
theorem dL_law_809 : decode cL_law 809 = .ok (.aload_n 2, 1) := by decide +kernel
theorem dL_law_810 : decode cL_law 810 = .ok (.aload_n 0, 1) := by decide +kernel
theorem dL_law_811 : decode cL_law 811 = .ok (.iload_n 3, 1) := by decide +kernel
theorem dL_law_812 : decode cL_law 812 = .ok (.iconst 1, 1) := by decide +kernel
theorem dL_law_813 : decode cL_law 813 = .ok (.iadd, 1) := by decide +kernel
theorem dL_law_814 : decode cL_law 814 = .ok (.iaload, 1) := by decide +kernel
theorem dL_law_815 : decode cL_law 815 = .ok (.aload_n 0, 1) := by decide +kernel
theorem dL_law_816 : decode cL_law 816 = .ok (.iload_n 3, 1) := by decide +kernel
theorem dL_law_817 : decode cL_law 817 = .ok (.iconst 2, 1) := by decide +kernel
theorem dL_law_818 : decode cL_law 818 = .ok (.iadd, 1) := by decide +kernel
theorem dL_law_819 : decode cL_law 819 = .ok (.iaload, 1) := by decide +kernel
theorem dL_law_820 : decode cL_law 820 = .ok (.aload_n 0, 1) := by decide +kernel
theorem dL_law_821 : decode cL_law 821 = .ok (.iload_n 3, 1) := by decide +kernel
theorem dL_law_822 : decode cL_law 822 = .ok (.iconst 3, 1) := by decide +kernel
theorem dL_law_823 : decode cL_law 823 = .ok (.iadd, 1) := by decide +kernel
theorem dL_law_824 : decode cL_law 824 = .ok (.iaload, 1) := by decide +kernel
theorem dL_law_825 : decode cL_law 825 = .ok (.invokevirtual 97, 3) := by decide +kernel
theorem dL_law_828 : decode cL_law 828 = .ok (.if_icmp .eq 232, 3) := by decide +kernel
theorem dL_law_831 : decode cL_law 831 = .ok (.iconst 0, 1) := by decide +kernel
theorem dL_law_832 : decode cL_law 832 = .ok (.ireturn, 1) := by decide +kernel
theorem dL_law_833 : decode cL_law 833 = .ok (.aload_n 1, 1) := by decide +kernel
theorem dL_law_834 : decode cL_law 834 = .ok (.aload_n 0, 1) := by decide +kernel
theorem dL_law_835 : decode cL_law 835 = .ok (.iload_n 3, 1) := by decide +kernel
theorem dL_law_836 : decode cL_law 836 = .ok (.iconst 1, 1) := by decide +kernel
theorem dL_law_837 : decode cL_law 837 = .ok (.iadd, 1) := by decide +kernel
theorem dL_law_838 : decode cL_law 838 = .ok (.iaload, 1) := by decide +kernel
theorem dL_law_839 : decode cL_law 839 = .ok (.invokevirtual 98, 3) := by decide +kernel
theorem dL_law_842 : decode cL_law 842 = .ok (.aload_n 2, 1) := by decide +kernel
theorem dL_law_843 : decode cL_law 843 = .ok (.aload_n 0, 1) := by decide +kernel
theorem dL_law_844 : decode cL_law 844 = .ok (.iload_n 3, 1) := by decide +kernel
theorem dL_law_845 : decode cL_law 845 = .ok (.iconst 1, 1) := by decide +kernel
theorem dL_law_846 : decode cL_law 846 = .ok (.iadd, 1) := by decide +kernel
theorem dL_law_847 : decode cL_law 847 = .ok (.iaload, 1) := by decide +kernel
theorem dL_law_848 : decode cL_law 848 = .ok (.invokevirtual 101, 3) := by decide +kernel
theorem dL_law_851 : decode cL_law 851 = .ok (.if_icmp .eq 209, 3) := by decide +kernel
theorem dL_law_854 : decode cL_law 854 = .ok (.iconst 0, 1) := by decide +kernel
theorem dL_law_855 : decode cL_law 855 = .ok (.ireturn, 1) := by decide +kernel
theorem dL_law_856 : decode cL_law 856 = .ok (.aload_n 1, 1) := by decide +kernel
theorem dL_law_857 : decode cL_law 857 = .ok (.aload_n 0, 1) := by decide +kernel
theorem dL_law_858 : decode cL_law 858 = .ok (.iload_n 3, 1) := by decide +kernel
theorem dL_law_859 : decode cL_law 859 = .ok (.iconst 1, 1) := by decide +kernel
theorem dL_law_860 : decode cL_law 860 = .ok (.iadd, 1) := by decide +kernel
theorem dL_law_861 : decode cL_law 861 = .ok (.iaload, 1) := by decide +kernel
theorem dL_law_862 : decode cL_law 862 = .ok (.aload_n 0, 1) := by decide +kernel
theorem dL_law_863 : decode cL_law 863 = .ok (.iload_n 3, 1) := by decide +kernel
theorem dL_law_864 : decode cL_law 864 = .ok (.iconst 2, 1) := by decide +kernel
theorem dL_law_865 : decode cL_law 865 = .ok (.iadd, 1) := by decide +kernel
theorem dL_law_866 : decode cL_law 866 = .ok (.iaload, 1) := by decide +kernel
theorem dL_law_867 : decode cL_law 867 = .ok (.invokevirtual 102, 3) := by decide +kernel
theorem dL_law_870 : decode cL_law 870 = .ok (.aload_n 2, 1) := by decide +kernel
theorem dL_law_871 : decode cL_law 871 = .ok (.aload_n 0, 1) := by decide +kernel
theorem dL_law_872 : decode cL_law 872 = .ok (.iload_n 3, 1) := by decide +kernel
theorem dL_law_873 : decode cL_law 873 = .ok (.iconst 1, 1) := by decide +kernel
theorem dL_law_874 : decode cL_law 874 = .ok (.iadd, 1) := by decide +kernel
theorem dL_law_875 : decode cL_law 875 = .ok (.iaload, 1) := by decide +kernel
theorem dL_law_876 : decode cL_law 876 = .ok (.aload_n 0, 1) := by decide +kernel
theorem dL_law_877 : decode cL_law 877 = .ok (.iload_n 3, 1) := by decide +kernel
theorem dL_law_878 : decode cL_law 878 = .ok (.iconst 2, 1) := by decide +kernel
theorem dL_law_879 : decode cL_law 879 = .ok (.iadd, 1) := by decide +kernel
theorem dL_law_880 : decode cL_law 880 = .ok (.iaload, 1) := by decide +kernel
theorem dL_law_881 : decode cL_law 881 = .ok (.invokevirtual 105, 3) := by decide +kernel
theorem dL_law_884 : decode cL_law 884 = .ok (.if_icmp .eq 176, 3) := by decide +kernel
theorem dL_law_887 : decode cL_law 887 = .ok (.iconst 0, 1) := by decide +kernel
theorem dL_law_888 : decode cL_law 888 = .ok (.ireturn, 1) := by decide +kernel
theorem dL_law_889 : decode cL_law 889 = .ok (.aload_n 1, 1) := by decide +kernel
theorem dL_law_890 : decode cL_law 890 = .ok (.aload_n 0, 1) := by decide +kernel
theorem dL_law_891 : decode cL_law 891 = .ok (.iload_n 3, 1) := by decide +kernel
theorem dL_law_892 : decode cL_law 892 = .ok (.iconst 1, 1) := by decide +kernel
theorem dL_law_893 : decode cL_law 893 = .ok (.iadd, 1) := by decide +kernel
theorem dL_law_894 : decode cL_law 894 = .ok (.iaload, 1) := by decide +kernel
theorem dL_law_895 : decode cL_law 895 = .ok (.aload_n 0, 1) := by decide +kernel
theorem dL_law_896 : decode cL_law 896 = .ok (.iload_n 3, 1) := by decide +kernel
theorem dL_law_897 : decode cL_law 897 = .ok (.iconst 2, 1) := by decide +kernel
theorem dL_law_898 : decode cL_law 898 = .ok (.iadd, 1) := by decide +kernel
theorem dL_law_899 : decode cL_law 899 = .ok (.iaload, 1) := by decide +kernel
theorem dL_law_900 : decode cL_law 900 = .ok (.invokevirtual 106, 3) := by decide +kernel
theorem dL_law_903 : decode cL_law 903 = .ok (.aload_n 2, 1) := by decide +kernel
theorem dL_law_904 : decode cL_law 904 = .ok (.aload_n 0, 1) := by decide +kernel
theorem dL_law_905 : decode cL_law 905 = .ok (.iload_n 3, 1) := by decide +kernel
theorem dL_law_906 : decode cL_law 906 = .ok (.iconst 1, 1) := by decide +kernel
theorem dL_law_907 : decode cL_law 907 = .ok (.iadd, 1) := by decide +kernel
theorem dL_law_908 : decode cL_law 908 = .ok (.iaload, 1) := by decide +kernel
theorem dL_law_909 : decode cL_law 909 = .ok (.aload_n 0, 1) := by decide +kernel
theorem dL_law_910 : decode cL_law 910 = .ok (.iload_n 3, 1) := by decide +kernel
theorem dL_law_911 : decode cL_law 911 = .ok (.iconst 2, 1) := by decide +kernel
theorem dL_law_912 : decode cL_law 912 = .ok (.iadd, 1) := by decide +kernel
theorem dL_law_913 : decode cL_law 913 = .ok (.iaload, 1) := by decide +kernel
theorem dL_law_914 : decode cL_law 914 = .ok (.invokevirtual 109, 3) := by decide +kernel
theorem dL_law_917 : decode cL_law 917 = .ok (.if_icmp .eq 143, 3) := by decide +kernel
theorem dL_law_920 : decode cL_law 920 = .ok (.iconst 0, 1) := by decide +kernel
theorem dL_law_921 : decode cL_law 921 = .ok (.ireturn, 1) := by decide +kernel
theorem dL_law_922 : decode cL_law 922 = .ok (.aload_n 1, 1) := by decide +kernel
theorem dL_law_923 : decode cL_law 923 = .ok (.aload_n 0, 1) := by decide +kernel
theorem dL_law_924 : decode cL_law 924 = .ok (.iload_n 3, 1) := by decide +kernel
theorem dL_law_925 : decode cL_law 925 = .ok (.iconst 1, 1) := by decide +kernel
theorem dL_law_926 : decode cL_law 926 = .ok (.iadd, 1) := by decide +kernel
theorem dL_law_927 : decode cL_law 927 = .ok (.iaload, 1) := by decide +kernel
theorem dL_law_928 : decode cL_law 928 = .ok (.aload_n 0, 1) := by decide +kernel
theorem dL_law_929 : decode cL_law 929 = .ok (.iload_n 3, 1) := by decide +kernel
theorem dL_law_930 : decode cL_law 930 = .ok (.iconst 2, 1) := by decide +kernel
theorem dL_law_931 : decode cL_law 931 = .ok (.iadd, 1) := by decide +kernel
theorem dL_law_932 : decode cL_law 932 = .ok (.iaload, 1) := by decide +kernel
theorem dL_law_933 : decode cL_law 933 = .ok (.aload_n 0, 1) := by decide +kernel
theorem dL_law_934 : decode cL_law 934 = .ok (.iload_n 3, 1) := by decide +kernel
theorem dL_law_935 : decode cL_law 935 = .ok (.iconst 3, 1) := by decide +kernel
theorem dL_law_936 : decode cL_law 936 = .ok (.iadd, 1) := by decide +kernel
theorem dL_law_937 : decode cL_law 937 = .ok (.iaload, 1) := by decide +kernel
theorem dL_law_938 : decode cL_law 938 = .ok (.invokevirtual 110, 3) := by decide +kernel
theorem dL_law_941 : decode cL_law 941 = .ok (.aload_n 2, 1) := by decide +kernel
theorem dL_law_942 : decode cL_law 942 = .ok (.aload_n 0, 1) := by decide +kernel
theorem dL_law_943 : decode cL_law 943 = .ok (.iload_n 3, 1) := by decide +kernel
theorem dL_law_944 : decode cL_law 944 = .ok (.iconst 1, 1) := by decide +kernel
theorem dL_law_945 : decode cL_law 945 = .ok (.iadd, 1) := by decide +kernel
theorem dL_law_946 : decode cL_law 946 = .ok (.iaload, 1) := by decide +kernel
theorem dL_law_947 : decode cL_law 947 = .ok (.aload_n 0, 1) := by decide +kernel
theorem dL_law_948 : decode cL_law 948 = .ok (.iload_n 3, 1) := by decide +kernel
theorem dL_law_949 : decode cL_law 949 = .ok (.iconst 2, 1) := by decide +kernel
theorem dL_law_950 : decode cL_law 950 = .ok (.iadd, 1) := by decide +kernel
theorem dL_law_951 : decode cL_law 951 = .ok (.iaload, 1) := by decide +kernel
theorem dL_law_952 : decode cL_law 952 = .ok (.aload_n 0, 1) := by decide +kernel
theorem dL_law_953 : decode cL_law 953 = .ok (.iload_n 3, 1) := by decide +kernel
theorem dL_law_954 : decode cL_law 954 = .ok (.iconst 3, 1) := by decide +kernel
theorem dL_law_955 : decode cL_law 955 = .ok (.iadd, 1) := by decide +kernel
theorem dL_law_956 : decode cL_law 956 = .ok (.iaload, 1) := by decide +kernel
theorem dL_law_957 : decode cL_law 957 = .ok (.invokevirtual 113, 3) := by decide +kernel
theorem dL_law_960 : decode cL_law 960 = .ok (.if_icmp .eq 100, 3) := by decide +kernel
theorem dL_law_963 : decode cL_law 963 = .ok (.iconst 0, 1) := by decide +kernel
theorem dL_law_964 : decode cL_law 964 = .ok (.ireturn, 1) := by decide +kernel
theorem dL_law_965 : decode cL_law 965 = .ok (.aload_n 1, 1) := by decide +kernel
theorem dL_law_966 : decode cL_law 966 = .ok (.invokevirtual 114, 3) := by decide +kernel
theorem dL_law_969 : decode cL_law 969 = .ok (.aload_n 2, 1) := by decide +kernel
theorem dL_law_970 : decode cL_law 970 = .ok (.invokevirtual 117, 3) := by decide +kernel
theorem dL_law_973 : decode cL_law 973 = .ok (.if_icmp .eq 87, 3) := by decide +kernel
theorem dL_law_976 : decode cL_law 976 = .ok (.iconst 0, 1) := by decide +kernel
theorem dL_law_977 : decode cL_law 977 = .ok (.ireturn, 1) := by decide +kernel
theorem dL_law_978 : decode cL_law 978 = .ok (.aload_n 1, 1) := by decide +kernel
theorem dL_law_979 : decode cL_law 979 = .ok (.invokevirtual 118, 3) := by decide +kernel
theorem dL_law_982 : decode cL_law 982 = .ok (.aload_n 2, 1) := by decide +kernel
theorem dL_law_983 : decode cL_law 983 = .ok (.invokevirtual 121, 3) := by decide +kernel
theorem dL_law_986 : decode cL_law 986 = .ok (.if_icmp .eq 74, 3) := by decide +kernel
theorem dL_law_989 : decode cL_law 989 = .ok (.iconst 0, 1) := by decide +kernel
theorem dL_law_990 : decode cL_law 990 = .ok (.ireturn, 1) := by decide +kernel
theorem dL_law_991 : decode cL_law 991 = .ok (.aload_n 1, 1) := by decide +kernel
theorem dL_law_992 : decode cL_law 992 = .ok (.aload_n 0, 1) := by decide +kernel
theorem dL_law_993 : decode cL_law 993 = .ok (.iload_n 3, 1) := by decide +kernel
theorem dL_law_994 : decode cL_law 994 = .ok (.iconst 1, 1) := by decide +kernel
theorem dL_law_995 : decode cL_law 995 = .ok (.iadd, 1) := by decide +kernel
theorem dL_law_996 : decode cL_law 996 = .ok (.iaload, 1) := by decide +kernel
theorem dL_law_997 : decode cL_law 997 = .ok (.invokevirtual 122, 3) := by decide +kernel
theorem dL_law_1000 : decode cL_law 1000 = .ok (.aload_n 2, 1) := by decide +kernel
theorem dL_law_1001 : decode cL_law 1001 = .ok (.aload_n 0, 1) := by decide +kernel
theorem dL_law_1002 : decode cL_law 1002 = .ok (.iload_n 3, 1) := by decide +kernel
theorem dL_law_1003 : decode cL_law 1003 = .ok (.iconst 1, 1) := by decide +kernel
theorem dL_law_1004 : decode cL_law 1004 = .ok (.iadd, 1) := by decide +kernel
theorem dL_law_1005 : decode cL_law 1005 = .ok (.iaload, 1) := by decide +kernel
theorem dL_law_1006 : decode cL_law 1006 = .ok (.invokevirtual 125, 3) := by decide +kernel
theorem dL_law_1009 : decode cL_law 1009 = .ok (.if_icmp .eq 51, 3) := by decide +kernel
theorem dL_law_1012 : decode cL_law 1012 = .ok (.iconst 0, 1) := by decide +kernel
theorem dL_law_1013 : decode cL_law 1013 = .ok (.ireturn, 1) := by decide +kernel
theorem dL_law_1014 : decode cL_law 1014 = .ok (.aload_n 1, 1) := by decide +kernel
theorem dL_law_1015 : decode cL_law 1015 = .ok (.aload_n 0, 1) := by decide +kernel
theorem dL_law_1016 : decode cL_law 1016 = .ok (.iload_n 3, 1) := by decide +kernel
theorem dL_law_1017 : decode cL_law 1017 = .ok (.iconst 1, 1) := by decide +kernel
theorem dL_law_1018 : decode cL_law 1018 = .ok (.iadd, 1) := by decide +kernel
theorem dL_law_1019 : decode cL_law 1019 = .ok (.iaload, 1) := by decide +kernel
theorem dL_law_1020 : decode cL_law 1020 = .ok (.invokevirtual 126, 3) := by decide +kernel
theorem dL_law_1023 : decode cL_law 1023 = .ok (.aload_n 2, 1) := by decide +kernel
theorem dL_law_1024 : decode cL_law 1024 = .ok (.aload_n 0, 1) := by decide +kernel
theorem dL_law_1025 : decode cL_law 1025 = .ok (.iload_n 3, 1) := by decide +kernel
theorem dL_law_1026 : decode cL_law 1026 = .ok (.iconst 1, 1) := by decide +kernel
theorem dL_law_1027 : decode cL_law 1027 = .ok (.iadd, 1) := by decide +kernel
theorem dL_law_1028 : decode cL_law 1028 = .ok (.iaload, 1) := by decide +kernel
theorem dL_law_1029 : decode cL_law 1029 = .ok (.invokevirtual 129, 3) := by decide +kernel
theorem dL_law_1032 : decode cL_law 1032 = .ok (.if_icmp .eq 28, 3) := by decide +kernel
theorem dL_law_1035 : decode cL_law 1035 = .ok (.iconst 0, 1) := by decide +kernel
theorem dL_law_1036 : decode cL_law 1036 = .ok (.ireturn, 1) := by decide +kernel
theorem dL_law_1037 : decode cL_law 1037 = .ok (.aload_n 1, 1) := by decide +kernel
theorem dL_law_1038 : decode cL_law 1038 = .ok (.aload_n 0, 1) := by decide +kernel
theorem dL_law_1039 : decode cL_law 1039 = .ok (.iload_n 3, 1) := by decide +kernel
theorem dL_law_1040 : decode cL_law 1040 = .ok (.iconst 1, 1) := by decide +kernel
theorem dL_law_1041 : decode cL_law 1041 = .ok (.iadd, 1) := by decide +kernel
theorem dL_law_1042 : decode cL_law 1042 = .ok (.iaload, 1) := by decide +kernel
theorem dL_law_1043 : decode cL_law 1043 = .ok (.invokevirtual 130, 3) := by decide +kernel
theorem dL_law_1046 : decode cL_law 1046 = .ok (.aload_n 2, 1) := by decide +kernel
theorem dL_law_1047 : decode cL_law 1047 = .ok (.aload_n 0, 1) := by decide +kernel
theorem dL_law_1048 : decode cL_law 1048 = .ok (.iload_n 3, 1) := by decide +kernel
theorem dL_law_1049 : decode cL_law 1049 = .ok (.iconst 1, 1) := by decide +kernel
theorem dL_law_1050 : decode cL_law 1050 = .ok (.iadd, 1) := by decide +kernel
theorem dL_law_1051 : decode cL_law 1051 = .ok (.iaload, 1) := by decide +kernel
theorem dL_law_1052 : decode cL_law 1052 = .ok (.invokevirtual 133, 3) := by decide +kernel
theorem dL_law_1055 : decode cL_law 1055 = .ok (.if_icmp .eq 5, 3) := by decide +kernel
theorem dL_law_1058 : decode cL_law 1058 = .ok (.iconst 0, 1) := by decide +kernel
theorem dL_law_1059 : decode cL_law 1059 = .ok (.ireturn, 1) := by decide +kernel
theorem dL_law_1060 : decode cL_law 1060 = .ok (.iinc 3 5, 3) := by decide +kernel
theorem dL_law_1063 : decode cL_law 1063 = .ok (.goto (-1045), 3) := by decide +kernel
theorem dL_law_1066 : decode cL_law 1066 = .ok (.iconst 1, 1) := by decide +kernel
theorem dL_law_1067 : decode cL_law 1067 = .ok (.ireturn, 1) := by decide +kernel
