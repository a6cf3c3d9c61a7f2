theorem dX8_init_0 : decode cX8_init 0 = .ok (.aload_n 0, 1) := by decide +kernel
theorem dX8_init_1 : decode cX8_init 1 = .ok (.invokespecial 1, 3) := by decide +kernel
theorem dX8_init_4 : decode cX8_init 4 = .ok (.aload_n 0, 1) := by decide +kernel
theorem dX8_init_5 : decode cX8_init 5 = .ok (.sipush 180, 3) := by decide +kernel
theorem dX8_init_8 : decode cX8_init 8 = .ok (.newarray .int, 2) := by decide +kernel
theorem dX8_init_10 : decode cX8_init 10 = .ok (.putfield 7, 3) := by decide +kernel
theorem dX8_init_13 : decode cX8_init 13 = .ok (.aload_n 0, 1) := by decide +kernel
theorem dX8_init_14 : decode cX8_init 14 = .ok (.bipush 6, 2) := by decide +kernel
theorem dX8_init_16 : decode cX8_init 16 = .ok (.newarray .int, 2) := by decide +kernel
theorem dX8_init_18 : decode cX8_init 18 = .ok (.putfield 13, 3) := by decide +kernel
theorem dX8_init_21 : decode cX8_init 21 = .ok (.aload_n 0, 1) := by decide +kernel
theorem dX8_init_22 : decode cX8_init 22 = .ok (.sipush 900, 3) := by decide +kernel
theorem dX8_init_25 : decode cX8_init 25 = .ok (.newarray .int, 2) := by decide +kernel
theorem dX8_init_27 : decode cX8_init 27 = .ok (.putfield 16, 3) := by decide +kernel
theorem dX8_init_30 : decode cX8_init 30 = .ok (.aload_n 0, 1) := by decide +kernel
theorem dX8_init_31 : decode cX8_init 31 = .ok (.iconst 5, 1) := by decide +kernel
theorem dX8_init_32 : decode cX8_init 32 = .ok (.newarray .int, 2) := by decide +kernel
theorem dX8_init_34 : decode cX8_init 34 = .ok (.putfield 19, 3) := by decide +kernel
theorem dX8_init_37 : decode cX8_init 37 = .ok (.aload_n 0, 1) := by decide +kernel
theorem dX8_init_38 : decode cX8_init 38 = .ok (.iconst 5, 1) := by decide +kernel
theorem dX8_init_39 : decode cX8_init 39 = .ok (.newarray .int, 2) := by decide +kernel
theorem dX8_init_41 : decode cX8_init 41 = .ok (.putfield 22, 3) := by decide +kernel
theorem dX8_init_44 : decode cX8_init 44 = .ok (.aload_n 0, 1) := by decide +kernel
theorem dX8_init_45 : decode cX8_init 45 = .ok (.iconst 5, 1) := by decide +kernel
theorem dX8_init_46 : decode cX8_init 46 = .ok (.newarray .boolean, 2) := by decide +kernel
theorem dX8_init_48 : decode cX8_init 48 = .ok (.putfield 25, 3) := by decide +kernel
theorem dX8_init_51 : decode cX8_init 51 = .ok (.aload_n 0, 1) := by decide +kernel
theorem dX8_init_52 : decode cX8_init 52 = .ok (.iconst 5, 1) := by decide +kernel
theorem dX8_init_53 : decode cX8_init 53 = .ok (.newarray .int, 2) := by decide +kernel
theorem dX8_init_55 : decode cX8_init 55 = .ok (.putfield 29, 3) := by decide +kernel
theorem dX8_init_58 : decode cX8_init 58 = .ok (.aload_n 0, 1) := by decide +kernel
theorem dX8_init_59 : decode cX8_init 59 = .ok (.bipush 50, 2) := by decide +kernel
theorem dX8_init_61 : decode cX8_init 61 = .ok (.newarray .int, 2) := by decide +kernel
theorem dX8_init_63 : decode cX8_init 63 = .ok (.putfield 32, 3) := by decide +kernel
theorem dX8_init_66 : decode cX8_init 66 = .ok (.aload_n 0, 1) := by decide +kernel
theorem dX8_init_67 : decode cX8_init 67 = .ok (.bipush 25, 2) := by decide +kernel
theorem dX8_init_69 : decode cX8_init 69 = .ok (.newarray .int, 2) := by decide +kernel
theorem dX8_init_71 : decode cX8_init 71 = .ok (.putfield 35, 3) := by decide +kernel
theorem dX8_init_74 : decode cX8_init 74 = .ok (.aload_n 0, 1) := by decide +kernel
theorem dX8_init_75 : decode cX8_init 75 = .ok (.bipush 25, 2) := by decide +kernel
theorem dX8_init_77 : decode cX8_init 77 = .ok (.newarray .int, 2) := by decide +kernel
theorem dX8_init_79 : decode cX8_init 79 = .ok (.putfield 38, 3) := by decide +kernel
theorem dX8_init_82 : decode cX8_init 82 = .ok (.aload_n 0, 1) := by decide +kernel
theorem dX8_init_83 : decode cX8_init 83 = .ok (.iconst 5, 1) := by decide +kernel
theorem dX8_init_84 : decode cX8_init 84 = .ok (.newarray .int, 2) := by decide +kernel
theorem dX8_init_86 : decode cX8_init 86 = .ok (.putfield 41, 3) := by decide +kernel
theorem dX8_init_89 : decode cX8_init 89 = .ok (.aload_n 0, 1) := by decide +kernel
theorem dX8_init_90 : decode cX8_init 90 = .ok (.iconst 5, 1) := by decide +kernel
theorem dX8_init_91 : decode cX8_init 91 = .ok (.newarray .int, 2) := by decide +kernel
theorem dX8_init_93 : decode cX8_init 93 = .ok (.putfield 44, 3) := by decide +kernel
theorem dX8_init_96 : decode cX8_init 96 = .ok (.aload_n 0, 1) := by decide +kernel
theorem dX8_init_97 : decode cX8_init 97 = .ok (.iconst 5, 1) := by decide +kernel
theorem dX8_init_98 : decode cX8_init 98 = .ok (.newarray .int, 2) := by decide +kernel
theorem dX8_init_100 : decode cX8_init 100 = .ok (.putfield 47, 3) := by decide +kernel
theorem dX8_init_103 : decode cX8_init 103 = .ok (.aload_n 0, 1) := by decide +kernel
theorem dX8_init_104 : decode cX8_init 104 = .ok (.iconst 5, 1) := by decide +kernel
theorem dX8_init_105 : decode cX8_init 105 = .ok (.newarray .boolean, 2) := by decide +kernel
theorem dX8_init_107 : decode cX8_init 107 = .ok (.putfield 50, 3) := by decide +kernel
theorem dX8_init_110 : decode cX8_init 110 = .ok (.aload_n 0, 1) := by decide +kernel
theorem dX8_init_111 : decode cX8_init 111 = .ok (.iconst 5, 1) := by decide +kernel
theorem dX8_init_112 : decode cX8_init 112 = .ok (.newarray .int, 2) := by decide +kernel
theorem dX8_init_114 : decode cX8_init 114 = .ok (.putfield 53, 3) := by decide +kernel
theorem dX8_init_117 : decode cX8_init 117 = .ok (.aload_n 0, 1) := by decide +kernel
theorem dX8_init_118 : decode cX8_init 118 = .ok (.iconst 5, 1) := by decide +kernel
theorem dX8_init_119 : decode cX8_init 119 = .ok (.newarray .int, 2) := by decide +kernel
theorem dX8_init_121 : decode cX8_init 121 = .ok (.putfield 56, 3) := by decide +kernel
theorem dX8_init_124 : decode cX8_init 124 = .ok (.aload_n 0, 1) := by decide +kernel
theorem dX8_init_125 : decode cX8_init 125 = .ok (.bipush 100, 2) := by decide +kernel
theorem dX8_init_127 : decode cX8_init 127 = .ok (.newarray .int, 2) := by decide +kernel
theorem dX8_init_129 : decode cX8_init 129 = .ok (.putfield 59, 3) := by decide +kernel
theorem dX8_init_132 : decode cX8_init 132 = .ok (.aload_n 0, 1) := by decide +kernel
theorem dX8_init_133 : decode cX8_init 133 = .ok (.iconst 5, 1) := by decide +kernel
theorem dX8_init_134 : decode cX8_init 134 = .ok (.newarray .int, 2) := by decide +kernel
theorem dX8_init_136 : decode cX8_init 136 = .ok (.putfield 62, 3) := by decide +kernel
theorem dX8_init_139 : decode cX8_init 139 = .ok (.aload_n 0, 1) := by decide +kernel
theorem dX8_init_140 : decode cX8_init 140 = .ok (.bipush 60, 2) := by decide +kernel
theorem dX8_init_142 : decode cX8_init 142 = .ok (.newarray .char, 2) := by decide +kernel
theorem dX8_init_144 : decode cX8_init 144 = .ok (.putfield 65, 3) := by decide +kernel
theorem dX8_init_147 : decode cX8_init 147 = .ok (.aload_n 0, 1) := by decide +kernel
theorem dX8_init_148 : decode cX8_init 148 = .ok (.iconst 3, 1) := by decide +kernel
theorem dX8_init_149 : decode cX8_init 149 = .ok (.invokevirtual 69, 3) := by decide +kernel
theorem dX8_init_152 : decode cX8_init 152 = .ok (.return_, 1) := by decide +kernel
theorem dX8_in_0 : decode cX8_in 0 = .ok (.iload_n 0, 1) := by decide +kernel
theorem dX8_in_1 : decode cX8_in 1 = .ok (.iload_n 1, 1) := by decide +kernel
theorem dX8_in_2 : decode cX8_in 2 = .ok (.if_icmp .lt 12, 3) := by decide +kernel
theorem dX8_in_5 : decode cX8_in 5 = .ok (.iload_n 0, 1) := by decide +kernel
theorem dX8_in_6 : decode cX8_in 6 = .ok (.iload_n 2, 1) := by decide +kernel
theorem dX8_in_7 : decode cX8_in 7 = .ok (.if_icmp .gt 7, 3) := by decide +kernel
theorem dX8_in_10 : decode cX8_in 10 = .ok (.iconst 1, 1) := by decide +kernel
theorem dX8_in_11 : decode cX8_in 11 = .ok (.goto 4, 3) := by decide +kernel
theorem dX8_in_14 : decode cX8_in 14 = .ok (.iconst 0, 1) := by decide +kernel
theorem dX8_in_15 : decode cX8_in 15 = .ok (.ireturn, 1) := by decide +kernel
theorem dX8_begin_0 : decode cX8_begin 0 = .ok (.aload_n 0, 1) := by decide +kernel
theorem dX8_begin_1 : decode cX8_begin 1 = .ok (.iload_n 1, 1) := by decide +kernel
theorem dX8_begin_2 : decode cX8_begin 2 = .ok (.putfield 73, 3) := by decide +kernel
theorem dX8_begin_5 : decode cX8_begin 5 = .ok (.aload_n 0, 1) := by decide +kernel
theorem dX8_begin_6 : decode cX8_begin 6 = .ok (.iconst 1, 1) := by decide +kernel
theorem dX8_begin_7 : decode cX8_begin 7 = .ok (.putfield 77, 3) := by decide +kernel
theorem dX8_begin_10 : decode cX8_begin 10 = .ok (.aload_n 0, 1) := by decide +kernel
theorem dX8_begin_11 : decode cX8_begin 11 = .ok (.iconst 0, 1) := by decide +kernel
theorem dX8_begin_12 : decode cX8_begin 12 = .ok (.putfield 80, 3) := by decide +kernel
theorem dX8_begin_15 : decode cX8_begin 15 = .ok (.iconst 0, 1) := by decide +kernel
theorem dX8_begin_16 : decode cX8_begin 16 = .ok (.istore_n 2, 1) := by decide +kernel
theorem dX8_begin_17 : decode cX8_begin 17 = .ok (.iload_n 2, 1) := by decide +kernel
theorem dX8_begin_18 : decode cX8_begin 18 = .ok (.sipush 180, 3) := by decide +kernel
theorem dX8_begin_21 : decode cX8_begin 21 = .ok (.if_icmp .ge 16, 3) := by decide +kernel
theorem dX8_begin_24 : decode cX8_begin 24 = .ok (.aload_n 0, 1) := by decide +kernel
theorem dX8_begin_25 : decode cX8_begin 25 = .ok (.getfield 7, 3) := by decide +kernel
theorem dX8_begin_28 : decode cX8_begin 28 = .ok (.iload_n 2, 1) := by decide +kernel
theorem dX8_begin_29 : decode cX8_begin 29 = .ok (.iconst 0, 1) := by decide +kernel
theorem dX8_begin_30 : decode cX8_begin 30 = .ok (.iastore, 1) := by decide +kernel
theorem dX8_begin_31 : decode cX8_begin 31 = .ok (.iinc 2 1, 3) := by decide +kernel
theorem dX8_begin_34 : decode cX8_begin 34 = .ok (.goto (-17), 3) := by decide +kernel
theorem dX8_begin_37 : decode cX8_begin 37 = .ok (.iconst 0, 1) := by decide +kernel
theorem dX8_begin_38 : decode cX8_begin 38 = .ok (.istore_n 2, 1) := by decide +kernel
theorem dX8_begin_39 : decode cX8_begin 39 = .ok (.iload_n 2, 1) := by decide +kernel
theorem dX8_begin_40 : decode cX8_begin 40 = .ok (.bipush 6, 2) := by decide +kernel
theorem dX8_begin_42 : decode cX8_begin 42 = .ok (.if_icmp .ge 16, 3) := by decide +kernel
theorem dX8_begin_45 : decode cX8_begin 45 = .ok (.aload_n 0, 1) := by decide +kernel
theorem dX8_begin_46 : decode cX8_begin 46 = .ok (.getfield 13, 3) := by decide +kernel
theorem dX8_begin_49 : decode cX8_begin 49 = .ok (.iload_n 2, 1) := by decide +kernel
theorem dX8_begin_50 : decode cX8_begin 50 = .ok (.iconst 0, 1) := by decide +kernel
theorem dX8_begin_51 : decode cX8_begin 51 = .ok (.iastore, 1) := by decide +kernel
theorem dX8_begin_52 : decode cX8_begin 52 = .ok (.iinc 2 1, 3) := by decide +kernel
theorem dX8_begin_55 : decode cX8_begin 55 = .ok (.goto (-16), 3) := by decide +kernel
theorem dX8_begin_58 : decode cX8_begin 58 = .ok (.iconst 0, 1) := by decide +kernel
theorem dX8_begin_59 : decode cX8_begin 59 = .ok (.istore_n 2, 1) := by decide +kernel
theorem dX8_begin_60 : decode cX8_begin 60 = .ok (.iload_n 2, 1) := by decide +kernel
theorem dX8_begin_61 : decode cX8_begin 61 = .ok (.bipush 25, 2) := by decide +kernel
theorem dX8_begin_63 : decode cX8_begin 63 = .ok (.if_icmp .ge 23, 3) := by decide +kernel
theorem dX8_begin_66 : decode cX8_begin 66 = .ok (.aload_n 0, 1) := by decide +kernel
theorem dX8_begin_67 : decode cX8_begin 67 = .ok (.getfield 35, 3) := by decide +kernel
theorem dX8_begin_70 : decode cX8_begin 70 = .ok (.iload_n 2, 1) := by decide +kernel
theorem dX8_begin_71 : decode cX8_begin 71 = .ok (.iconst 0, 1) := by decide +kernel
theorem dX8_begin_72 : decode cX8_begin 72 = .ok (.iastore, 1) := by decide +kernel
theorem dX8_begin_73 : decode cX8_begin 73 = .ok (.aload_n 0, 1) := by decide +kernel
theorem dX8_begin_74 : decode cX8_begin 74 = .ok (.getfield 38, 3) := by decide +kernel
theorem dX8_begin_77 : decode cX8_begin 77 = .ok (.iload_n 2, 1) := by decide +kernel
theorem dX8_begin_78 : decode cX8_begin 78 = .ok (.iconst 0, 1) := by decide +kernel
theorem dX8_begin_79 : decode cX8_begin 79 = .ok (.iastore, 1) := by decide +kernel
theorem dX8_begin_80 : decode cX8_begin 80 = .ok (.iinc 2 1, 3) := by decide +kernel
theorem dX8_begin_83 : decode cX8_begin 83 = .ok (.goto (-23), 3) := by decide +kernel
theorem dX8_begin_86 : decode cX8_begin 86 = .ok (.iconst 0, 1) := by decide +kernel
theorem dX8_begin_87 : decode cX8_begin 87 = .ok (.istore_n 2, 1) := by decide +kernel
theorem dX8_begin_88 : decode cX8_begin 88 = .ok (.iload_n 2, 1) := by decide +kernel
theorem dX8_begin_89 : decode cX8_begin 89 = .ok (.iconst 5, 1) := by decide +kernel
theorem dX8_begin_90 : decode cX8_begin 90 = .ok (.if_icmp .ge 79, 3) := by decide +kernel
theorem dX8_begin_93 : decode cX8_begin 93 = .ok (.aload_n 0, 1) := by decide +kernel
theorem dX8_begin_94 : decode cX8_begin 94 = .ok (.getfield 19, 3) := by decide +kernel
theorem dX8_begin_97 : decode cX8_begin 97 = .ok (.iload_n 2, 1) := by decide +kernel
theorem dX8_begin_98 : decode cX8_begin 98 = .ok (.iconst 0, 1) := by decide +kernel
theorem dX8_begin_99 : decode cX8_begin 99 = .ok (.iastore, 1) := by decide +kernel
theorem dX8_begin_100 : decode cX8_begin 100 = .ok (.aload_n 0, 1) := by decide +kernel
theorem dX8_begin_101 : decode cX8_begin 101 = .ok (.getfield 22, 3) := by decide +kernel
theorem dX8_begin_104 : decode cX8_begin 104 = .ok (.iload_n 2, 1) := by decide +kernel
theorem dX8_begin_105 : decode cX8_begin 105 = .ok (.iconst 0, 1) := by decide +kernel
theorem dX8_begin_106 : decode cX8_begin 106 = .ok (.iastore, 1) := by decide +kernel
theorem dX8_begin_107 : decode cX8_begin 107 = .ok (.aload_n 0, 1) := by decide +kernel
theorem dX8_begin_108 : decode cX8_begin 108 = .ok (.getfield 25, 3) := by decide +kernel
theorem dX8_begin_111 : decode cX8_begin 111 = .ok (.iload_n 2, 1) := by decide +kernel
theorem dX8_begin_112 : decode cX8_begin 112 = .ok (.iconst 0, 1) := by decide +kernel
theorem dX8_begin_113 : decode cX8_begin 113 = .ok (.bastore, 1) := by decide +kernel
theorem dX8_begin_114 : decode cX8_begin 114 = .ok (.aload_n 0, 1) := by decide +kernel
theorem dX8_begin_115 : decode cX8_begin 115 = .ok (.getfield 29, 3) := by decide +kernel
theorem dX8_begin_118 : decode cX8_begin 118 = .ok (.iload_n 2, 1) := by decide +kernel
theorem dX8_begin_119 : decode cX8_begin 119 = .ok (.iconst 0, 1) := by decide +kernel
theorem dX8_begin_120 : decode cX8_begin 120 = .ok (.iastore, 1) := by decide +kernel
theorem dX8_begin_121 : decode cX8_begin 121 = .ok (.aload_n 0, 1) := by decide +kernel
theorem dX8_begin_122 : decode cX8_begin 122 = .ok (.getfield 41, 3) := by decide +kernel
theorem dX8_begin_125 : decode cX8_begin 125 = .ok (.iload_n 2, 1) := by decide +kernel
theorem dX8_begin_126 : decode cX8_begin 126 = .ok (.iconst 0, 1) := by decide +kernel
theorem dX8_begin_127 : decode cX8_begin 127 = .ok (.iastore, 1) := by decide +kernel
theorem dX8_begin_128 : decode cX8_begin 128 = .ok (.aload_n 0, 1) := by decide +kernel
theorem dX8_begin_129 : decode cX8_begin 129 = .ok (.getfield 44, 3) := by decide +kernel
theorem dX8_begin_132 : decode cX8_begin 132 = .ok (.iload_n 2, 1) := by decide +kernel
theorem dX8_begin_133 : decode cX8_begin 133 = .ok (.iconst 0, 1) := by decide +kernel
theorem dX8_begin_134 : decode cX8_begin 134 = .ok (.iastore, 1) := by decide +kernel
theorem dX8_begin_135 : decode cX8_begin 135 = .ok (.aload_n 0, 1) := by decide +kernel
theorem dX8_begin_136 : decode cX8_begin 136 = .ok (.getfield 47, 3) := by decide +kernel
theorem dX8_begin_139 : decode cX8_begin 139 = .ok (.iload_n 2, 1) := by decide +kernel
theorem dX8_begin_140 : decode cX8_begin 140 = .ok (.iconst 0, 1) := by decide +kernel
theorem dX8_begin_141 : decode cX8_begin 141 = .ok (.iastore, 1) := by decide +kernel
theorem dX8_begin_142 : decode cX8_begin 142 = .ok (.aload_n 0, 1) := by decide +kernel
theorem dX8_begin_143 : decode cX8_begin 143 = .ok (.getfield 50, 3) := by decide +kernel
theorem dX8_begin_146 : decode cX8_begin 146 = .ok (.iload_n 2, 1) := by decide +kernel
theorem dX8_begin_147 : decode cX8_begin 147 = .ok (.iconst 0, 1) := by decide +kernel
theorem dX8_begin_148 : decode cX8_begin 148 = .ok (.bastore, 1) := by decide +kernel
theorem dX8_begin_149 : decode cX8_begin 149 = .ok (.aload_n 0, 1) := by decide +kernel
theorem dX8_begin_150 : decode cX8_begin 150 = .ok (.getfield 53, 3) := by decide +kernel
theorem dX8_begin_153 : decode cX8_begin 153 = .ok (.iload_n 2, 1) := by decide +kernel
theorem dX8_begin_154 : decode cX8_begin 154 = .ok (.iconst 0, 1) := by decide +kernel
theorem dX8_begin_155 : decode cX8_begin 155 = .ok (.iastore, 1) := by decide +kernel
theorem dX8_begin_156 : decode cX8_begin 156 = .ok (.aload_n 0, 1) := by decide +kernel
theorem dX8_begin_157 : decode cX8_begin 157 = .ok (.getfield 56, 3) := by decide +kernel
theorem dX8_begin_160 : decode cX8_begin 160 = .ok (.iload_n 2, 1) := by decide +kernel
theorem dX8_begin_161 : decode cX8_begin 161 = .ok (.iconst 0, 1) := by decide +kernel
theorem dX8_begin_162 : decode cX8_begin 162 = .ok (.iastore, 1) := by decide +kernel
theorem dX8_begin_163 : decode cX8_begin 163 = .ok (.iinc 2 1, 3) := by decide +kernel
theorem dX8_begin_166 : decode cX8_begin 166 = .ok (.goto (-78), 3) := by decide +kernel
theorem dX8_begin_169 : decode cX8_begin 169 = .ok (.return_, 1) := by decide +kernel
theorem dX8_reset_0 : decode cX8_reset 0 = .ok (.iload_n 1, 1) := by decide +kernel
theorem dX8_reset_1 : decode cX8_reset 1 = .ok (.iconst 2, 1) := by decide +kernel
theorem dX8_reset_2 : decode cX8_reset 2 = .ok (.iconst 5, 1) := by decide +kernel
theorem dX8_reset_3 : decode cX8_reset 3 = .ok (.invokestatic 83, 3) := by decide +kernel
theorem dX8_reset_6 : decode cX8_reset 6 = .ok (.ifCond .ne 7, 3) := by decide +kernel
theorem dX8_reset_9 : decode cX8_reset 9 = .ok (.sipush (-10002), 3) := by decide +kernel
theorem dX8_reset_12 : decode cX8_reset 12 = .ok (.ireturn, 1) := by decide +kernel
theorem dX8_reset_13 : decode cX8_reset 13 = .ok (.aload_n 0, 1) := by decide +kernel
theorem dX8_reset_14 : decode cX8_reset 14 = .ok (.getfield 73, 3) := by decide +kernel
theorem dX8_reset_17 : decode cX8_reset 17 = .ok (.istore_n 2, 1) := by decide +kernel
theorem dX8_reset_18 : decode cX8_reset 18 = .ok (.aload_n 0, 1) := by decide +kernel
theorem dX8_reset_19 : decode cX8_reset 19 = .ok (.iload_n 1, 1) := by decide +kernel
theorem dX8_reset_20 : decode cX8_reset 20 = .ok (.invokevirtual 69, 3) := by decide +kernel
theorem dX8_reset_23 : decode cX8_reset 23 = .ok (.iload_n 2, 1) := by decide +kernel
theorem dX8_reset_24 : decode cX8_reset 24 = .ok (.ireturn, 1) := by decide +kernel
theorem dX8_noUser_0 : decode cX8_noUser 0 = .ok (.iload_n 1, 1) := by decide +kernel
theorem dX8_noUser_1 : decode cX8_noUser 1 = .ok (.iconst 0, 1) := by decide +kernel
theorem dX8_noUser_2 : decode cX8_noUser 2 = .ok (.aload_n 0, 1) := by decide +kernel
theorem dX8_noUser_3 : decode cX8_noUser 3 = .ok (.getfield 73, 3) := by decide +kernel
theorem dX8_noUser_6 : decode cX8_noUser 6 = .ok (.iconst 1, 1) := by decide +kernel
theorem dX8_noUser_7 : decode cX8_noUser 7 = .ok (.isub, 1) := by decide +kernel
theorem dX8_noUser_8 : decode cX8_noUser 8 = .ok (.invokestatic 83, 3) := by decide +kernel
theorem dX8_noUser_11 : decode cX8_noUser 11 = .ok (.ifCond .ne 7, 3) := by decide +kernel
theorem dX8_noUser_14 : decode cX8_noUser 14 = .ok (.iconst 1, 1) := by decide +kernel
theorem dX8_noUser_15 : decode cX8_noUser 15 = .ok (.goto 4, 3) := by decide +kernel
theorem dX8_noUser_18 : decode cX8_noUser 18 = .ok (.iconst 0, 1) := by decide +kernel
theorem dX8_noUser_19 : decode cX8_noUser 19 = .ok (.ireturn, 1) := by decide +kernel
theorem dX8_noView_0 : decode cX8_noView 0 = .ok (.iload_n 1, 1) := by decide +kernel
theorem dX8_noView_1 : decode cX8_noView 1 = .ok (.iconst 0, 1) := by decide +kernel
theorem dX8_noView_2 : decode cX8_noView 2 = .ok (.aload_n 0, 1) := by decide +kernel
theorem dX8_noView_3 : decode cX8_noView 3 = .ok (.getfield 77, 3) := by decide +kernel
theorem dX8_noView_6 : decode cX8_noView 6 = .ok (.iconst 1, 1) := by decide +kernel
theorem dX8_noView_7 : decode cX8_noView 7 = .ok (.isub, 1) := by decide +kernel
theorem dX8_noView_8 : decode cX8_noView 8 = .ok (.invokestatic 83, 3) := by decide +kernel
theorem dX8_noView_11 : decode cX8_noView 11 = .ok (.ifCond .ne 7, 3) := by decide +kernel
theorem dX8_noView_14 : decode cX8_noView 14 = .ok (.iconst 1, 1) := by decide +kernel
theorem dX8_noView_15 : decode cX8_noView 15 = .ok (.goto 4, 3) := by decide +kernel
theorem dX8_noView_18 : decode cX8_noView 18 = .ok (.iconst 0, 1) := by decide +kernel
theorem dX8_noView_19 : decode cX8_noView 19 = .ok (.ireturn, 1) := by decide +kernel
theorem dX8_atMost_0 : decode cX8_atMost 0 = .ok (.iconst 1, 1) := by decide +kernel
theorem dX8_atMost_1 : decode cX8_atMost 1 = .ok (.istore 5, 2) := by decide +kernel
theorem dX8_atMost_3 : decode cX8_atMost 3 = .ok (.iconst 0, 1) := by decide +kernel
theorem dX8_atMost_4 : decode cX8_atMost 4 = .ok (.istore 6, 2) := by decide +kernel
theorem dX8_atMost_6 : decode cX8_atMost 6 = .ok (.iload 6, 2) := by decide +kernel
theorem dX8_atMost_8 : decode cX8_atMost 8 = .ok (.aload_n 0, 1) := by decide +kernel
theorem dX8_atMost_9 : decode cX8_atMost 9 = .ok (.getfield 73, 3) := by decide +kernel
theorem dX8_atMost_12 : decode cX8_atMost 12 = .ok (.if_icmp .ge 37, 3) := by decide +kernel
theorem dX8_atMost_15 : decode cX8_atMost 15 = .ok (.iload 5, 2) := by decide +kernel
theorem dX8_atMost_17 : decode cX8_atMost 17 = .ok (.ifCond .eq 23, 3) := by decide +kernel
theorem dX8_atMost_20 : decode cX8_atMost 20 = .ok (.aload_n 1, 1) := by decide +kernel
theorem dX8_atMost_21 : decode cX8_atMost 21 = .ok (.iload_n 2, 1) := by decide +kernel
theorem dX8_atMost_22 : decode cX8_atMost 22 = .ok (.iload 6, 2) := by decide +kernel
theorem dX8_atMost_24 : decode cX8_atMost 24 = .ok (.iadd, 1) := by decide +kernel
theorem dX8_atMost_25 : decode cX8_atMost 25 = .ok (.iaload, 1) := by decide +kernel
theorem dX8_atMost_26 : decode cX8_atMost 26 = .ok (.aload_n 3, 1) := by decide +kernel
theorem dX8_atMost_27 : decode cX8_atMost 27 = .ok (.iload 4, 2) := by decide +kernel
theorem dX8_atMost_29 : decode cX8_atMost 29 = .ok (.iload 6, 2) := by decide +kernel
theorem dX8_atMost_31 : decode cX8_atMost 31 = .ok (.iadd, 1) := by decide +kernel
theorem dX8_atMost_32 : decode cX8_atMost 32 = .ok (.iaload, 1) := by decide +kernel
theorem dX8_atMost_33 : decode cX8_atMost 33 = .ok (.if_icmp .gt 7, 3) := by decide +kernel
theorem dX8_atMost_36 : decode cX8_atMost 36 = .ok (.iconst 1, 1) := by decide +kernel
theorem dX8_atMost_37 : decode cX8_atMost 37 = .ok (.goto 4, 3) := by decide +kernel
theorem dX8_atMost_40 : decode cX8_atMost 40 = .ok (.iconst 0, 1) := by decide +kernel
theorem dX8_atMost_41 : decode cX8_atMost 41 = .ok (.istore 5, 2) := by decide +kernel
theorem dX8_atMost_43 : decode cX8_atMost 43 = .ok (.iinc 6 1, 3) := by decide +kernel
theorem dX8_atMost_46 : decode cX8_atMost 46 = .ok (.goto (-40), 3) := by decide +kernel
theorem dX8_atMost_49 : decode cX8_atMost 49 = .ok (.iload 5, 2) := by decide +kernel
theorem dX8_atMost_51 : decode cX8_atMost 51 = .ok (.ireturn, 1) := by decide +kernel
theorem dX8_areApart_0 : decode cX8_areApart 0 = .ok (.aload_n 0, 1) := by decide +kernel
theorem dX8_areApart_1 : decode cX8_areApart 1 = .ok (.aload_n 1, 1) := by decide +kernel
theorem dX8_areApart_2 : decode cX8_areApart 2 = .ok (.iload_n 2, 1) := by decide +kernel
theorem dX8_areApart_3 : decode cX8_areApart 3 = .ok (.aload_n 3, 1) := by decide +kernel
theorem dX8_areApart_4 : decode cX8_areApart 4 = .ok (.iload 4, 2) := by decide +kernel
theorem dX8_areApart_6 : decode cX8_areApart 6 = .ok (.invokevirtual 87, 3) := by decide +kernel
theorem dX8_areApart_9 : decode cX8_areApart 9 = .ok (.ifCond .ne 19, 3) := by decide +kernel
theorem dX8_areApart_12 : decode cX8_areApart 12 = .ok (.aload_n 0, 1) := by decide +kernel
theorem dX8_areApart_13 : decode cX8_areApart 13 = .ok (.aload_n 3, 1) := by decide +kernel
theorem dX8_areApart_14 : decode cX8_areApart 14 = .ok (.iload 4, 2) := by decide +kernel
theorem dX8_areApart_16 : decode cX8_areApart 16 = .ok (.aload_n 1, 1) := by decide +kernel
theorem dX8_areApart_17 : decode cX8_areApart 17 = .ok (.iload_n 2, 1) := by decide +kernel
theorem dX8_areApart_18 : decode cX8_areApart 18 = .ok (.invokevirtual 87, 3) := by decide +kernel
theorem dX8_areApart_21 : decode cX8_areApart 21 = .ok (.ifCond .ne 7, 3) := by decide +kernel
theorem dX8_areApart_24 : decode cX8_areApart 24 = .ok (.iconst 1, 1) := by decide +kernel
theorem dX8_areApart_25 : decode cX8_areApart 25 = .ok (.goto 4, 3) := by decide +kernel
theorem dX8_areApart_28 : decode cX8_areApart 28 = .ok (.iconst 0, 1) := by decide +kernel
theorem dX8_areApart_29 : decode cX8_areApart 29 = .ok (.ireturn, 1) := by decide +kernel
theorem dX8_copy_0 : decode cX8_copy 0 = .ok (.iconst 0, 1) := by decide +kernel
theorem dX8_copy_1 : decode cX8_copy 1 = .ok (.istore 5, 2) := by decide +kernel
theorem dX8_copy_3 : decode cX8_copy 3 = .ok (.iload 5, 2) := by decide +kernel
theorem dX8_copy_5 : decode cX8_copy 5 = .ok (.iconst 5, 1) := by decide +kernel
theorem dX8_copy_6 : decode cX8_copy 6 = .ok (.if_icmp .ge 22, 3) := by decide +kernel
theorem dX8_copy_9 : decode cX8_copy 9 = .ok (.aload_n 3, 1) := by decide +kernel
theorem dX8_copy_10 : decode cX8_copy 10 = .ok (.iload 4, 2) := by decide +kernel
theorem dX8_copy_12 : decode cX8_copy 12 = .ok (.iload 5, 2) := by decide +kernel
theorem dX8_copy_14 : decode cX8_copy 14 = .ok (.iadd, 1) := by decide +kernel
theorem dX8_copy_15 : decode cX8_copy 15 = .ok (.aload_n 1, 1) := by decide +kernel
theorem dX8_copy_16 : decode cX8_copy 16 = .ok (.iload_n 2, 1) := by decide +kernel
theorem dX8_copy_17 : decode cX8_copy 17 = .ok (.iload 5, 2) := by decide +kernel
theorem dX8_copy_19 : decode cX8_copy 19 = .ok (.iadd, 1) := by decide +kernel
theorem dX8_copy_20 : decode cX8_copy 20 = .ok (.iaload, 1) := by decide +kernel
theorem dX8_copy_21 : decode cX8_copy 21 = .ok (.iastore, 1) := by decide +kernel
theorem dX8_copy_22 : decode cX8_copy 22 = .ok (.iinc 5 1, 3) := by decide +kernel
theorem dX8_copy_25 : decode cX8_copy 25 = .ok (.goto (-22), 3) := by decide +kernel
theorem dX8_copy_28 : decode cX8_copy 28 = .ok (.return_, 1) := by decide +kernel
theorem dX8_entryAt_0 : decode cX8_entryAt 0 = .ok (.bipush 30, 2) := by decide +kernel
theorem dX8_entryAt_2 : decode cX8_entryAt 2 = .ok (.iload_n 0, 1) := by decide +kernel
theorem dX8_entryAt_3 : decode cX8_entryAt 3 = .ok (.imul, 1) := by decide +kernel
theorem dX8_entryAt_4 : decode cX8_entryAt 4 = .ok (.iconst 5, 1) := by decide +kernel
theorem dX8_entryAt_5 : decode cX8_entryAt 5 = .ok (.iload_n 1, 1) := by decide +kernel
theorem dX8_entryAt_6 : decode cX8_entryAt 6 = .ok (.imul, 1) := by decide +kernel
theorem dX8_entryAt_7 : decode cX8_entryAt 7 = .ok (.iadd, 1) := by decide +kernel
theorem dX8_entryAt_8 : decode cX8_entryAt 8 = .ok (.ireturn, 1) := by decide +kernel
theorem dX8_greatest_0 : decode cX8_greatest 0 = .ok (.aload_n 0, 1) := by decide +kernel
theorem dX8_greatest_1 : decode cX8_greatest 1 = .ok (.sipush (-10005), 3) := by decide +kernel
theorem dX8_greatest_4 : decode cX8_greatest 4 = .ok (.putfield 91, 3) := by decide +kernel
theorem dX8_greatest_7 : decode cX8_greatest 7 = .ok (.iconst 0, 1) := by decide +kernel
theorem dX8_greatest_8 : decode cX8_greatest 8 = .ok (.istore_n 2, 1) := by decide +kernel
theorem dX8_greatest_9 : decode cX8_greatest 9 = .ok (.iload_n 2, 1) := by decide +kernel
theorem dX8_greatest_10 : decode cX8_greatest 10 = .ok (.aload_n 0, 1) := by decide +kernel
theorem dX8_greatest_11 : decode cX8_greatest 11 = .ok (.getfield 73, 3) := by decide +kernel
theorem dX8_greatest_14 : decode cX8_greatest 14 = .ok (.if_icmp .ge 69, 3) := by decide +kernel
theorem dX8_greatest_17 : decode cX8_greatest 17 = .ok (.iload_n 2, 1) := by decide +kernel
theorem dX8_greatest_18 : decode cX8_greatest 18 = .ok (.iconst 1, 1) := by decide +kernel
theorem dX8_greatest_19 : decode cX8_greatest 19 = .ok (.iadd, 1) := by decide +kernel
theorem dX8_greatest_20 : decode cX8_greatest 20 = .ok (.istore_n 3, 1) := by decide +kernel
theorem dX8_greatest_21 : decode cX8_greatest 21 = .ok (.iload_n 3, 1) := by decide +kernel
theorem dX8_greatest_22 : decode cX8_greatest 22 = .ok (.aload_n 0, 1) := by decide +kernel
theorem dX8_greatest_23 : decode cX8_greatest 23 = .ok (.getfield 73, 3) := by decide +kernel
theorem dX8_greatest_26 : decode cX8_greatest 26 = .ok (.if_icmp .ge 51, 3) := by decide +kernel
theorem dX8_greatest_29 : decode cX8_greatest 29 = .ok (.aload_n 0, 1) := by decide +kernel
theorem dX8_greatest_30 : decode cX8_greatest 30 = .ok (.getfield 91, 3) := by decide +kernel
theorem dX8_greatest_33 : decode cX8_greatest 33 = .ok (.ifCond .ge 44, 3) := by decide +kernel
theorem dX8_greatest_36 : decode cX8_greatest 36 = .ok (.aload_n 0, 1) := by decide +kernel
theorem dX8_greatest_37 : decode cX8_greatest 37 = .ok (.aload_n 0, 1) := by decide +kernel
theorem dX8_greatest_38 : decode cX8_greatest 38 = .ok (.getfield 7, 3) := by decide +kernel
theorem dX8_greatest_41 : decode cX8_greatest 41 = .ok (.iload_n 1, 1) := by decide +kernel
theorem dX8_greatest_42 : decode cX8_greatest 42 = .ok (.iload_n 2, 1) := by decide +kernel
theorem dX8_greatest_43 : decode cX8_greatest 43 = .ok (.invokestatic 94, 3) := by decide +kernel
theorem dX8_greatest_46 : decode cX8_greatest 46 = .ok (.aload_n 0, 1) := by decide +kernel
theorem dX8_greatest_47 : decode cX8_greatest 47 = .ok (.getfield 7, 3) := by decide +kernel
theorem dX8_greatest_50 : decode cX8_greatest 50 = .ok (.iload_n 1, 1) := by decide +kernel
theorem dX8_greatest_51 : decode cX8_greatest 51 = .ok (.iload_n 3, 1) := by decide +kernel
theorem dX8_greatest_52 : decode cX8_greatest 52 = .ok (.invokestatic 94, 3) := by decide +kernel
theorem dX8_greatest_55 : decode cX8_greatest 55 = .ok (.invokevirtual 98, 3) := by decide +kernel
theorem dX8_greatest_58 : decode cX8_greatest 58 = .ok (.ifCond .eq 13, 3) := by decide +kernel
theorem dX8_greatest_61 : decode cX8_greatest 61 = .ok (.aload_n 0, 1) := by decide +kernel
theorem dX8_greatest_62 : decode cX8_greatest 62 = .ok (.iload_n 2, 1) := by decide +kernel
theorem dX8_greatest_63 : decode cX8_greatest 63 = .ok (.putfield 91, 3) := by decide +kernel
theorem dX8_greatest_66 : decode cX8_greatest 66 = .ok (.aload_n 0, 1) := by decide +kernel
theorem dX8_greatest_67 : decode cX8_greatest 67 = .ok (.iload_n 3, 1) := by decide +kernel
theorem dX8_greatest_68 : decode cX8_greatest 68 = .ok (.putfield 101, 3) := by decide +kernel
theorem dX8_greatest_71 : decode cX8_greatest 71 = .ok (.iinc 3 1, 3) := by decide +kernel
theorem dX8_greatest_74 : decode cX8_greatest 74 = .ok (.goto (-53), 3) := by decide +kernel
theorem dX8_greatest_77 : decode cX8_greatest 77 = .ok (.iinc 2 1, 3) := by decide +kernel
theorem dX8_greatest_80 : decode cX8_greatest 80 = .ok (.goto (-71), 3) := by decide +kernel
theorem dX8_greatest_83 : decode cX8_greatest 83 = .ok (.iconst 0, 1) := by decide +kernel
theorem dX8_greatest_84 : decode cX8_greatest 84 = .ok (.istore_n 2, 1) := by decide +kernel
theorem dX8_greatest_85 : decode cX8_greatest 85 = .ok (.iconst 1, 1) := by decide +kernel
theorem dX8_greatest_86 : decode cX8_greatest 86 = .ok (.istore_n 3, 1) := by decide +kernel
theorem dX8_greatest_87 : decode cX8_greatest 87 = .ok (.iload_n 3, 1) := by decide +kernel
theorem dX8_greatest_88 : decode cX8_greatest 88 = .ok (.aload_n 0, 1) := by decide +kernel
theorem dX8_greatest_89 : decode cX8_greatest 89 = .ok (.getfield 73, 3) := by decide +kernel
theorem dX8_greatest_92 : decode cX8_greatest 92 = .ok (.if_icmp .ge 40, 3) := by decide +kernel
theorem dX8_greatest_95 : decode cX8_greatest 95 = .ok (.aload_n 0, 1) := by decide +kernel
theorem dX8_greatest_96 : decode cX8_greatest 96 = .ok (.aload_n 0, 1) := by decide +kernel
theorem dX8_greatest_97 : decode cX8_greatest 97 = .ok (.getfield 7, 3) := by decide +kernel
theorem dX8_greatest_100 : decode cX8_greatest 100 = .ok (.iload_n 1, 1) := by decide +kernel
theorem dX8_greatest_101 : decode cX8_greatest 101 = .ok (.iload_n 2, 1) := by decide +kernel
theorem dX8_greatest_102 : decode cX8_greatest 102 = .ok (.invokestatic 94, 3) := by decide +kernel
theorem dX8_greatest_105 : decode cX8_greatest 105 = .ok (.aload_n 0, 1) := by decide +kernel
theorem dX8_greatest_106 : decode cX8_greatest 106 = .ok (.getfield 7, 3) := by decide +kernel
theorem dX8_greatest_109 : decode cX8_greatest 109 = .ok (.iload_n 1, 1) := by decide +kernel
theorem dX8_greatest_110 : decode cX8_greatest 110 = .ok (.iload_n 3, 1) := by decide +kernel
theorem dX8_greatest_111 : decode cX8_greatest 111 = .ok (.invokestatic 94, 3) := by decide +kernel
theorem dX8_greatest_114 : decode cX8_greatest 114 = .ok (.invokevirtual 87, 3) := by decide +kernel
theorem dX8_greatest_117 : decode cX8_greatest 117 = .ok (.ifCond .eq 7, 3) := by decide +kernel
theorem dX8_greatest_120 : decode cX8_greatest 120 = .ok (.iload_n 3, 1) := by decide +kernel
theorem dX8_greatest_121 : decode cX8_greatest 121 = .ok (.goto 4, 3) := by decide +kernel
theorem dX8_greatest_124 : decode cX8_greatest 124 = .ok (.iload_n 2, 1) := by decide +kernel
theorem dX8_greatest_125 : decode cX8_greatest 125 = .ok (.istore_n 2, 1) := by decide +kernel
theorem dX8_greatest_126 : decode cX8_greatest 126 = .ok (.iinc 3 1, 3) := by decide +kernel
theorem dX8_greatest_129 : decode cX8_greatest 129 = .ok (.goto (-42), 3) := by decide +kernel
theorem dX8_greatest_132 : decode cX8_greatest 132 = .ok (.aload_n 0, 1) := by decide +kernel
theorem dX8_greatest_133 : decode cX8_greatest 133 = .ok (.getfield 91, 3) := by decide +kernel
theorem dX8_greatest_136 : decode cX8_greatest 136 = .ok (.ifCond .ge 7, 3) := by decide +kernel
theorem dX8_greatest_139 : decode cX8_greatest 139 = .ok (.iload_n 2, 1) := by decide +kernel
theorem dX8_greatest_140 : decode cX8_greatest 140 = .ok (.goto 6, 3) := by decide +kernel
theorem dX8_greatest_143 : decode cX8_greatest 143 = .ok (.sipush (-10005), 3) := by decide +kernel
theorem dX8_greatest_146 : decode cX8_greatest 146 = .ok (.ireturn, 1) := by decide +kernel
theorem dX8_alarmFor_0 : decode cX8_alarmFor 0 = .ok (.aload_n 0, 1) := by decide +kernel
theorem dX8_alarmFor_1 : decode cX8_alarmFor 1 = .ok (.getfield 19, 3) := by decide +kernel
theorem dX8_alarmFor_4 : decode cX8_alarmFor 4 = .ok (.iload_n 1, 1) := by decide +kernel
theorem dX8_alarmFor_5 : decode cX8_alarmFor 5 = .ok (.iaload, 1) := by decide +kernel
theorem dX8_alarmFor_6 : decode cX8_alarmFor 6 = .ok (.istore_n 2, 1) := by decide +kernel
theorem dX8_alarmFor_7 : decode cX8_alarmFor 7 = .ok (.aload_n 0, 1) := by decide +kernel
theorem dX8_alarmFor_8 : decode cX8_alarmFor 8 = .ok (.aload_n 0, 1) := by decide +kernel
theorem dX8_alarmFor_9 : decode cX8_alarmFor 9 = .ok (.getfield 7, 3) := by decide +kernel
theorem dX8_alarmFor_12 : decode cX8_alarmFor 12 = .ok (.iload_n 2, 1) := by decide +kernel
theorem dX8_alarmFor_13 : decode cX8_alarmFor 13 = .ok (.iload_n 1, 1) := by decide +kernel
theorem dX8_alarmFor_14 : decode cX8_alarmFor 14 = .ok (.invokestatic 94, 3) := by decide +kernel
theorem dX8_alarmFor_17 : decode cX8_alarmFor 17 = .ok (.aload_n 0, 1) := by decide +kernel
theorem dX8_alarmFor_18 : decode cX8_alarmFor 18 = .ok (.getfield 35, 3) := by decide +kernel
theorem dX8_alarmFor_21 : decode cX8_alarmFor 21 = .ok (.iconst 5, 1) := by decide +kernel
theorem dX8_alarmFor_22 : decode cX8_alarmFor 22 = .ok (.iload_n 1, 1) := by decide +kernel
theorem dX8_alarmFor_23 : decode cX8_alarmFor 23 = .ok (.imul, 1) := by decide +kernel
theorem dX8_alarmFor_24 : decode cX8_alarmFor 24 = .ok (.invokevirtual 87, 3) := by decide +kernel
theorem dX8_alarmFor_27 : decode cX8_alarmFor 27 = .ok (.ifCond .eq 30, 3) := by decide +kernel
theorem dX8_alarmFor_30 : decode cX8_alarmFor 30 = .ok (.aload_n 0, 1) := by decide +kernel
theorem dX8_alarmFor_31 : decode cX8_alarmFor 31 = .ok (.aload_n 0, 1) := by decide +kernel
theorem dX8_alarmFor_32 : decode cX8_alarmFor 32 = .ok (.getfield 35, 3) := by decide +kernel
theorem dX8_alarmFor_35 : decode cX8_alarmFor 35 = .ok (.iconst 5, 1) := by decide +kernel
theorem dX8_alarmFor_36 : decode cX8_alarmFor 36 = .ok (.iload_n 1, 1) := by decide +kernel
theorem dX8_alarmFor_37 : decode cX8_alarmFor 37 = .ok (.imul, 1) := by decide +kernel
theorem dX8_alarmFor_38 : decode cX8_alarmFor 38 = .ok (.aload_n 0, 1) := by decide +kernel
theorem dX8_alarmFor_39 : decode cX8_alarmFor 39 = .ok (.getfield 7, 3) := by decide +kernel
theorem dX8_alarmFor_42 : decode cX8_alarmFor 42 = .ok (.iload_n 2, 1) := by decide +kernel
theorem dX8_alarmFor_43 : decode cX8_alarmFor 43 = .ok (.iload_n 1, 1) := by decide +kernel
theorem dX8_alarmFor_44 : decode cX8_alarmFor 44 = .ok (.invokestatic 94, 3) := by decide +kernel
theorem dX8_alarmFor_47 : decode cX8_alarmFor 47 = .ok (.invokevirtual 87, 3) := by decide +kernel
theorem dX8_alarmFor_50 : decode cX8_alarmFor 50 = .ok (.ifCond .eq 7, 3) := by decide +kernel
theorem dX8_alarmFor_53 : decode cX8_alarmFor 53 = .ok (.iconst 1, 1) := by decide +kernel
theorem dX8_alarmFor_54 : decode cX8_alarmFor 54 = .ok (.goto 4, 3) := by decide +kernel
theorem dX8_alarmFor_57 : decode cX8_alarmFor 57 = .ok (.iconst 0, 1) := by decide +kernel
theorem dX8_alarmFor_58 : decode cX8_alarmFor 58 = .ok (.istore_n 3, 1) := by decide +kernel
theorem dX8_alarmFor_59 : decode cX8_alarmFor 59 = .ok (.iload_n 3, 1) := by decide +kernel
theorem dX8_alarmFor_60 : decode cX8_alarmFor 60 = .ok (.ifCond .ne 5, 3) := by decide +kernel
theorem dX8_alarmFor_63 : decode cX8_alarmFor 63 = .ok (.iconst 1, 1) := by decide +kernel
theorem dX8_alarmFor_64 : decode cX8_alarmFor 64 = .ok (.ireturn, 1) := by decide +kernel
theorem dX8_alarmFor_65 : decode cX8_alarmFor 65 = .ok (.aload_n 0, 1) := by decide +kernel
theorem dX8_alarmFor_66 : decode cX8_alarmFor 66 = .ok (.iload_n 2, 1) := by decide +kernel
theorem dX8_alarmFor_67 : decode cX8_alarmFor 67 = .ok (.invokevirtual 104, 3) := by decide +kernel
theorem dX8_alarmFor_70 : decode cX8_alarmFor 70 = .ok (.istore 4, 2) := by decide +kernel
theorem dX8_alarmFor_72 : decode cX8_alarmFor 72 = .ok (.iload 4, 2) := by decide +kernel
theorem dX8_alarmFor_74 : decode cX8_alarmFor 74 = .ok (.ifCond .ge 5, 3) := by decide +kernel
theorem dX8_alarmFor_77 : decode cX8_alarmFor 77 = .ok (.iconst 2, 1) := by decide +kernel
theorem dX8_alarmFor_78 : decode cX8_alarmFor 78 = .ok (.ireturn, 1) := by decide +kernel
theorem dX8_alarmFor_79 : decode cX8_alarmFor 79 = .ok (.aload_n 0, 1) := by decide +kernel
theorem dX8_alarmFor_80 : decode cX8_alarmFor 80 = .ok (.aload_n 0, 1) := by decide +kernel
theorem dX8_alarmFor_81 : decode cX8_alarmFor 81 = .ok (.getfield 38, 3) := by decide +kernel
theorem dX8_alarmFor_84 : decode cX8_alarmFor 84 = .ok (.iconst 5, 1) := by decide +kernel
theorem dX8_alarmFor_85 : decode cX8_alarmFor 85 = .ok (.iload_n 1, 1) := by decide +kernel
theorem dX8_alarmFor_86 : decode cX8_alarmFor 86 = .ok (.imul, 1) := by decide +kernel
theorem dX8_alarmFor_87 : decode cX8_alarmFor 87 = .ok (.aload_n 0, 1) := by decide +kernel
theorem dX8_alarmFor_88 : decode cX8_alarmFor 88 = .ok (.getfield 7, 3) := by decide +kernel
theorem dX8_alarmFor_91 : decode cX8_alarmFor 91 = .ok (.iload_n 2, 1) := by decide +kernel
theorem dX8_alarmFor_92 : decode cX8_alarmFor 92 = .ok (.iload 4, 2) := by decide +kernel
theorem dX8_alarmFor_94 : decode cX8_alarmFor 94 = .ok (.invokestatic 94, 3) := by decide +kernel
theorem dX8_alarmFor_97 : decode cX8_alarmFor 97 = .ok (.invokevirtual 87, 3) := by decide +kernel
theorem dX8_alarmFor_100 : decode cX8_alarmFor 100 = .ok (.ifCond .eq 7, 3) := by decide +kernel
theorem dX8_alarmFor_103 : decode cX8_alarmFor 103 = .ok (.iconst 0, 1) := by decide +kernel
theorem dX8_alarmFor_104 : decode cX8_alarmFor 104 = .ok (.goto 4, 3) := by decide +kernel
theorem dX8_alarmFor_107 : decode cX8_alarmFor 107 = .ok (.iconst 3, 1) := by decide +kernel
theorem dX8_alarmFor_108 : decode cX8_alarmFor 108 = .ok (.ireturn, 1) := by decide +kernel
theorem dX8_proves_0 : decode cX8_proves 0 = .ok (.aload_n 0, 1) := by decide +kernel
theorem dX8_proves_1 : decode cX8_proves 1 = .ok (.getfield 25, 3) := by decide +kernel
theorem dX8_proves_4 : decode cX8_proves 4 = .ok (.iload_n 1, 1) := by decide +kernel
theorem dX8_proves_5 : decode cX8_proves 5 = .ok (.baload, 1) := by decide +kernel
theorem dX8_proves_6 : decode cX8_proves 6 = .ok (.ifCond .ne 50, 3) := by decide +kernel
theorem dX8_proves_9 : decode cX8_proves 9 = .ok (.aload_n 0, 1) := by decide +kernel
theorem dX8_proves_10 : decode cX8_proves 10 = .ok (.getfield 25, 3) := by decide +kernel
theorem dX8_proves_13 : decode cX8_proves 13 = .ok (.iload_n 1, 1) := by decide +kernel
theorem dX8_proves_14 : decode cX8_proves 14 = .ok (.iconst 1, 1) := by decide +kernel
theorem dX8_proves_15 : decode cX8_proves 15 = .ok (.bastore, 1) := by decide +kernel
theorem dX8_proves_16 : decode cX8_proves 16 = .ok (.aload_n 0, 1) := by decide +kernel
theorem dX8_proves_17 : decode cX8_proves 17 = .ok (.getfield 29, 3) := by decide +kernel
theorem dX8_proves_20 : decode cX8_proves 20 = .ok (.iload_n 1, 1) := by decide +kernel
theorem dX8_proves_21 : decode cX8_proves 21 = .ok (.iload 6, 2) := by decide +kernel
theorem dX8_proves_23 : decode cX8_proves 23 = .ok (.iastore, 1) := by decide +kernel
theorem dX8_proves_24 : decode cX8_proves 24 = .ok (.aload_n 0, 1) := by decide +kernel
theorem dX8_proves_25 : decode cX8_proves 25 = .ok (.aload_n 2, 1) := by decide +kernel
theorem dX8_proves_26 : decode cX8_proves 26 = .ok (.iload_n 3, 1) := by decide +kernel
theorem dX8_proves_27 : decode cX8_proves 27 = .ok (.aload_n 0, 1) := by decide +kernel
theorem dX8_proves_28 : decode cX8_proves 28 = .ok (.getfield 32, 3) := by decide +kernel
theorem dX8_proves_31 : decode cX8_proves 31 = .ok (.bipush 10, 2) := by decide +kernel
theorem dX8_proves_33 : decode cX8_proves 33 = .ok (.iload_n 1, 1) := by decide +kernel
theorem dX8_proves_34 : decode cX8_proves 34 = .ok (.imul, 1) := by decide +kernel
theorem dX8_proves_35 : decode cX8_proves 35 = .ok (.invokevirtual 108, 3) := by decide +kernel
theorem dX8_proves_38 : decode cX8_proves 38 = .ok (.aload_n 0, 1) := by decide +kernel
theorem dX8_proves_39 : decode cX8_proves 39 = .ok (.aload 4, 2) := by decide +kernel
theorem dX8_proves_41 : decode cX8_proves 41 = .ok (.iload 5, 2) := by decide +kernel
theorem dX8_proves_43 : decode cX8_proves 43 = .ok (.aload_n 0, 1) := by decide +kernel
theorem dX8_proves_44 : decode cX8_proves 44 = .ok (.getfield 32, 3) := by decide +kernel
theorem dX8_proves_47 : decode cX8_proves 47 = .ok (.bipush 10, 2) := by decide +kernel
theorem dX8_proves_49 : decode cX8_proves 49 = .ok (.iload_n 1, 1) := by decide +kernel
theorem dX8_proves_50 : decode cX8_proves 50 = .ok (.imul, 1) := by decide +kernel
theorem dX8_proves_51 : decode cX8_proves 51 = .ok (.iconst 5, 1) := by decide +kernel
theorem dX8_proves_52 : decode cX8_proves 52 = .ok (.iadd, 1) := by decide +kernel
theorem dX8_proves_53 : decode cX8_proves 53 = .ok (.invokevirtual 108, 3) := by decide +kernel
theorem dX8_proves_56 : decode cX8_proves 56 = .ok (.return_, 1) := by decide +kernel
theorem dX8_raises_0 : decode cX8_raises 0 = .ok (.aload_n 0, 1) := by decide +kernel
theorem dX8_raises_1 : decode cX8_raises 1 = .ok (.getfield 19, 3) := by decide +kernel
theorem dX8_raises_4 : decode cX8_raises 4 = .ok (.iload_n 1, 1) := by decide +kernel
theorem dX8_raises_5 : decode cX8_raises 5 = .ok (.iaload, 1) := by decide +kernel
theorem dX8_raises_6 : decode cX8_raises 6 = .ok (.istore_n 3, 1) := by decide +kernel
theorem dX8_raises_7 : decode cX8_raises 7 = .ok (.aload_n 0, 1) := by decide +kernel
theorem dX8_raises_8 : decode cX8_raises 8 = .ok (.getfield 22, 3) := by decide +kernel
theorem dX8_raises_11 : decode cX8_raises 11 = .ok (.iload_n 1, 1) := by decide +kernel
theorem dX8_raises_12 : decode cX8_raises 12 = .ok (.iload_n 2, 1) := by decide +kernel
theorem dX8_raises_13 : decode cX8_raises 13 = .ok (.iastore, 1) := by decide +kernel
theorem dX8_raises_14 : decode cX8_raises 14 = .ok (.iload_n 2, 1) := by decide +kernel
theorem dX8_raises_15 : decode cX8_raises 15 = .ok (.iconst 2, 1) := by decide +kernel
theorem dX8_raises_16 : decode cX8_raises 16 = .ok (.if_icmp .ne 33, 3) := by decide +kernel
theorem dX8_raises_19 : decode cX8_raises 19 = .ok (.aload_n 0, 1) := by decide +kernel
theorem dX8_raises_20 : decode cX8_raises 20 = .ok (.iload_n 1, 1) := by decide +kernel
theorem dX8_raises_21 : decode cX8_raises 21 = .ok (.aload_n 0, 1) := by decide +kernel
theorem dX8_raises_22 : decode cX8_raises 22 = .ok (.getfield 7, 3) := by decide +kernel
theorem dX8_raises_25 : decode cX8_raises 25 = .ok (.iload_n 3, 1) := by decide +kernel
theorem dX8_raises_26 : decode cX8_raises 26 = .ok (.aload_n 0, 1) := by decide +kernel
theorem dX8_raises_27 : decode cX8_raises 27 = .ok (.getfield 91, 3) := by decide +kernel
theorem dX8_raises_30 : decode cX8_raises 30 = .ok (.invokestatic 94, 3) := by decide +kernel
theorem dX8_raises_33 : decode cX8_raises 33 = .ok (.aload_n 0, 1) := by decide +kernel
theorem dX8_raises_34 : decode cX8_raises 34 = .ok (.getfield 7, 3) := by decide +kernel
theorem dX8_raises_37 : decode cX8_raises 37 = .ok (.iload_n 3, 1) := by decide +kernel
theorem dX8_raises_38 : decode cX8_raises 38 = .ok (.aload_n 0, 1) := by decide +kernel
theorem dX8_raises_39 : decode cX8_raises 39 = .ok (.getfield 101, 3) := by decide +kernel
theorem dX8_raises_42 : decode cX8_raises 42 = .ok (.invokestatic 94, 3) := by decide +kernel
theorem dX8_raises_45 : decode cX8_raises 45 = .ok (.iconst 0, 1) := by decide +kernel
theorem dX8_raises_46 : decode cX8_raises 46 = .ok (.invokevirtual 112, 3) := by decide +kernel
theorem dX8_raises_49 : decode cX8_raises 49 = .ok (.iload_n 2, 1) := by decide +kernel
theorem dX8_raises_50 : decode cX8_raises 50 = .ok (.iconst 3, 1) := by decide +kernel
theorem dX8_raises_51 : decode cX8_raises 51 = .ok (.if_icmp .ne 57, 3) := by decide +kernel
theorem dX8_raises_54 : decode cX8_raises 54 = .ok (.aload_n 0, 1) := by decide +kernel
theorem dX8_raises_55 : decode cX8_raises 55 = .ok (.iload_n 3, 1) := by decide +kernel
theorem dX8_raises_56 : decode cX8_raises 56 = .ok (.invokevirtual 104, 3) := by decide +kernel
theorem dX8_raises_59 : decode cX8_raises 59 = .ok (.istore 4, 2) := by decide +kernel
theorem dX8_raises_61 : decode cX8_raises 61 = .ok (.aload_n 0, 1) := by decide +kernel
theorem dX8_raises_62 : decode cX8_raises 62 = .ok (.aload_n 0, 1) := by decide +kernel
theorem dX8_raises_63 : decode cX8_raises 63 = .ok (.getfield 38, 3) := by decide +kernel
theorem dX8_raises_66 : decode cX8_raises 66 = .ok (.iconst 5, 1) := by decide +kernel
theorem dX8_raises_67 : decode cX8_raises 67 = .ok (.iload_n 1, 1) := by decide +kernel
theorem dX8_raises_68 : decode cX8_raises 68 = .ok (.imul, 1) := by decide +kernel
theorem dX8_raises_69 : decode cX8_raises 69 = .ok (.aload_n 0, 1) := by decide +kernel
theorem dX8_raises_70 : decode cX8_raises 70 = .ok (.getfield 7, 3) := by decide +kernel
theorem dX8_raises_73 : decode cX8_raises 73 = .ok (.iload_n 3, 1) := by decide +kernel
theorem dX8_raises_74 : decode cX8_raises 74 = .ok (.iload 4, 2) := by decide +kernel
theorem dX8_raises_76 : decode cX8_raises 76 = .ok (.invokestatic 94, 3) := by decide +kernel
theorem dX8_raises_79 : decode cX8_raises 79 = .ok (.invokevirtual 98, 3) := by decide +kernel
theorem dX8_raises_82 : decode cX8_raises 82 = .ok (.ifCond .eq 26, 3) := by decide +kernel
theorem dX8_raises_85 : decode cX8_raises 85 = .ok (.aload_n 0, 1) := by decide +kernel
theorem dX8_raises_86 : decode cX8_raises 86 = .ok (.iload_n 1, 1) := by decide +kernel
theorem dX8_raises_87 : decode cX8_raises 87 = .ok (.aload_n 0, 1) := by decide +kernel
theorem dX8_raises_88 : decode cX8_raises 88 = .ok (.getfield 38, 3) := by decide +kernel
theorem dX8_raises_91 : decode cX8_raises 91 = .ok (.iconst 5, 1) := by decide +kernel
theorem dX8_raises_92 : decode cX8_raises 92 = .ok (.iload_n 1, 1) := by decide +kernel
theorem dX8_raises_93 : decode cX8_raises 93 = .ok (.imul, 1) := by decide +kernel
theorem dX8_raises_94 : decode cX8_raises 94 = .ok (.aload_n 0, 1) := by decide +kernel
theorem dX8_raises_95 : decode cX8_raises 95 = .ok (.getfield 7, 3) := by decide +kernel
theorem dX8_raises_98 : decode cX8_raises 98 = .ok (.iload_n 3, 1) := by decide +kernel
theorem dX8_raises_99 : decode cX8_raises 99 = .ok (.iload 4, 2) := by decide +kernel
theorem dX8_raises_101 : decode cX8_raises 101 = .ok (.invokestatic 94, 3) := by decide +kernel
theorem dX8_raises_104 : decode cX8_raises 104 = .ok (.iconst 0, 1) := by decide +kernel
theorem dX8_raises_105 : decode cX8_raises 105 = .ok (.invokevirtual 112, 3) := by decide +kernel
theorem dX8_raises_108 : decode cX8_raises 108 = .ok (.return_, 1) := by decide +kernel
theorem dX8_remember_0 : decode cX8_remember 0 = .ok (.aload_n 0, 1) := by decide +kernel
theorem dX8_remember_1 : decode cX8_remember 1 = .ok (.getfield 13, 3) := by decide +kernel
theorem dX8_remember_4 : decode cX8_remember 4 = .ok (.iload_n 1, 1) := by decide +kernel
theorem dX8_remember_5 : decode cX8_remember 5 = .ok (.iaload, 1) := by decide +kernel
theorem dX8_remember_6 : decode cX8_remember 6 = .ok (.iconst 5, 1) := by decide +kernel
theorem dX8_remember_7 : decode cX8_remember 7 = .ok (.if_icmp .ne 61, 3) := by decide +kernel
theorem dX8_remember_10 : decode cX8_remember 10 = .ok (.aload_n 0, 1) := by decide +kernel
theorem dX8_remember_11 : decode cX8_remember 11 = .ok (.getfield 13, 3) := by decide +kernel
theorem dX8_remember_14 : decode cX8_remember 14 = .ok (.iload_n 1, 1) := by decide +kernel
theorem dX8_remember_15 : decode cX8_remember 15 = .ok (.dup2, 1) := by decide +kernel
theorem dX8_remember_16 : decode cX8_remember 16 = .ok (.iaload, 1) := by decide +kernel
theorem dX8_remember_17 : decode cX8_remember 17 = .ok (.iconst 1, 1) := by decide +kernel
theorem dX8_remember_18 : decode cX8_remember 18 = .ok (.isub, 1) := by decide +kernel
theorem dX8_remember_19 : decode cX8_remember 19 = .ok (.iastore, 1) := by decide +kernel
theorem dX8_remember_20 : decode cX8_remember 20 = .ok (.iconst 0, 1) := by decide +kernel
theorem dX8_remember_21 : decode cX8_remember 21 = .ok (.istore_n 2, 1) := by decide +kernel
theorem dX8_remember_22 : decode cX8_remember 22 = .ok (.iload_n 2, 1) := by decide +kernel
theorem dX8_remember_23 : decode cX8_remember 23 = .ok (.bipush 30, 2) := by decide +kernel
theorem dX8_remember_25 : decode cX8_remember 25 = .ok (.aload_n 0, 1) := by decide +kernel
theorem dX8_remember_26 : decode cX8_remember 26 = .ok (.getfield 13, 3) := by decide +kernel
theorem dX8_remember_29 : decode cX8_remember 29 = .ok (.iload_n 1, 1) := by decide +kernel
theorem dX8_remember_30 : decode cX8_remember 30 = .ok (.iaload, 1) := by decide +kernel
theorem dX8_remember_31 : decode cX8_remember 31 = .ok (.imul, 1) := by decide +kernel
theorem dX8_remember_32 : decode cX8_remember 32 = .ok (.if_icmp .ge 36, 3) := by decide +kernel
theorem dX8_remember_35 : decode cX8_remember 35 = .ok (.aload_n 0, 1) := by decide +kernel
theorem dX8_remember_36 : decode cX8_remember 36 = .ok (.getfield 16, 3) := by decide +kernel
theorem dX8_remember_39 : decode cX8_remember 39 = .ok (.sipush 150, 3) := by decide +kernel
theorem dX8_remember_42 : decode cX8_remember 42 = .ok (.iload_n 1, 1) := by decide +kernel
theorem dX8_remember_43 : decode cX8_remember 43 = .ok (.imul, 1) := by decide +kernel
theorem dX8_remember_44 : decode cX8_remember 44 = .ok (.iload_n 2, 1) := by decide +kernel
theorem dX8_remember_45 : decode cX8_remember 45 = .ok (.iadd, 1) := by decide +kernel
theorem dX8_remember_46 : decode cX8_remember 46 = .ok (.aload_n 0, 1) := by decide +kernel
theorem dX8_remember_47 : decode cX8_remember 47 = .ok (.getfield 16, 3) := by decide +kernel
theorem dX8_remember_50 : decode cX8_remember 50 = .ok (.sipush 150, 3) := by decide +kernel
theorem dX8_remember_53 : decode cX8_remember 53 = .ok (.iload_n 1, 1) := by decide +kernel
theorem dX8_remember_54 : decode cX8_remember 54 = .ok (.imul, 1) := by decide +kernel
theorem dX8_remember_55 : decode cX8_remember 55 = .ok (.iload_n 2, 1) := by decide +kernel
theorem dX8_remember_56 : decode cX8_remember 56 = .ok (.iadd, 1) := by decide +kernel
theorem dX8_remember_57 : decode cX8_remember 57 = .ok (.bipush 30, 2) := by decide +kernel
theorem dX8_remember_59 : decode cX8_remember 59 = .ok (.iadd, 1) := by decide +kernel
theorem dX8_remember_60 : decode cX8_remember 60 = .ok (.iaload, 1) := by decide +kernel
theorem dX8_remember_61 : decode cX8_remember 61 = .ok (.iastore, 1) := by decide +kernel
theorem dX8_remember_62 : decode cX8_remember 62 = .ok (.iinc 2 1, 3) := by decide +kernel
theorem dX8_remember_65 : decode cX8_remember 65 = .ok (.goto (-43), 3) := by decide +kernel
theorem dX8_remember_68 : decode cX8_remember 68 = .ok (.iconst 0, 1) := by decide +kernel
theorem dX8_remember_69 : decode cX8_remember 69 = .ok (.istore_n 2, 1) := by decide +kernel
theorem dX8_remember_70 : decode cX8_remember 70 = .ok (.iload_n 2, 1) := by decide +kernel
theorem dX8_remember_71 : decode cX8_remember 71 = .ok (.bipush 30, 2) := by decide +kernel
theorem dX8_remember_73 : decode cX8_remember 73 = .ok (.if_icmp .ge 42, 3) := by decide +kernel
theorem dX8_remember_76 : decode cX8_remember 76 = .ok (.aload_n 0, 1) := by decide +kernel
theorem dX8_remember_77 : decode cX8_remember 77 = .ok (.getfield 16, 3) := by decide +kernel
theorem dX8_remember_80 : decode cX8_remember 80 = .ok (.sipush 150, 3) := by decide +kernel
theorem dX8_remember_83 : decode cX8_remember 83 = .ok (.iload_n 1, 1) := by decide +kernel
theorem dX8_remember_84 : decode cX8_remember 84 = .ok (.imul, 1) := by decide +kernel
theorem dX8_remember_85 : decode cX8_remember 85 = .ok (.bipush 30, 2) := by decide +kernel
theorem dX8_remember_87 : decode cX8_remember 87 = .ok (.aload_n 0, 1) := by decide +kernel
theorem dX8_remember_88 : decode cX8_remember 88 = .ok (.getfield 13, 3) := by decide +kernel
theorem dX8_remember_91 : decode cX8_remember 91 = .ok (.iload_n 1, 1) := by decide +kernel
theorem dX8_remember_92 : decode cX8_remember 92 = .ok (.iaload, 1) := by decide +kernel
theorem dX8_remember_93 : decode cX8_remember 93 = .ok (.imul, 1) := by decide +kernel
theorem dX8_remember_94 : decode cX8_remember 94 = .ok (.iadd, 1) := by decide +kernel
theorem dX8_remember_95 : decode cX8_remember 95 = .ok (.iload_n 2, 1) := by decide +kernel
theorem dX8_remember_96 : decode cX8_remember 96 = .ok (.iadd, 1) := by decide +kernel
theorem dX8_remember_97 : decode cX8_remember 97 = .ok (.aload_n 0, 1) := by decide +kernel
theorem dX8_remember_98 : decode cX8_remember 98 = .ok (.getfield 7, 3) := by decide +kernel
theorem dX8_remember_101 : decode cX8_remember 101 = .ok (.bipush 30, 2) := by decide +kernel
theorem dX8_remember_103 : decode cX8_remember 103 = .ok (.iload_n 1, 1) := by decide +kernel
theorem dX8_remember_104 : decode cX8_remember 104 = .ok (.imul, 1) := by decide +kernel
theorem dX8_remember_105 : decode cX8_remember 105 = .ok (.iload_n 2, 1) := by decide +kernel
theorem dX8_remember_106 : decode cX8_remember 106 = .ok (.iadd, 1) := by decide +kernel
theorem dX8_remember_107 : decode cX8_remember 107 = .ok (.iaload, 1) := by decide +kernel
theorem dX8_remember_108 : decode cX8_remember 108 = .ok (.iastore, 1) := by decide +kernel
theorem dX8_remember_109 : decode cX8_remember 109 = .ok (.iinc 2 1, 3) := by decide +kernel
theorem dX8_remember_112 : decode cX8_remember 112 = .ok (.goto (-42), 3) := by decide +kernel
theorem dX8_remember_115 : decode cX8_remember 115 = .ok (.aload_n 0, 1) := by decide +kernel
theorem dX8_remember_116 : decode cX8_remember 116 = .ok (.getfield 13, 3) := by decide +kernel
theorem dX8_remember_119 : decode cX8_remember 119 = .ok (.iload_n 1, 1) := by decide +kernel
theorem dX8_remember_120 : decode cX8_remember 120 = .ok (.dup2, 1) := by decide +kernel
theorem dX8_remember_121 : decode cX8_remember 121 = .ok (.iaload, 1) := by decide +kernel
theorem dX8_remember_122 : decode cX8_remember 122 = .ok (.iconst 1, 1) := by decide +kernel
theorem dX8_remember_123 : decode cX8_remember 123 = .ok (.iadd, 1) := by decide +kernel
theorem dX8_remember_124 : decode cX8_remember 124 = .ok (.iastore, 1) := by decide +kernel
theorem dX8_remember_125 : decode cX8_remember 125 = .ok (.return_, 1) := by decide +kernel
theorem dX8_operate_0 : decode cX8_operate 0 = .ok (.aload_n 0, 1) := by decide +kernel
theorem dX8_operate_1 : decode cX8_operate 1 = .ok (.getfield 44, 3) := by decide +kernel
theorem dX8_operate_4 : decode cX8_operate 4 = .ok (.iload_n 1, 1) := by decide +kernel
theorem dX8_operate_5 : decode cX8_operate 5 = .ok (.dup2, 1) := by decide +kernel
theorem dX8_operate_6 : decode cX8_operate 6 = .ok (.iaload, 1) := by decide +kernel
theorem dX8_operate_7 : decode cX8_operate 7 = .ok (.aload_n 0, 1) := by decide +kernel
theorem dX8_operate_8 : decode cX8_operate 8 = .ok (.getfield 73, 3) := by decide +kernel
theorem dX8_operate_11 : decode cX8_operate 11 = .ok (.aload_n 0, 1) := by decide +kernel
theorem dX8_operate_12 : decode cX8_operate 12 = .ok (.getfield 73, 3) := by decide +kernel
theorem dX8_operate_15 : decode cX8_operate 15 = .ok (.imul, 1) := by decide +kernel
theorem dX8_operate_16 : decode cX8_operate 16 = .ok (.iadd, 1) := by decide +kernel
theorem dX8_operate_17 : decode cX8_operate 17 = .ok (.iastore, 1) := by decide +kernel
theorem dX8_operate_18 : decode cX8_operate 18 = .ok (.aload_n 0, 1) := by decide +kernel
theorem dX8_operate_19 : decode cX8_operate 19 = .ok (.iload_n 1, 1) := by decide +kernel
theorem dX8_operate_20 : decode cX8_operate 20 = .ok (.invokevirtual 116, 3) := by decide +kernel
theorem dX8_operate_23 : decode cX8_operate 23 = .ok (.istore_n 2, 1) := by decide +kernel
theorem dX8_operate_24 : decode cX8_operate 24 = .ok (.iload_n 2, 1) := by decide +kernel
theorem dX8_operate_25 : decode cX8_operate 25 = .ok (.ifCond .le 11, 3) := by decide +kernel
theorem dX8_operate_28 : decode cX8_operate 28 = .ok (.aload_n 0, 1) := by decide +kernel
theorem dX8_operate_29 : decode cX8_operate 29 = .ok (.iload_n 1, 1) := by decide +kernel
theorem dX8_operate_30 : decode cX8_operate 30 = .ok (.iload_n 2, 1) := by decide +kernel
theorem dX8_operate_31 : decode cX8_operate 31 = .ok (.invokevirtual 119, 3) := by decide +kernel
theorem dX8_operate_34 : decode cX8_operate 34 = .ok (.iload_n 2, 1) := by decide +kernel
theorem dX8_operate_35 : decode cX8_operate 35 = .ok (.ireturn, 1) := by decide +kernel
theorem dX8_operate_36 : decode cX8_operate 36 = .ok (.aload_n 0, 1) := by decide +kernel
theorem dX8_operate_37 : decode cX8_operate 37 = .ok (.getfield 19, 3) := by decide +kernel
theorem dX8_operate_40 : decode cX8_operate 40 = .ok (.iload_n 1, 1) := by decide +kernel
theorem dX8_operate_41 : decode cX8_operate 41 = .ok (.iaload, 1) := by decide +kernel
theorem dX8_operate_42 : decode cX8_operate 42 = .ok (.istore_n 3, 1) := by decide +kernel
theorem dX8_operate_43 : decode cX8_operate 43 = .ok (.aload_n 0, 1) := by decide +kernel
theorem dX8_operate_44 : decode cX8_operate 44 = .ok (.iload_n 3, 1) := by decide +kernel
theorem dX8_operate_45 : decode cX8_operate 45 = .ok (.invokevirtual 104, 3) := by decide +kernel
theorem dX8_operate_48 : decode cX8_operate 48 = .ok (.istore 4, 2) := by decide +kernel
theorem dX8_operate_50 : decode cX8_operate 50 = .ok (.aload_n 0, 1) := by decide +kernel
theorem dX8_operate_51 : decode cX8_operate 51 = .ok (.iload_n 3, 1) := by decide +kernel
theorem dX8_operate_52 : decode cX8_operate 52 = .ok (.invokevirtual 123, 3) := by decide +kernel
theorem dX8_operate_55 : decode cX8_operate 55 = .ok (.aload_n 0, 1) := by decide +kernel
theorem dX8_operate_56 : decode cX8_operate 56 = .ok (.aload_n 0, 1) := by decide +kernel
theorem dX8_operate_57 : decode cX8_operate 57 = .ok (.getfield 7, 3) := by decide +kernel
theorem dX8_operate_60 : decode cX8_operate 60 = .ok (.iload_n 3, 1) := by decide +kernel
theorem dX8_operate_61 : decode cX8_operate 61 = .ok (.iload 4, 2) := by decide +kernel
theorem dX8_operate_63 : decode cX8_operate 63 = .ok (.invokestatic 94, 3) := by decide +kernel
theorem dX8_operate_66 : decode cX8_operate 66 = .ok (.aload_n 0, 1) := by decide +kernel
theorem dX8_operate_67 : decode cX8_operate 67 = .ok (.getfield 35, 3) := by decide +kernel
theorem dX8_operate_70 : decode cX8_operate 70 = .ok (.iconst 5, 1) := by decide +kernel
theorem dX8_operate_71 : decode cX8_operate 71 = .ok (.iload_n 1, 1) := by decide +kernel
theorem dX8_operate_72 : decode cX8_operate 72 = .ok (.imul, 1) := by decide +kernel
theorem dX8_operate_73 : decode cX8_operate 73 = .ok (.invokevirtual 108, 3) := by decide +kernel
theorem dX8_operate_76 : decode cX8_operate 76 = .ok (.aload_n 0, 1) := by decide +kernel
theorem dX8_operate_77 : decode cX8_operate 77 = .ok (.getfield 35, 3) := by decide +kernel
theorem dX8_operate_80 : decode cX8_operate 80 = .ok (.bipush 6, 2) := by decide +kernel
theorem dX8_operate_82 : decode cX8_operate 82 = .ok (.iload_n 1, 1) := by decide +kernel
theorem dX8_operate_83 : decode cX8_operate 83 = .ok (.imul, 1) := by decide +kernel
theorem dX8_operate_84 : decode cX8_operate 84 = .ok (.dup2, 1) := by decide +kernel
theorem dX8_operate_85 : decode cX8_operate 85 = .ok (.iaload, 1) := by decide +kernel
theorem dX8_operate_86 : decode cX8_operate 86 = .ok (.iconst 1, 1) := by decide +kernel
theorem dX8_operate_87 : decode cX8_operate 87 = .ok (.iadd, 1) := by decide +kernel
theorem dX8_operate_88 : decode cX8_operate 88 = .ok (.iastore, 1) := by decide +kernel
theorem dX8_operate_89 : decode cX8_operate 89 = .ok (.aload_n 0, 1) := by decide +kernel
theorem dX8_operate_90 : decode cX8_operate 90 = .ok (.aload_n 0, 1) := by decide +kernel
theorem dX8_operate_91 : decode cX8_operate 91 = .ok (.getfield 35, 3) := by decide +kernel
theorem dX8_operate_94 : decode cX8_operate 94 = .ok (.iconst 5, 1) := by decide +kernel
theorem dX8_operate_95 : decode cX8_operate 95 = .ok (.iload_n 1, 1) := by decide +kernel
theorem dX8_operate_96 : decode cX8_operate 96 = .ok (.imul, 1) := by decide +kernel
theorem dX8_operate_97 : decode cX8_operate 97 = .ok (.aload_n 0, 1) := by decide +kernel
theorem dX8_operate_98 : decode cX8_operate 98 = .ok (.getfield 38, 3) := by decide +kernel
theorem dX8_operate_101 : decode cX8_operate 101 = .ok (.iconst 5, 1) := by decide +kernel
theorem dX8_operate_102 : decode cX8_operate 102 = .ok (.iload_n 1, 1) := by decide +kernel
theorem dX8_operate_103 : decode cX8_operate 103 = .ok (.imul, 1) := by decide +kernel
theorem dX8_operate_104 : decode cX8_operate 104 = .ok (.invokevirtual 108, 3) := by decide +kernel
theorem dX8_operate_107 : decode cX8_operate 107 = .ok (.aload_n 0, 1) := by decide +kernel
theorem dX8_operate_108 : decode cX8_operate 108 = .ok (.aload_n 0, 1) := by decide +kernel
theorem dX8_operate_109 : decode cX8_operate 109 = .ok (.getfield 35, 3) := by decide +kernel
theorem dX8_operate_112 : decode cX8_operate 112 = .ok (.iconst 5, 1) := by decide +kernel
theorem dX8_operate_113 : decode cX8_operate 113 = .ok (.iload_n 1, 1) := by decide +kernel
theorem dX8_operate_114 : decode cX8_operate 114 = .ok (.imul, 1) := by decide +kernel
theorem dX8_operate_115 : decode cX8_operate 115 = .ok (.aload_n 0, 1) := by decide +kernel
theorem dX8_operate_116 : decode cX8_operate 116 = .ok (.getfield 7, 3) := by decide +kernel
theorem dX8_operate_119 : decode cX8_operate 119 = .ok (.iload_n 3, 1) := by decide +kernel
theorem dX8_operate_120 : decode cX8_operate 120 = .ok (.iload_n 1, 1) := by decide +kernel
theorem dX8_operate_121 : decode cX8_operate 121 = .ok (.invokestatic 94, 3) := by decide +kernel
theorem dX8_operate_124 : decode cX8_operate 124 = .ok (.invokevirtual 108, 3) := by decide +kernel
theorem dX8_operate_127 : decode cX8_operate 127 = .ok (.aload_n 0, 1) := by decide +kernel
theorem dX8_operate_128 : decode cX8_operate 128 = .ok (.getfield 47, 3) := by decide +kernel
theorem dX8_operate_131 : decode cX8_operate 131 = .ok (.iload_n 1, 1) := by decide +kernel
theorem dX8_operate_132 : decode cX8_operate 132 = .ok (.dup2, 1) := by decide +kernel
theorem dX8_operate_133 : decode cX8_operate 133 = .ok (.iaload, 1) := by decide +kernel
theorem dX8_operate_134 : decode cX8_operate 134 = .ok (.aload_n 0, 1) := by decide +kernel
theorem dX8_operate_135 : decode cX8_operate 135 = .ok (.getfield 73, 3) := by decide +kernel
theorem dX8_operate_138 : decode cX8_operate 138 = .ok (.iadd, 1) := by decide +kernel
theorem dX8_operate_139 : decode cX8_operate 139 = .ok (.iastore, 1) := by decide +kernel
theorem dX8_operate_140 : decode cX8_operate 140 = .ok (.aload_n 0, 1) := by decide +kernel
theorem dX8_operate_141 : decode cX8_operate 141 = .ok (.getfield 41, 3) := by decide +kernel
theorem dX8_operate_144 : decode cX8_operate 144 = .ok (.iload_n 1, 1) := by decide +kernel
theorem dX8_operate_145 : decode cX8_operate 145 = .ok (.dup2, 1) := by decide +kernel
theorem dX8_operate_146 : decode cX8_operate 146 = .ok (.iaload, 1) := by decide +kernel
theorem dX8_operate_147 : decode cX8_operate 147 = .ok (.iconst 1, 1) := by decide +kernel
theorem dX8_operate_148 : decode cX8_operate 148 = .ok (.iadd, 1) := by decide +kernel
theorem dX8_operate_149 : decode cX8_operate 149 = .ok (.iastore, 1) := by decide +kernel
theorem dX8_operate_150 : decode cX8_operate 150 = .ok (.aload_n 0, 1) := by decide +kernel
theorem dX8_operate_151 : decode cX8_operate 151 = .ok (.dup, 1) := by decide +kernel
theorem dX8_operate_152 : decode cX8_operate 152 = .ok (.getfield 80, 3) := by decide +kernel
theorem dX8_operate_155 : decode cX8_operate 155 = .ok (.iconst 1, 1) := by decide +kernel
theorem dX8_operate_156 : decode cX8_operate 156 = .ok (.iadd, 1) := by decide +kernel
theorem dX8_operate_157 : decode cX8_operate 157 = .ok (.putfield 80, 3) := by decide +kernel
theorem dX8_operate_160 : decode cX8_operate 160 = .ok (.iconst 0, 1) := by decide +kernel
theorem dX8_operate_161 : decode cX8_operate 161 = .ok (.ireturn, 1) := by decide +kernel
theorem dX8_write_0 : decode cX8_write 0 = .ok (.aload_n 0, 1) := by decide +kernel
theorem dX8_write_1 : decode cX8_write 1 = .ok (.iload_n 1, 1) := by decide +kernel
theorem dX8_write_2 : decode cX8_write 2 = .ok (.invokevirtual 126, 3) := by decide +kernel
theorem dX8_write_5 : decode cX8_write 5 = .ok (.ifCond .eq 7, 3) := by decide +kernel
theorem dX8_write_8 : decode cX8_write 8 = .ok (.sipush (-10001), 3) := by decide +kernel
theorem dX8_write_11 : decode cX8_write 11 = .ok (.ireturn, 1) := by decide +kernel
theorem dX8_write_12 : decode cX8_write 12 = .ok (.iload_n 2, 1) := by decide +kernel
theorem dX8_write_13 : decode cX8_write 13 = .ok (.sipush (-1000), 3) := by decide +kernel
theorem dX8_write_16 : decode cX8_write 16 = .ok (.sipush 1000, 3) := by decide +kernel
theorem dX8_write_19 : decode cX8_write 19 = .ok (.invokestatic 83, 3) := by decide +kernel
theorem dX8_write_22 : decode cX8_write 22 = .ok (.ifCond .ne 7, 3) := by decide +kernel
theorem dX8_write_25 : decode cX8_write 25 = .ok (.sipush (-10002), 3) := by decide +kernel
theorem dX8_write_28 : decode cX8_write 28 = .ok (.ireturn, 1) := by decide +kernel
theorem dX8_write_29 : decode cX8_write 29 = .ok (.aload_n 0, 1) := by decide +kernel
theorem dX8_write_30 : decode cX8_write 30 = .ok (.getfield 22, 3) := by decide +kernel
theorem dX8_write_33 : decode cX8_write 33 = .ok (.iload_n 1, 1) := by decide +kernel
theorem dX8_write_34 : decode cX8_write 34 = .ok (.iaload, 1) := by decide +kernel
theorem dX8_write_35 : decode cX8_write 35 = .ok (.ifCond .le 7, 3) := by decide +kernel
theorem dX8_write_38 : decode cX8_write 38 = .ok (.sipush (-10003), 3) := by decide +kernel
theorem dX8_write_41 : decode cX8_write 41 = .ok (.ireturn, 1) := by decide +kernel
theorem dX8_write_42 : decode cX8_write 42 = .ok (.aload_n 0, 1) := by decide +kernel
theorem dX8_write_43 : decode cX8_write 43 = .ok (.iload_n 1, 1) := by decide +kernel
theorem dX8_write_44 : decode cX8_write 44 = .ok (.invokevirtual 130, 3) := by decide +kernel
theorem dX8_write_47 : decode cX8_write 47 = .ok (.istore_n 3, 1) := by decide +kernel
theorem dX8_write_48 : decode cX8_write 48 = .ok (.iload_n 3, 1) := by decide +kernel
theorem dX8_write_49 : decode cX8_write 49 = .ok (.ifCond .ne 23, 3) := by decide +kernel
theorem dX8_write_52 : decode cX8_write 52 = .ok (.aload_n 0, 1) := by decide +kernel
theorem dX8_write_53 : decode cX8_write 53 = .ok (.getfield 7, 3) := by decide +kernel
theorem dX8_write_56 : decode cX8_write 56 = .ok (.bipush 30, 2) := by decide +kernel
theorem dX8_write_58 : decode cX8_write 58 = .ok (.aload_n 0, 1) := by decide +kernel
theorem dX8_write_59 : decode cX8_write 59 = .ok (.getfield 19, 3) := by decide +kernel
theorem dX8_write_62 : decode cX8_write 62 = .ok (.iload_n 1, 1) := by decide +kernel
theorem dX8_write_63 : decode cX8_write 63 = .ok (.iaload, 1) := by decide +kernel
theorem dX8_write_64 : decode cX8_write 64 = .ok (.imul, 1) := by decide +kernel
theorem dX8_write_65 : decode cX8_write 65 = .ok (.bipush 25, 2) := by decide +kernel
theorem dX8_write_67 : decode cX8_write 67 = .ok (.iadd, 1) := by decide +kernel
theorem dX8_write_68 : decode cX8_write 68 = .ok (.iload_n 1, 1) := by decide +kernel
theorem dX8_write_69 : decode cX8_write 69 = .ok (.iadd, 1) := by decide +kernel
theorem dX8_write_70 : decode cX8_write 70 = .ok (.iload_n 2, 1) := by decide +kernel
theorem dX8_write_71 : decode cX8_write 71 = .ok (.iastore, 1) := by decide +kernel
theorem dX8_write_72 : decode cX8_write 72 = .ok (.iload_n 3, 1) := by decide +kernel
theorem dX8_write_73 : decode cX8_write 73 = .ok (.ireturn, 1) := by decide +kernel
theorem dX8_read_0 : decode cX8_read 0 = .ok (.aload_n 0, 1) := by decide +kernel
theorem dX8_read_1 : decode cX8_read 1 = .ok (.iload_n 1, 1) := by decide +kernel
theorem dX8_read_2 : decode cX8_read 2 = .ok (.invokevirtual 126, 3) := by decide +kernel
theorem dX8_read_5 : decode cX8_read 5 = .ok (.ifCond .ne 11, 3) := by decide +kernel
theorem dX8_read_8 : decode cX8_read 8 = .ok (.aload_n 0, 1) := by decide +kernel
theorem dX8_read_9 : decode cX8_read 9 = .ok (.iload_n 2, 1) := by decide +kernel
theorem dX8_read_10 : decode cX8_read 10 = .ok (.invokevirtual 126, 3) := by decide +kernel
theorem dX8_read_13 : decode cX8_read 13 = .ok (.ifCond .eq 7, 3) := by decide +kernel
theorem dX8_read_16 : decode cX8_read 16 = .ok (.sipush (-10001), 3) := by decide +kernel
theorem dX8_read_19 : decode cX8_read 19 = .ok (.ireturn, 1) := by decide +kernel
theorem dX8_read_20 : decode cX8_read 20 = .ok (.aload_n 0, 1) := by decide +kernel
theorem dX8_read_21 : decode cX8_read 21 = .ok (.getfield 22, 3) := by decide +kernel
theorem dX8_read_24 : decode cX8_read 24 = .ok (.iload_n 1, 1) := by decide +kernel
theorem dX8_read_25 : decode cX8_read 25 = .ok (.iaload, 1) := by decide +kernel
theorem dX8_read_26 : decode cX8_read 26 = .ok (.ifCond .le 7, 3) := by decide +kernel
theorem dX8_read_29 : decode cX8_read 29 = .ok (.sipush (-10003), 3) := by decide +kernel
theorem dX8_read_32 : decode cX8_read 32 = .ok (.ireturn, 1) := by decide +kernel
theorem dX8_read_33 : decode cX8_read 33 = .ok (.aload_n 0, 1) := by decide +kernel
theorem dX8_read_34 : decode cX8_read 34 = .ok (.iload_n 1, 1) := by decide +kernel
theorem dX8_read_35 : decode cX8_read 35 = .ok (.invokevirtual 130, 3) := by decide +kernel
theorem dX8_read_38 : decode cX8_read 38 = .ok (.istore_n 3, 1) := by decide +kernel
theorem dX8_read_39 : decode cX8_read 39 = .ok (.iload_n 3, 1) := by decide +kernel
theorem dX8_read_40 : decode cX8_read 40 = .ok (.ifCond .ne 35, 3) := by decide +kernel
theorem dX8_read_43 : decode cX8_read 43 = .ok (.aload_n 0, 1) := by decide +kernel
theorem dX8_read_44 : decode cX8_read 44 = .ok (.getfield 50, 3) := by decide +kernel
theorem dX8_read_47 : decode cX8_read 47 = .ok (.iload_n 1, 1) := by decide +kernel
theorem dX8_read_48 : decode cX8_read 48 = .ok (.iconst 1, 1) := by decide +kernel
theorem dX8_read_49 : decode cX8_read 49 = .ok (.bastore, 1) := by decide +kernel
theorem dX8_read_50 : decode cX8_read 50 = .ok (.aload_n 0, 1) := by decide +kernel
theorem dX8_read_51 : decode cX8_read 51 = .ok (.getfield 53, 3) := by decide +kernel
theorem dX8_read_54 : decode cX8_read 54 = .ok (.iload_n 1, 1) := by decide +kernel
theorem dX8_read_55 : decode cX8_read 55 = .ok (.aload_n 0, 1) := by decide +kernel
theorem dX8_read_56 : decode cX8_read 56 = .ok (.getfield 7, 3) := by decide +kernel
theorem dX8_read_59 : decode cX8_read 59 = .ok (.bipush 30, 2) := by decide +kernel
theorem dX8_read_61 : decode cX8_read 61 = .ok (.aload_n 0, 1) := by decide +kernel
theorem dX8_read_62 : decode cX8_read 62 = .ok (.getfield 19, 3) := by decide +kernel
theorem dX8_read_65 : decode cX8_read 65 = .ok (.iload_n 1, 1) := by decide +kernel
theorem dX8_read_66 : decode cX8_read 66 = .ok (.iaload, 1) := by decide +kernel
theorem dX8_read_67 : decode cX8_read 67 = .ok (.imul, 1) := by decide +kernel
theorem dX8_read_68 : decode cX8_read 68 = .ok (.bipush 25, 2) := by decide +kernel
theorem dX8_read_70 : decode cX8_read 70 = .ok (.iadd, 1) := by decide +kernel
theorem dX8_read_71 : decode cX8_read 71 = .ok (.iload_n 2, 1) := by decide +kernel
theorem dX8_read_72 : decode cX8_read 72 = .ok (.iadd, 1) := by decide +kernel
theorem dX8_read_73 : decode cX8_read 73 = .ok (.iaload, 1) := by decide +kernel
theorem dX8_read_74 : decode cX8_read 74 = .ok (.iastore, 1) := by decide +kernel
theorem dX8_read_75 : decode cX8_read 75 = .ok (.iload_n 3, 1) := by decide +kernel
theorem dX8_read_76 : decode cX8_read 76 = .ok (.ireturn, 1) := by decide +kernel
theorem dX8_lastRead_0 : decode cX8_lastRead 0 = .ok (.aload_n 0, 1) := by decide +kernel
theorem dX8_lastRead_1 : decode cX8_lastRead 1 = .ok (.iload_n 1, 1) := by decide +kernel
theorem dX8_lastRead_2 : decode cX8_lastRead 2 = .ok (.invokevirtual 126, 3) := by decide +kernel
theorem dX8_lastRead_5 : decode cX8_lastRead 5 = .ok (.ifCond .eq 7, 3) := by decide +kernel
theorem dX8_lastRead_8 : decode cX8_lastRead 8 = .ok (.sipush (-10001), 3) := by decide +kernel
theorem dX8_lastRead_11 : decode cX8_lastRead 11 = .ok (.ireturn, 1) := by decide +kernel
theorem dX8_lastRead_12 : decode cX8_lastRead 12 = .ok (.aload_n 0, 1) := by decide +kernel
theorem dX8_lastRead_13 : decode cX8_lastRead 13 = .ok (.getfield 50, 3) := by decide +kernel
theorem dX8_lastRead_16 : decode cX8_lastRead 16 = .ok (.iload_n 1, 1) := by decide +kernel
theorem dX8_lastRead_17 : decode cX8_lastRead 17 = .ok (.baload, 1) := by decide +kernel
theorem dX8_lastRead_18 : decode cX8_lastRead 18 = .ok (.ifCond .eq 12, 3) := by decide +kernel
theorem dX8_lastRead_21 : decode cX8_lastRead 21 = .ok (.aload_n 0, 1) := by decide +kernel
theorem dX8_lastRead_22 : decode cX8_lastRead 22 = .ok (.getfield 53, 3) := by decide +kernel
theorem dX8_lastRead_25 : decode cX8_lastRead 25 = .ok (.iload_n 1, 1) := by decide +kernel
theorem dX8_lastRead_26 : decode cX8_lastRead 26 = .ok (.iaload, 1) := by decide +kernel
theorem dX8_lastRead_27 : decode cX8_lastRead 27 = .ok (.goto 6, 3) := by decide +kernel
theorem dX8_lastRead_30 : decode cX8_lastRead 30 = .ok (.sipush (-10005), 3) := by decide +kernel
theorem dX8_lastRead_33 : decode cX8_lastRead 33 = .ok (.ireturn, 1) := by decide +kernel
theorem dX8_check_0 : decode cX8_check 0 = .ok (.aload_n 0, 1) := by decide +kernel
theorem dX8_check_1 : decode cX8_check 1 = .ok (.iload_n 1, 1) := by decide +kernel
theorem dX8_check_2 : decode cX8_check 2 = .ok (.invokevirtual 126, 3) := by decide +kernel
theorem dX8_check_5 : decode cX8_check 5 = .ok (.ifCond .eq 7, 3) := by decide +kernel
theorem dX8_check_8 : decode cX8_check 8 = .ok (.sipush (-10001), 3) := by decide +kernel
theorem dX8_check_11 : decode cX8_check 11 = .ok (.ireturn, 1) := by decide +kernel
theorem dX8_check_12 : decode cX8_check 12 = .ok (.aload_n 0, 1) := by decide +kernel
theorem dX8_check_13 : decode cX8_check 13 = .ok (.getfield 22, 3) := by decide +kernel
theorem dX8_check_16 : decode cX8_check 16 = .ok (.iload_n 1, 1) := by decide +kernel
theorem dX8_check_17 : decode cX8_check 17 = .ok (.iaload, 1) := by decide +kernel
theorem dX8_check_18 : decode cX8_check 18 = .ok (.ifCond .le 9, 3) := by decide +kernel
theorem dX8_check_21 : decode cX8_check 21 = .ok (.sipush (-10003), 3) := by decide +kernel
theorem dX8_check_24 : decode cX8_check 24 = .ok (.goto 8, 3) := by decide +kernel
theorem dX8_check_27 : decode cX8_check 27 = .ok (.aload_n 0, 1) := by decide +kernel
theorem dX8_check_28 : decode cX8_check 28 = .ok (.iload_n 1, 1) := by decide +kernel
theorem dX8_check_29 : decode cX8_check 29 = .ok (.invokevirtual 116, 3) := by decide +kernel
theorem dX8_check_32 : decode cX8_check 32 = .ok (.ireturn, 1) := by decide +kernel
theorem dX8_fork_0 : decode cX8_fork 0 = .ok (.aload_n 0, 1) := by decide +kernel
theorem dX8_fork_1 : decode cX8_fork 1 = .ok (.iload_n 1, 1) := by decide +kernel
theorem dX8_fork_2 : decode cX8_fork 2 = .ok (.invokevirtual 133, 3) := by decide +kernel
theorem dX8_fork_5 : decode cX8_fork 5 = .ok (.ifCond .eq 7, 3) := by decide +kernel
theorem dX8_fork_8 : decode cX8_fork 8 = .ok (.sipush (-10001), 3) := by decide +kernel
theorem dX8_fork_11 : decode cX8_fork 11 = .ok (.ireturn, 1) := by decide +kernel
theorem dX8_fork_12 : decode cX8_fork 12 = .ok (.iload_n 2, 1) := by decide +kernel
theorem dX8_fork_13 : decode cX8_fork 13 = .ok (.iconst 1, 1) := by decide +kernel
theorem dX8_fork_14 : decode cX8_fork 14 = .ok (.iconst 1, 1) := by decide +kernel
theorem dX8_fork_15 : decode cX8_fork 15 = .ok (.aload_n 0, 1) := by decide +kernel
theorem dX8_fork_16 : decode cX8_fork 16 = .ok (.getfield 73, 3) := by decide +kernel
theorem dX8_fork_19 : decode cX8_fork 19 = .ok (.ishl, 1) := by decide +kernel
theorem dX8_fork_20 : decode cX8_fork 20 = .ok (.iconst 1, 1) := by decide +kernel
theorem dX8_fork_21 : decode cX8_fork 21 = .ok (.isub, 1) := by decide +kernel
theorem dX8_fork_22 : decode cX8_fork 22 = .ok (.invokestatic 83, 3) := by decide +kernel
theorem dX8_fork_25 : decode cX8_fork 25 = .ok (.ifCond .eq 15, 3) := by decide +kernel
theorem dX8_fork_28 : decode cX8_fork 28 = .ok (.iload_n 2, 1) := by decide +kernel
theorem dX8_fork_29 : decode cX8_fork 29 = .ok (.aload_n 0, 1) := by decide +kernel
theorem dX8_fork_30 : decode cX8_fork 30 = .ok (.iload_n 1, 1) := by decide +kernel
theorem dX8_fork_31 : decode cX8_fork 31 = .ok (.invokevirtual 136, 3) := by decide +kernel
theorem dX8_fork_34 : decode cX8_fork 34 = .ok (.iconst (-1), 1) := by decide +kernel
theorem dX8_fork_35 : decode cX8_fork 35 = .ok (.ixor, 1) := by decide +kernel
theorem dX8_fork_36 : decode cX8_fork 36 = .ok (.iand, 1) := by decide +kernel
theorem dX8_fork_37 : decode cX8_fork 37 = .ok (.ifCond .eq 7, 3) := by decide +kernel
theorem dX8_fork_40 : decode cX8_fork 40 = .ok (.sipush (-10002), 3) := by decide +kernel
theorem dX8_fork_43 : decode cX8_fork 43 = .ok (.ireturn, 1) := by decide +kernel
theorem dX8_fork_44 : decode cX8_fork 44 = .ok (.aload_n 0, 1) := by decide +kernel
theorem dX8_fork_45 : decode cX8_fork 45 = .ok (.getfield 77, 3) := by decide +kernel
theorem dX8_fork_48 : decode cX8_fork 48 = .ok (.bipush 6, 2) := by decide +kernel
theorem dX8_fork_50 : decode cX8_fork 50 = .ok (.if_icmp .ne 7, 3) := by decide +kernel
theorem dX8_fork_53 : decode cX8_fork 53 = .ok (.sipush (-10004), 3) := by decide +kernel
theorem dX8_fork_56 : decode cX8_fork 56 = .ok (.ireturn, 1) := by decide +kernel
theorem dX8_fork_57 : decode cX8_fork 57 = .ok (.iconst 0, 1) := by decide +kernel
theorem dX8_fork_58 : decode cX8_fork 58 = .ok (.istore_n 3, 1) := by decide +kernel
theorem dX8_fork_59 : decode cX8_fork 59 = .ok (.iload_n 3, 1) := by decide +kernel
theorem dX8_fork_60 : decode cX8_fork 60 = .ok (.bipush 30, 2) := by decide +kernel
theorem dX8_fork_62 : decode cX8_fork 62 = .ok (.if_icmp .ge 34, 3) := by decide +kernel
theorem dX8_fork_65 : decode cX8_fork 65 = .ok (.aload_n 0, 1) := by decide +kernel
theorem dX8_fork_66 : decode cX8_fork 66 = .ok (.getfield 7, 3) := by decide +kernel
theorem dX8_fork_69 : decode cX8_fork 69 = .ok (.bipush 30, 2) := by decide +kernel
theorem dX8_fork_71 : decode cX8_fork 71 = .ok (.aload_n 0, 1) := by decide +kernel
theorem dX8_fork_72 : decode cX8_fork 72 = .ok (.getfield 77, 3) := by decide +kernel
theorem dX8_fork_75 : decode cX8_fork 75 = .ok (.imul, 1) := by decide +kernel
theorem dX8_fork_76 : decode cX8_fork 76 = .ok (.iload_n 3, 1) := by decide +kernel
theorem dX8_fork_77 : decode cX8_fork 77 = .ok (.iadd, 1) := by decide +kernel
theorem dX8_fork_78 : decode cX8_fork 78 = .ok (.aload_n 0, 1) := by decide +kernel
theorem dX8_fork_79 : decode cX8_fork 79 = .ok (.getfield 7, 3) := by decide +kernel
theorem dX8_fork_82 : decode cX8_fork 82 = .ok (.bipush 30, 2) := by decide +kernel
theorem dX8_fork_84 : decode cX8_fork 84 = .ok (.iload_n 1, 1) := by decide +kernel
theorem dX8_fork_85 : decode cX8_fork 85 = .ok (.imul, 1) := by decide +kernel
theorem dX8_fork_86 : decode cX8_fork 86 = .ok (.iload_n 3, 1) := by decide +kernel
theorem dX8_fork_87 : decode cX8_fork 87 = .ok (.iadd, 1) := by decide +kernel
theorem dX8_fork_88 : decode cX8_fork 88 = .ok (.iaload, 1) := by decide +kernel
theorem dX8_fork_89 : decode cX8_fork 89 = .ok (.iastore, 1) := by decide +kernel
theorem dX8_fork_90 : decode cX8_fork 90 = .ok (.iinc 3 1, 3) := by decide +kernel
theorem dX8_fork_93 : decode cX8_fork 93 = .ok (.goto (-34), 3) := by decide +kernel
theorem dX8_fork_96 : decode cX8_fork 96 = .ok (.iconst 0, 1) := by decide +kernel
theorem dX8_fork_97 : decode cX8_fork 97 = .ok (.istore_n 3, 1) := by decide +kernel
theorem dX8_fork_98 : decode cX8_fork 98 = .ok (.iload_n 3, 1) := by decide +kernel
theorem dX8_fork_99 : decode cX8_fork 99 = .ok (.sipush 150, 3) := by decide +kernel
theorem dX8_fork_102 : decode cX8_fork 102 = .ok (.if_icmp .ge 36, 3) := by decide +kernel
theorem dX8_fork_105 : decode cX8_fork 105 = .ok (.aload_n 0, 1) := by decide +kernel
theorem dX8_fork_106 : decode cX8_fork 106 = .ok (.getfield 16, 3) := by decide +kernel
theorem dX8_fork_109 : decode cX8_fork 109 = .ok (.sipush 150, 3) := by decide +kernel
theorem dX8_fork_112 : decode cX8_fork 112 = .ok (.aload_n 0, 1) := by decide +kernel
theorem dX8_fork_113 : decode cX8_fork 113 = .ok (.getfield 77, 3) := by decide +kernel
theorem dX8_fork_116 : decode cX8_fork 116 = .ok (.imul, 1) := by decide +kernel
theorem dX8_fork_117 : decode cX8_fork 117 = .ok (.iload_n 3, 1) := by decide +kernel
theorem dX8_fork_118 : decode cX8_fork 118 = .ok (.iadd, 1) := by decide +kernel
theorem dX8_fork_119 : decode cX8_fork 119 = .ok (.aload_n 0, 1) := by decide +kernel
theorem dX8_fork_120 : decode cX8_fork 120 = .ok (.getfield 16, 3) := by decide +kernel
theorem dX8_fork_123 : decode cX8_fork 123 = .ok (.sipush 150, 3) := by decide +kernel
theorem dX8_fork_126 : decode cX8_fork 126 = .ok (.iload_n 1, 1) := by decide +kernel
theorem dX8_fork_127 : decode cX8_fork 127 = .ok (.imul, 1) := by decide +kernel
theorem dX8_fork_128 : decode cX8_fork 128 = .ok (.iload_n 3, 1) := by decide +kernel
theorem dX8_fork_129 : decode cX8_fork 129 = .ok (.iadd, 1) := by decide +kernel
theorem dX8_fork_130 : decode cX8_fork 130 = .ok (.iaload, 1) := by decide +kernel
theorem dX8_fork_131 : decode cX8_fork 131 = .ok (.iastore, 1) := by decide +kernel
theorem dX8_fork_132 : decode cX8_fork 132 = .ok (.iinc 3 1, 3) := by decide +kernel
theorem dX8_fork_135 : decode cX8_fork 135 = .ok (.goto (-37), 3) := by decide +kernel
theorem dX8_fork_138 : decode cX8_fork 138 = .ok (.aload_n 0, 1) := by decide +kernel
theorem dX8_fork_139 : decode cX8_fork 139 = .ok (.getfield 13, 3) := by decide +kernel
theorem dX8_fork_142 : decode cX8_fork 142 = .ok (.aload_n 0, 1) := by decide +kernel
theorem dX8_fork_143 : decode cX8_fork 143 = .ok (.getfield 77, 3) := by decide +kernel
theorem dX8_fork_146 : decode cX8_fork 146 = .ok (.aload_n 0, 1) := by decide +kernel
theorem dX8_fork_147 : decode cX8_fork 147 = .ok (.getfield 13, 3) := by decide +kernel
theorem dX8_fork_150 : decode cX8_fork 150 = .ok (.iload_n 1, 1) := by decide +kernel
theorem dX8_fork_151 : decode cX8_fork 151 = .ok (.iaload, 1) := by decide +kernel
theorem dX8_fork_152 : decode cX8_fork 152 = .ok (.iastore, 1) := by decide +kernel
theorem dX8_fork_153 : decode cX8_fork 153 = .ok (.iconst 0, 1) := by decide +kernel
theorem dX8_fork_154 : decode cX8_fork 154 = .ok (.istore_n 3, 1) := by decide +kernel
theorem dX8_fork_155 : decode cX8_fork 155 = .ok (.iload_n 3, 1) := by decide +kernel
theorem dX8_fork_156 : decode cX8_fork 156 = .ok (.aload_n 0, 1) := by decide +kernel
theorem dX8_fork_157 : decode cX8_fork 157 = .ok (.getfield 73, 3) := by decide +kernel
theorem dX8_fork_160 : decode cX8_fork 160 = .ok (.if_icmp .ge 37, 3) := by decide +kernel
theorem dX8_fork_163 : decode cX8_fork 163 = .ok (.aload_n 0, 1) := by decide +kernel
theorem dX8_fork_164 : decode cX8_fork 164 = .ok (.getfield 19, 3) := by decide +kernel
theorem dX8_fork_167 : decode cX8_fork 167 = .ok (.iload_n 3, 1) := by decide +kernel
theorem dX8_fork_168 : decode cX8_fork 168 = .ok (.iload_n 2, 1) := by decide +kernel
theorem dX8_fork_169 : decode cX8_fork 169 = .ok (.iload_n 3, 1) := by decide +kernel
theorem dX8_fork_170 : decode cX8_fork 170 = .ok (.ishr, 1) := by decide +kernel
theorem dX8_fork_171 : decode cX8_fork 171 = .ok (.iconst 1, 1) := by decide +kernel
theorem dX8_fork_172 : decode cX8_fork 172 = .ok (.iand, 1) := by decide +kernel
theorem dX8_fork_173 : decode cX8_fork 173 = .ok (.iconst 1, 1) := by decide +kernel
theorem dX8_fork_174 : decode cX8_fork 174 = .ok (.if_icmp .ne 10, 3) := by decide +kernel
theorem dX8_fork_177 : decode cX8_fork 177 = .ok (.aload_n 0, 1) := by decide +kernel
theorem dX8_fork_178 : decode cX8_fork 178 = .ok (.getfield 77, 3) := by decide +kernel
theorem dX8_fork_181 : decode cX8_fork 181 = .ok (.goto 9, 3) := by decide +kernel
theorem dX8_fork_184 : decode cX8_fork 184 = .ok (.aload_n 0, 1) := by decide +kernel
theorem dX8_fork_185 : decode cX8_fork 185 = .ok (.getfield 19, 3) := by decide +kernel
theorem dX8_fork_188 : decode cX8_fork 188 = .ok (.iload_n 3, 1) := by decide +kernel
theorem dX8_fork_189 : decode cX8_fork 189 = .ok (.iaload, 1) := by decide +kernel
theorem dX8_fork_190 : decode cX8_fork 190 = .ok (.iastore, 1) := by decide +kernel
theorem dX8_fork_191 : decode cX8_fork 191 = .ok (.iinc 3 1, 3) := by decide +kernel
theorem dX8_fork_194 : decode cX8_fork 194 = .ok (.goto (-39), 3) := by decide +kernel
theorem dX8_fork_197 : decode cX8_fork 197 = .ok (.aload_n 0, 1) := by decide +kernel
theorem dX8_fork_198 : decode cX8_fork 198 = .ok (.dup, 1) := by decide +kernel
theorem dX8_fork_199 : decode cX8_fork 199 = .ok (.getfield 77, 3) := by decide +kernel
theorem dX8_fork_202 : decode cX8_fork 202 = .ok (.iconst 1, 1) := by decide +kernel
theorem dX8_fork_203 : decode cX8_fork 203 = .ok (.iadd, 1) := by decide +kernel
theorem dX8_fork_204 : decode cX8_fork 204 = .ok (.putfield 77, 3) := by decide +kernel
theorem dX8_fork_207 : decode cX8_fork 207 = .ok (.aload_n 0, 1) := by decide +kernel
theorem dX8_fork_208 : decode cX8_fork 208 = .ok (.getfield 77, 3) := by decide +kernel
theorem dX8_fork_211 : decode cX8_fork 211 = .ok (.iconst 1, 1) := by decide +kernel
theorem dX8_fork_212 : decode cX8_fork 212 = .ok (.isub, 1) := by decide +kernel
theorem dX8_fork_213 : decode cX8_fork 213 = .ok (.ireturn, 1) := by decide +kernel
theorem dX8_attached_0 : decode cX8_attached 0 = .ok (.iconst 0, 1) := by decide +kernel
theorem dX8_attached_1 : decode cX8_attached 1 = .ok (.istore_n 2, 1) := by decide +kernel
theorem dX8_attached_2 : decode cX8_attached 2 = .ok (.iconst 0, 1) := by decide +kernel
theorem dX8_attached_3 : decode cX8_attached 3 = .ok (.istore_n 3, 1) := by decide +kernel
theorem dX8_attached_4 : decode cX8_attached 4 = .ok (.iload_n 3, 1) := by decide +kernel
theorem dX8_attached_5 : decode cX8_attached 5 = .ok (.aload_n 0, 1) := by decide +kernel
theorem dX8_attached_6 : decode cX8_attached 6 = .ok (.getfield 73, 3) := by decide +kernel
theorem dX8_attached_9 : decode cX8_attached 9 = .ok (.if_icmp .ge 29, 3) := by decide +kernel
theorem dX8_attached_12 : decode cX8_attached 12 = .ok (.iload_n 2, 1) := by decide +kernel
theorem dX8_attached_13 : decode cX8_attached 13 = .ok (.aload_n 0, 1) := by decide +kernel
theorem dX8_attached_14 : decode cX8_attached 14 = .ok (.getfield 19, 3) := by decide +kernel
theorem dX8_attached_17 : decode cX8_attached 17 = .ok (.iload_n 3, 1) := by decide +kernel
theorem dX8_attached_18 : decode cX8_attached 18 = .ok (.iaload, 1) := by decide +kernel
theorem dX8_attached_19 : decode cX8_attached 19 = .ok (.iload_n 1, 1) := by decide +kernel
theorem dX8_attached_20 : decode cX8_attached 20 = .ok (.if_icmp .ne 9, 3) := by decide +kernel
theorem dX8_attached_23 : decode cX8_attached 23 = .ok (.iconst 1, 1) := by decide +kernel
theorem dX8_attached_24 : decode cX8_attached 24 = .ok (.iload_n 3, 1) := by decide +kernel
theorem dX8_attached_25 : decode cX8_attached 25 = .ok (.ishl, 1) := by decide +kernel
theorem dX8_attached_26 : decode cX8_attached 26 = .ok (.goto 4, 3) := by decide +kernel
theorem dX8_attached_29 : decode cX8_attached 29 = .ok (.iconst 0, 1) := by decide +kernel
theorem dX8_attached_30 : decode cX8_attached 30 = .ok (.ior, 1) := by decide +kernel
theorem dX8_attached_31 : decode cX8_attached 31 = .ok (.istore_n 2, 1) := by decide +kernel
theorem dX8_attached_32 : decode cX8_attached 32 = .ok (.iinc 3 1, 3) := by decide +kernel
theorem dX8_attached_35 : decode cX8_attached 35 = .ok (.goto (-31), 3) := by decide +kernel
theorem dX8_attached_38 : decode cX8_attached 38 = .ok (.iload_n 2, 1) := by decide +kernel
theorem dX8_attached_39 : decode cX8_attached 39 = .ok (.ireturn, 1) := by decide +kernel
theorem dX8_attach_0 : decode cX8_attach 0 = .ok (.aload_n 0, 1) := by decide +kernel
theorem dX8_attach_1 : decode cX8_attach 1 = .ok (.iload_n 1, 1) := by decide +kernel
theorem dX8_attach_2 : decode cX8_attach 2 = .ok (.invokevirtual 126, 3) := by decide +kernel
theorem dX8_attach_5 : decode cX8_attach 5 = .ok (.ifCond .ne 11, 3) := by decide +kernel
theorem dX8_attach_8 : decode cX8_attach 8 = .ok (.aload_n 0, 1) := by decide +kernel
theorem dX8_attach_9 : decode cX8_attach 9 = .ok (.iload_n 2, 1) := by decide +kernel
theorem dX8_attach_10 : decode cX8_attach 10 = .ok (.invokevirtual 133, 3) := by decide +kernel
theorem dX8_attach_13 : decode cX8_attach 13 = .ok (.ifCond .eq 7, 3) := by decide +kernel
theorem dX8_attach_16 : decode cX8_attach 16 = .ok (.sipush (-10001), 3) := by decide +kernel
theorem dX8_attach_19 : decode cX8_attach 19 = .ok (.ireturn, 1) := by decide +kernel
theorem dX8_attach_20 : decode cX8_attach 20 = .ok (.aload_n 0, 1) := by decide +kernel
theorem dX8_attach_21 : decode cX8_attach 21 = .ok (.getfield 19, 3) := by decide +kernel
theorem dX8_attach_24 : decode cX8_attach 24 = .ok (.iload_n 1, 1) := by decide +kernel
theorem dX8_attach_25 : decode cX8_attach 25 = .ok (.iaload, 1) := by decide +kernel
theorem dX8_attach_26 : decode cX8_attach 26 = .ok (.istore_n 3, 1) := by decide +kernel
theorem dX8_attach_27 : decode cX8_attach 27 = .ok (.aload_n 0, 1) := by decide +kernel
theorem dX8_attach_28 : decode cX8_attach 28 = .ok (.getfield 19, 3) := by decide +kernel
theorem dX8_attach_31 : decode cX8_attach 31 = .ok (.iload_n 1, 1) := by decide +kernel
theorem dX8_attach_32 : decode cX8_attach 32 = .ok (.iload_n 2, 1) := by decide +kernel
theorem dX8_attach_33 : decode cX8_attach 33 = .ok (.iastore, 1) := by decide +kernel
theorem dX8_attach_34 : decode cX8_attach 34 = .ok (.iload_n 3, 1) := by decide +kernel
theorem dX8_attach_35 : decode cX8_attach 35 = .ok (.ireturn, 1) := by decide +kernel
theorem dX8_rollBack_0 : decode cX8_rollBack 0 = .ok (.aload_n 0, 1) := by decide +kernel
theorem dX8_rollBack_1 : decode cX8_rollBack 1 = .ok (.iload_n 1, 1) := by decide +kernel
theorem dX8_rollBack_2 : decode cX8_rollBack 2 = .ok (.invokevirtual 133, 3) := by decide +kernel
theorem dX8_rollBack_5 : decode cX8_rollBack 5 = .ok (.ifCond .eq 7, 3) := by decide +kernel
theorem dX8_rollBack_8 : decode cX8_rollBack 8 = .ok (.sipush (-10001), 3) := by decide +kernel
theorem dX8_rollBack_11 : decode cX8_rollBack 11 = .ok (.ireturn, 1) := by decide +kernel
theorem dX8_rollBack_12 : decode cX8_rollBack 12 = .ok (.iload_n 2, 1) := by decide +kernel
theorem dX8_rollBack_13 : decode cX8_rollBack 13 = .ok (.iconst 1, 1) := by decide +kernel
theorem dX8_rollBack_14 : decode cX8_rollBack 14 = .ok (.iconst 5, 1) := by decide +kernel
theorem dX8_rollBack_15 : decode cX8_rollBack 15 = .ok (.invokestatic 83, 3) := by decide +kernel
theorem dX8_rollBack_18 : decode cX8_rollBack 18 = .ok (.ifCond .ne 7, 3) := by decide +kernel
theorem dX8_rollBack_21 : decode cX8_rollBack 21 = .ok (.sipush (-10002), 3) := by decide +kernel
theorem dX8_rollBack_24 : decode cX8_rollBack 24 = .ok (.ireturn, 1) := by decide +kernel
theorem dX8_rollBack_25 : decode cX8_rollBack 25 = .ok (.aload_n 0, 1) := by decide +kernel
theorem dX8_rollBack_26 : decode cX8_rollBack 26 = .ok (.getfield 13, 3) := by decide +kernel
theorem dX8_rollBack_29 : decode cX8_rollBack 29 = .ok (.iload_n 1, 1) := by decide +kernel
theorem dX8_rollBack_30 : decode cX8_rollBack 30 = .ok (.iaload, 1) := by decide +kernel
theorem dX8_rollBack_31 : decode cX8_rollBack 31 = .ok (.iload_n 2, 1) := by decide +kernel
theorem dX8_rollBack_32 : decode cX8_rollBack 32 = .ok (.if_icmp .ge 7, 3) := by decide +kernel
theorem dX8_rollBack_35 : decode cX8_rollBack 35 = .ok (.sipush (-10005), 3) := by decide +kernel
theorem dX8_rollBack_38 : decode cX8_rollBack 38 = .ok (.ireturn, 1) := by decide +kernel
theorem dX8_rollBack_39 : decode cX8_rollBack 39 = .ok (.aload_n 0, 1) := by decide +kernel
theorem dX8_rollBack_40 : decode cX8_rollBack 40 = .ok (.getfield 13, 3) := by decide +kernel
theorem dX8_rollBack_43 : decode cX8_rollBack 43 = .ok (.iload_n 1, 1) := by decide +kernel
theorem dX8_rollBack_44 : decode cX8_rollBack 44 = .ok (.dup2, 1) := by decide +kernel
theorem dX8_rollBack_45 : decode cX8_rollBack 45 = .ok (.iaload, 1) := by decide +kernel
theorem dX8_rollBack_46 : decode cX8_rollBack 46 = .ok (.iload_n 2, 1) := by decide +kernel
theorem dX8_rollBack_47 : decode cX8_rollBack 47 = .ok (.isub, 1) := by decide +kernel
theorem dX8_rollBack_48 : decode cX8_rollBack 48 = .ok (.iastore, 1) := by decide +kernel
theorem dX8_rollBack_49 : decode cX8_rollBack 49 = .ok (.iconst 0, 1) := by decide +kernel
theorem dX8_rollBack_50 : decode cX8_rollBack 50 = .ok (.istore_n 3, 1) := by decide +kernel
theorem dX8_rollBack_51 : decode cX8_rollBack 51 = .ok (.iload_n 3, 1) := by decide +kernel
theorem dX8_rollBack_52 : decode cX8_rollBack 52 = .ok (.bipush 30, 2) := by decide +kernel
theorem dX8_rollBack_54 : decode cX8_rollBack 54 = .ok (.if_icmp .ge 42, 3) := by decide +kernel
theorem dX8_rollBack_57 : decode cX8_rollBack 57 = .ok (.aload_n 0, 1) := by decide +kernel
theorem dX8_rollBack_58 : decode cX8_rollBack 58 = .ok (.getfield 7, 3) := by decide +kernel
theorem dX8_rollBack_61 : decode cX8_rollBack 61 = .ok (.bipush 30, 2) := by decide +kernel
theorem dX8_rollBack_63 : decode cX8_rollBack 63 = .ok (.iload_n 1, 1) := by decide +kernel
theorem dX8_rollBack_64 : decode cX8_rollBack 64 = .ok (.imul, 1) := by decide +kernel
theorem dX8_rollBack_65 : decode cX8_rollBack 65 = .ok (.iload_n 3, 1) := by decide +kernel
theorem dX8_rollBack_66 : decode cX8_rollBack 66 = .ok (.iadd, 1) := by decide +kernel
theorem dX8_rollBack_67 : decode cX8_rollBack 67 = .ok (.aload_n 0, 1) := by decide +kernel
theorem dX8_rollBack_68 : decode cX8_rollBack 68 = .ok (.getfield 16, 3) := by decide +kernel
theorem dX8_rollBack_71 : decode cX8_rollBack 71 = .ok (.sipush 150, 3) := by decide +kernel
theorem dX8_rollBack_74 : decode cX8_rollBack 74 = .ok (.iload_n 1, 1) := by decide +kernel
theorem dX8_rollBack_75 : decode cX8_rollBack 75 = .ok (.imul, 1) := by decide +kernel
theorem dX8_rollBack_76 : decode cX8_rollBack 76 = .ok (.bipush 30, 2) := by decide +kernel
theorem dX8_rollBack_78 : decode cX8_rollBack 78 = .ok (.aload_n 0, 1) := by decide +kernel
theorem dX8_rollBack_79 : decode cX8_rollBack 79 = .ok (.getfield 13, 3) := by decide +kernel
theorem dX8_rollBack_82 : decode cX8_rollBack 82 = .ok (.iload_n 1, 1) := by decide +kernel
theorem dX8_rollBack_83 : decode cX8_rollBack 83 = .ok (.iaload, 1) := by decide +kernel
theorem dX8_rollBack_84 : decode cX8_rollBack 84 = .ok (.imul, 1) := by decide +kernel
theorem dX8_rollBack_85 : decode cX8_rollBack 85 = .ok (.iadd, 1) := by decide +kernel
theorem dX8_rollBack_86 : decode cX8_rollBack 86 = .ok (.iload_n 3, 1) := by decide +kernel
theorem dX8_rollBack_87 : decode cX8_rollBack 87 = .ok (.iadd, 1) := by decide +kernel
theorem dX8_rollBack_88 : decode cX8_rollBack 88 = .ok (.iaload, 1) := by decide +kernel
theorem dX8_rollBack_89 : decode cX8_rollBack 89 = .ok (.iastore, 1) := by decide +kernel
theorem dX8_rollBack_90 : decode cX8_rollBack 90 = .ok (.iinc 3 1, 3) := by decide +kernel
theorem dX8_rollBack_93 : decode cX8_rollBack 93 = .ok (.goto (-42), 3) := by decide +kernel
theorem dX8_rollBack_96 : decode cX8_rollBack 96 = .ok (.aload_n 0, 1) := by decide +kernel
theorem dX8_rollBack_97 : decode cX8_rollBack 97 = .ok (.getfield 13, 3) := by decide +kernel
theorem dX8_rollBack_100 : decode cX8_rollBack 100 = .ok (.iload_n 1, 1) := by decide +kernel
theorem dX8_rollBack_101 : decode cX8_rollBack 101 = .ok (.iaload, 1) := by decide +kernel
theorem dX8_rollBack_102 : decode cX8_rollBack 102 = .ok (.ireturn, 1) := by decide +kernel
theorem dX8_mix_0 : decode cX8_mix 0 = .ok (.aload_n 0, 1) := by decide +kernel
theorem dX8_mix_1 : decode cX8_mix 1 = .ok (.iload_n 1, 1) := by decide +kernel
theorem dX8_mix_2 : decode cX8_mix 2 = .ok (.invokevirtual 133, 3) := by decide +kernel
theorem dX8_mix_5 : decode cX8_mix 5 = .ok (.ifCond .ne 11, 3) := by decide +kernel
theorem dX8_mix_8 : decode cX8_mix 8 = .ok (.aload_n 0, 1) := by decide +kernel
theorem dX8_mix_9 : decode cX8_mix 9 = .ok (.iload_n 2, 1) := by decide +kernel
theorem dX8_mix_10 : decode cX8_mix 10 = .ok (.invokevirtual 133, 3) := by decide +kernel
theorem dX8_mix_13 : decode cX8_mix 13 = .ok (.ifCond .eq 7, 3) := by decide +kernel
theorem dX8_mix_16 : decode cX8_mix 16 = .ok (.sipush (-10001), 3) := by decide +kernel
theorem dX8_mix_19 : decode cX8_mix 19 = .ok (.ireturn, 1) := by decide +kernel
theorem dX8_mix_20 : decode cX8_mix 20 = .ok (.iload_n 1, 1) := by decide +kernel
theorem dX8_mix_21 : decode cX8_mix 21 = .ok (.iload_n 2, 1) := by decide +kernel
theorem dX8_mix_22 : decode cX8_mix 22 = .ok (.if_icmp .ne 7, 3) := by decide +kernel
theorem dX8_mix_25 : decode cX8_mix 25 = .ok (.sipush (-10002), 3) := by decide +kernel
theorem dX8_mix_28 : decode cX8_mix 28 = .ok (.ireturn, 1) := by decide +kernel
theorem dX8_mix_29 : decode cX8_mix 29 = .ok (.iconst 0, 1) := by decide +kernel
theorem dX8_mix_30 : decode cX8_mix 30 = .ok (.istore_n 3, 1) := by decide +kernel
theorem dX8_mix_31 : decode cX8_mix 31 = .ok (.iconst 0, 1) := by decide +kernel
theorem dX8_mix_32 : decode cX8_mix 32 = .ok (.istore 4, 2) := by decide +kernel
theorem dX8_mix_34 : decode cX8_mix 34 = .ok (.iload 4, 2) := by decide +kernel
theorem dX8_mix_36 : decode cX8_mix 36 = .ok (.aload_n 0, 1) := by decide +kernel
theorem dX8_mix_37 : decode cX8_mix 37 = .ok (.getfield 73, 3) := by decide +kernel
theorem dX8_mix_40 : decode cX8_mix 40 = .ok (.if_icmp .ge 126, 3) := by decide +kernel
theorem dX8_mix_43 : decode cX8_mix 43 = .ok (.aload_n 0, 1) := by decide +kernel
theorem dX8_mix_44 : decode cX8_mix 44 = .ok (.getfield 7, 3) := by decide +kernel
theorem dX8_mix_47 : decode cX8_mix 47 = .ok (.iload_n 2, 1) := by decide +kernel
theorem dX8_mix_48 : decode cX8_mix 48 = .ok (.iload 4, 2) := by decide +kernel
theorem dX8_mix_50 : decode cX8_mix 50 = .ok (.invokestatic 94, 3) := by decide +kernel
theorem dX8_mix_53 : decode cX8_mix 53 = .ok (.iload 4, 2) := by decide +kernel
theorem dX8_mix_55 : decode cX8_mix 55 = .ok (.iadd, 1) := by decide +kernel
theorem dX8_mix_56 : decode cX8_mix 56 = .ok (.iaload, 1) := by decide +kernel
theorem dX8_mix_57 : decode cX8_mix 57 = .ok (.aload_n 0, 1) := by decide +kernel
theorem dX8_mix_58 : decode cX8_mix 58 = .ok (.getfield 7, 3) := by decide +kernel
theorem dX8_mix_61 : decode cX8_mix 61 = .ok (.iload_n 1, 1) := by decide +kernel
theorem dX8_mix_62 : decode cX8_mix 62 = .ok (.iload 4, 2) := by decide +kernel
theorem dX8_mix_64 : decode cX8_mix 64 = .ok (.invokestatic 94, 3) := by decide +kernel
theorem dX8_mix_67 : decode cX8_mix 67 = .ok (.iload 4, 2) := by decide +kernel
theorem dX8_mix_69 : decode cX8_mix 69 = .ok (.iadd, 1) := by decide +kernel
theorem dX8_mix_70 : decode cX8_mix 70 = .ok (.iaload, 1) := by decide +kernel
theorem dX8_mix_71 : decode cX8_mix 71 = .ok (.if_icmp .le 60, 3) := by decide +kernel
theorem dX8_mix_74 : decode cX8_mix 74 = .ok (.aload_n 0, 1) := by decide +kernel
theorem dX8_mix_75 : decode cX8_mix 75 = .ok (.aload_n 0, 1) := by decide +kernel
theorem dX8_mix_76 : decode cX8_mix 76 = .ok (.getfield 7, 3) := by decide +kernel
theorem dX8_mix_79 : decode cX8_mix 79 = .ok (.iload_n 2, 1) := by decide +kernel
theorem dX8_mix_80 : decode cX8_mix 80 = .ok (.iload 4, 2) := by decide +kernel
theorem dX8_mix_82 : decode cX8_mix 82 = .ok (.invokestatic 94, 3) := by decide +kernel
theorem dX8_mix_85 : decode cX8_mix 85 = .ok (.aload_n 0, 1) := by decide +kernel
theorem dX8_mix_86 : decode cX8_mix 86 = .ok (.getfield 7, 3) := by decide +kernel
theorem dX8_mix_89 : decode cX8_mix 89 = .ok (.iload_n 1, 1) := by decide +kernel
theorem dX8_mix_90 : decode cX8_mix 90 = .ok (.iload 4, 2) := by decide +kernel
theorem dX8_mix_92 : decode cX8_mix 92 = .ok (.invokestatic 94, 3) := by decide +kernel
theorem dX8_mix_95 : decode cX8_mix 95 = .ok (.invokevirtual 108, 3) := by decide +kernel
theorem dX8_mix_98 : decode cX8_mix 98 = .ok (.aload_n 0, 1) := by decide +kernel
theorem dX8_mix_99 : decode cX8_mix 99 = .ok (.getfield 7, 3) := by decide +kernel
theorem dX8_mix_102 : decode cX8_mix 102 = .ok (.bipush 30, 2) := by decide +kernel
theorem dX8_mix_104 : decode cX8_mix 104 = .ok (.iload_n 1, 1) := by decide +kernel
theorem dX8_mix_105 : decode cX8_mix 105 = .ok (.imul, 1) := by decide +kernel
theorem dX8_mix_106 : decode cX8_mix 106 = .ok (.bipush 25, 2) := by decide +kernel
theorem dX8_mix_108 : decode cX8_mix 108 = .ok (.iadd, 1) := by decide +kernel
theorem dX8_mix_109 : decode cX8_mix 109 = .ok (.iload 4, 2) := by decide +kernel
theorem dX8_mix_111 : decode cX8_mix 111 = .ok (.iadd, 1) := by decide +kernel
theorem dX8_mix_112 : decode cX8_mix 112 = .ok (.aload_n 0, 1) := by decide +kernel
theorem dX8_mix_113 : decode cX8_mix 113 = .ok (.getfield 7, 3) := by decide +kernel
theorem dX8_mix_116 : decode cX8_mix 116 = .ok (.bipush 30, 2) := by decide +kernel
theorem dX8_mix_118 : decode cX8_mix 118 = .ok (.iload_n 2, 1) := by decide +kernel
theorem dX8_mix_119 : decode cX8_mix 119 = .ok (.imul, 1) := by decide +kernel
theorem dX8_mix_120 : decode cX8_mix 120 = .ok (.bipush 25, 2) := by decide +kernel
theorem dX8_mix_122 : decode cX8_mix 122 = .ok (.iadd, 1) := by decide +kernel
theorem dX8_mix_123 : decode cX8_mix 123 = .ok (.iload 4, 2) := by decide +kernel
theorem dX8_mix_125 : decode cX8_mix 125 = .ok (.iadd, 1) := by decide +kernel
theorem dX8_mix_126 : decode cX8_mix 126 = .ok (.iaload, 1) := by decide +kernel
theorem dX8_mix_127 : decode cX8_mix 127 = .ok (.iastore, 1) := by decide +kernel
theorem dX8_mix_128 : decode cX8_mix 128 = .ok (.iinc 3 1, 3) := by decide +kernel
theorem dX8_mix_131 : decode cX8_mix 131 = .ok (.aload_n 0, 1) := by decide +kernel
theorem dX8_mix_132 : decode cX8_mix 132 = .ok (.getfield 19, 3) := by decide +kernel
theorem dX8_mix_135 : decode cX8_mix 135 = .ok (.iload 4, 2) := by decide +kernel
theorem dX8_mix_137 : decode cX8_mix 137 = .ok (.aload_n 0, 1) := by decide +kernel
theorem dX8_mix_138 : decode cX8_mix 138 = .ok (.getfield 19, 3) := by decide +kernel
theorem dX8_mix_141 : decode cX8_mix 141 = .ok (.iload 4, 2) := by decide +kernel
theorem dX8_mix_143 : decode cX8_mix 143 = .ok (.iaload, 1) := by decide +kernel
theorem dX8_mix_144 : decode cX8_mix 144 = .ok (.iload_n 2, 1) := by decide +kernel
theorem dX8_mix_145 : decode cX8_mix 145 = .ok (.if_icmp .ne 7, 3) := by decide +kernel
theorem dX8_mix_148 : decode cX8_mix 148 = .ok (.iload_n 1, 1) := by decide +kernel
theorem dX8_mix_149 : decode cX8_mix 149 = .ok (.goto 10, 3) := by decide +kernel
theorem dX8_mix_152 : decode cX8_mix 152 = .ok (.aload_n 0, 1) := by decide +kernel
theorem dX8_mix_153 : decode cX8_mix 153 = .ok (.getfield 19, 3) := by decide +kernel
theorem dX8_mix_156 : decode cX8_mix 156 = .ok (.iload 4, 2) := by decide +kernel
theorem dX8_mix_158 : decode cX8_mix 158 = .ok (.iaload, 1) := by decide +kernel
theorem dX8_mix_159 : decode cX8_mix 159 = .ok (.iastore, 1) := by decide +kernel
theorem dX8_mix_160 : decode cX8_mix 160 = .ok (.iinc 4 1, 3) := by decide +kernel
theorem dX8_mix_163 : decode cX8_mix 163 = .ok (.goto (-129), 3) := by decide +kernel
theorem dX8_mix_166 : decode cX8_mix 166 = .ok (.aload_n 0, 1) := by decide +kernel
theorem dX8_mix_167 : decode cX8_mix 167 = .ok (.getfield 13, 3) := by decide +kernel
theorem dX8_mix_170 : decode cX8_mix 170 = .ok (.iload_n 1, 1) := by decide +kernel
theorem dX8_mix_171 : decode cX8_mix 171 = .ok (.iconst 0, 1) := by decide +kernel
theorem dX8_mix_172 : decode cX8_mix 172 = .ok (.iastore, 1) := by decide +kernel
theorem dX8_mix_173 : decode cX8_mix 173 = .ok (.iload_n 3, 1) := by decide +kernel
theorem dX8_mix_174 : decode cX8_mix 174 = .ok (.ireturn, 1) := by decide +kernel
theorem dX8_sendLetter_0 : decode cX8_sendLetter 0 = .ok (.aload_n 0, 1) := by decide +kernel
theorem dX8_sendLetter_1 : decode cX8_sendLetter 1 = .ok (.iload_n 1, 1) := by decide +kernel
theorem dX8_sendLetter_2 : decode cX8_sendLetter 2 = .ok (.invokevirtual 126, 3) := by decide +kernel
theorem dX8_sendLetter_5 : decode cX8_sendLetter 5 = .ok (.ifCond .ne 11, 3) := by decide +kernel
theorem dX8_sendLetter_8 : decode cX8_sendLetter 8 = .ok (.aload_n 0, 1) := by decide +kernel
theorem dX8_sendLetter_9 : decode cX8_sendLetter 9 = .ok (.iload_n 2, 1) := by decide +kernel
theorem dX8_sendLetter_10 : decode cX8_sendLetter 10 = .ok (.invokevirtual 126, 3) := by decide +kernel
theorem dX8_sendLetter_13 : decode cX8_sendLetter 13 = .ok (.ifCond .eq 7, 3) := by decide +kernel
theorem dX8_sendLetter_16 : decode cX8_sendLetter 16 = .ok (.sipush (-10001), 3) := by decide +kernel
theorem dX8_sendLetter_19 : decode cX8_sendLetter 19 = .ok (.ireturn, 1) := by decide +kernel
theorem dX8_sendLetter_20 : decode cX8_sendLetter 20 = .ok (.iload_n 1, 1) := by decide +kernel
theorem dX8_sendLetter_21 : decode cX8_sendLetter 21 = .ok (.iload_n 2, 1) := by decide +kernel
theorem dX8_sendLetter_22 : decode cX8_sendLetter 22 = .ok (.if_icmp .ne 7, 3) := by decide +kernel
theorem dX8_sendLetter_25 : decode cX8_sendLetter 25 = .ok (.sipush (-10002), 3) := by decide +kernel
theorem dX8_sendLetter_28 : decode cX8_sendLetter 28 = .ok (.ireturn, 1) := by decide +kernel
theorem dX8_sendLetter_29 : decode cX8_sendLetter 29 = .ok (.aload_n 0, 1) := by decide +kernel
theorem dX8_sendLetter_30 : decode cX8_sendLetter 30 = .ok (.getfield 56, 3) := by decide +kernel
theorem dX8_sendLetter_33 : decode cX8_sendLetter 33 = .ok (.iload_n 2, 1) := by decide +kernel
theorem dX8_sendLetter_34 : decode cX8_sendLetter 34 = .ok (.iaload, 1) := by decide +kernel
theorem dX8_sendLetter_35 : decode cX8_sendLetter 35 = .ok (.iconst 4, 1) := by decide +kernel
theorem dX8_sendLetter_36 : decode cX8_sendLetter 36 = .ok (.if_icmp .ne 7, 3) := by decide +kernel
theorem dX8_sendLetter_39 : decode cX8_sendLetter 39 = .ok (.sipush (-10004), 3) := by decide +kernel
theorem dX8_sendLetter_42 : decode cX8_sendLetter 42 = .ok (.ireturn, 1) := by decide +kernel
theorem dX8_sendLetter_43 : decode cX8_sendLetter 43 = .ok (.aload_n 0, 1) := by decide +kernel
theorem dX8_sendLetter_44 : decode cX8_sendLetter 44 = .ok (.aload_n 0, 1) := by decide +kernel
theorem dX8_sendLetter_45 : decode cX8_sendLetter 45 = .ok (.getfield 38, 3) := by decide +kernel
theorem dX8_sendLetter_48 : decode cX8_sendLetter 48 = .ok (.iconst 5, 1) := by decide +kernel
theorem dX8_sendLetter_49 : decode cX8_sendLetter 49 = .ok (.iload_n 1, 1) := by decide +kernel
theorem dX8_sendLetter_50 : decode cX8_sendLetter 50 = .ok (.imul, 1) := by decide +kernel
theorem dX8_sendLetter_51 : decode cX8_sendLetter 51 = .ok (.aload_n 0, 1) := by decide +kernel
theorem dX8_sendLetter_52 : decode cX8_sendLetter 52 = .ok (.getfield 59, 3) := by decide +kernel
theorem dX8_sendLetter_55 : decode cX8_sendLetter 55 = .ok (.bipush 20, 2) := by decide +kernel
theorem dX8_sendLetter_57 : decode cX8_sendLetter 57 = .ok (.iload_n 2, 1) := by decide +kernel
theorem dX8_sendLetter_58 : decode cX8_sendLetter 58 = .ok (.imul, 1) := by decide +kernel
theorem dX8_sendLetter_59 : decode cX8_sendLetter 59 = .ok (.iconst 5, 1) := by decide +kernel
theorem dX8_sendLetter_60 : decode cX8_sendLetter 60 = .ok (.aload_n 0, 1) := by decide +kernel
theorem dX8_sendLetter_61 : decode cX8_sendLetter 61 = .ok (.getfield 56, 3) := by decide +kernel
theorem dX8_sendLetter_64 : decode cX8_sendLetter 64 = .ok (.iload_n 2, 1) := by decide +kernel
theorem dX8_sendLetter_65 : decode cX8_sendLetter 65 = .ok (.iaload, 1) := by decide +kernel
theorem dX8_sendLetter_66 : decode cX8_sendLetter 66 = .ok (.imul, 1) := by decide +kernel
theorem dX8_sendLetter_67 : decode cX8_sendLetter 67 = .ok (.iadd, 1) := by decide +kernel
theorem dX8_sendLetter_68 : decode cX8_sendLetter 68 = .ok (.invokevirtual 108, 3) := by decide +kernel
theorem dX8_sendLetter_71 : decode cX8_sendLetter 71 = .ok (.aload_n 0, 1) := by decide +kernel
theorem dX8_sendLetter_72 : decode cX8_sendLetter 72 = .ok (.getfield 56, 3) := by decide +kernel
theorem dX8_sendLetter_75 : decode cX8_sendLetter 75 = .ok (.iload_n 2, 1) := by decide +kernel
theorem dX8_sendLetter_76 : decode cX8_sendLetter 76 = .ok (.dup2, 1) := by decide +kernel
theorem dX8_sendLetter_77 : decode cX8_sendLetter 77 = .ok (.iaload, 1) := by decide +kernel
theorem dX8_sendLetter_78 : decode cX8_sendLetter 78 = .ok (.iconst 1, 1) := by decide +kernel
theorem dX8_sendLetter_79 : decode cX8_sendLetter 79 = .ok (.iadd, 1) := by decide +kernel
theorem dX8_sendLetter_80 : decode cX8_sendLetter 80 = .ok (.iastore, 1) := by decide +kernel
theorem dX8_sendLetter_81 : decode cX8_sendLetter 81 = .ok (.aload_n 0, 1) := by decide +kernel
theorem dX8_sendLetter_82 : decode cX8_sendLetter 82 = .ok (.getfield 47, 3) := by decide +kernel
theorem dX8_sendLetter_85 : decode cX8_sendLetter 85 = .ok (.iload_n 1, 1) := by decide +kernel
theorem dX8_sendLetter_86 : decode cX8_sendLetter 86 = .ok (.dup2, 1) := by decide +kernel
theorem dX8_sendLetter_87 : decode cX8_sendLetter 87 = .ok (.iaload, 1) := by decide +kernel
theorem dX8_sendLetter_88 : decode cX8_sendLetter 88 = .ok (.aload_n 0, 1) := by decide +kernel
theorem dX8_sendLetter_89 : decode cX8_sendLetter 89 = .ok (.getfield 73, 3) := by decide +kernel
theorem dX8_sendLetter_92 : decode cX8_sendLetter 92 = .ok (.iadd, 1) := by decide +kernel
theorem dX8_sendLetter_93 : decode cX8_sendLetter 93 = .ok (.iastore, 1) := by decide +kernel
theorem dX8_sendLetter_94 : decode cX8_sendLetter 94 = .ok (.aload_n 0, 1) := by decide +kernel
theorem dX8_sendLetter_95 : decode cX8_sendLetter 95 = .ok (.getfield 56, 3) := by decide +kernel
theorem dX8_sendLetter_98 : decode cX8_sendLetter 98 = .ok (.iload_n 2, 1) := by decide +kernel
theorem dX8_sendLetter_99 : decode cX8_sendLetter 99 = .ok (.iaload, 1) := by decide +kernel
theorem dX8_sendLetter_100 : decode cX8_sendLetter 100 = .ok (.ireturn, 1) := by decide +kernel
theorem dX8_takesLetter_0 : decode cX8_takesLetter 0 = .ok (.aload_n 0, 1) := by decide +kernel
theorem dX8_takesLetter_1 : decode cX8_takesLetter 1 = .ok (.aload_n 0, 1) := by decide +kernel
theorem dX8_takesLetter_2 : decode cX8_takesLetter 2 = .ok (.getfield 59, 3) := by decide +kernel
theorem dX8_takesLetter_5 : decode cX8_takesLetter 5 = .ok (.bipush 20, 2) := by decide +kernel
theorem dX8_takesLetter_7 : decode cX8_takesLetter 7 = .ok (.iload_n 1, 1) := by decide +kernel
theorem dX8_takesLetter_8 : decode cX8_takesLetter 8 = .ok (.imul, 1) := by decide +kernel
theorem dX8_takesLetter_9 : decode cX8_takesLetter 9 = .ok (.aload_n 0, 1) := by decide +kernel
theorem dX8_takesLetter_10 : decode cX8_takesLetter 10 = .ok (.getfield 62, 3) := by decide +kernel
theorem dX8_takesLetter_13 : decode cX8_takesLetter 13 = .ok (.iconst 0, 1) := by decide +kernel
theorem dX8_takesLetter_14 : decode cX8_takesLetter 14 = .ok (.invokevirtual 108, 3) := by decide +kernel
theorem dX8_takesLetter_17 : decode cX8_takesLetter 17 = .ok (.aload_n 0, 1) := by decide +kernel
theorem dX8_takesLetter_18 : decode cX8_takesLetter 18 = .ok (.getfield 56, 3) := by decide +kernel
theorem dX8_takesLetter_21 : decode cX8_takesLetter 21 = .ok (.iload_n 1, 1) := by decide +kernel
theorem dX8_takesLetter_22 : decode cX8_takesLetter 22 = .ok (.dup2, 1) := by decide +kernel
theorem dX8_takesLetter_23 : decode cX8_takesLetter 23 = .ok (.iaload, 1) := by decide +kernel
theorem dX8_takesLetter_24 : decode cX8_takesLetter 24 = .ok (.iconst 1, 1) := by decide +kernel
theorem dX8_takesLetter_25 : decode cX8_takesLetter 25 = .ok (.isub, 1) := by decide +kernel
theorem dX8_takesLetter_26 : decode cX8_takesLetter 26 = .ok (.iastore, 1) := by decide +kernel
theorem dX8_takesLetter_27 : decode cX8_takesLetter 27 = .ok (.bipush 20, 2) := by decide +kernel
theorem dX8_takesLetter_29 : decode cX8_takesLetter 29 = .ok (.iload_n 1, 1) := by decide +kernel
theorem dX8_takesLetter_30 : decode cX8_takesLetter 30 = .ok (.imul, 1) := by decide +kernel
theorem dX8_takesLetter_31 : decode cX8_takesLetter 31 = .ok (.istore_n 2, 1) := by decide +kernel
theorem dX8_takesLetter_32 : decode cX8_takesLetter 32 = .ok (.iload_n 2, 1) := by decide +kernel
theorem dX8_takesLetter_33 : decode cX8_takesLetter 33 = .ok (.bipush 20, 2) := by decide +kernel
theorem dX8_takesLetter_35 : decode cX8_takesLetter 35 = .ok (.iload_n 1, 1) := by decide +kernel
theorem dX8_takesLetter_36 : decode cX8_takesLetter 36 = .ok (.imul, 1) := by decide +kernel
theorem dX8_takesLetter_37 : decode cX8_takesLetter 37 = .ok (.iconst 5, 1) := by decide +kernel
theorem dX8_takesLetter_38 : decode cX8_takesLetter 38 = .ok (.aload_n 0, 1) := by decide +kernel
theorem dX8_takesLetter_39 : decode cX8_takesLetter 39 = .ok (.getfield 56, 3) := by decide +kernel
theorem dX8_takesLetter_42 : decode cX8_takesLetter 42 = .ok (.iload_n 1, 1) := by decide +kernel
theorem dX8_takesLetter_43 : decode cX8_takesLetter 43 = .ok (.iaload, 1) := by decide +kernel
theorem dX8_takesLetter_44 : decode cX8_takesLetter 44 = .ok (.imul, 1) := by decide +kernel
theorem dX8_takesLetter_45 : decode cX8_takesLetter 45 = .ok (.iadd, 1) := by decide +kernel
theorem dX8_takesLetter_46 : decode cX8_takesLetter 46 = .ok (.if_icmp .ge 23, 3) := by decide +kernel
theorem dX8_takesLetter_49 : decode cX8_takesLetter 49 = .ok (.aload_n 0, 1) := by decide +kernel
theorem dX8_takesLetter_50 : decode cX8_takesLetter 50 = .ok (.getfield 59, 3) := by decide +kernel
theorem dX8_takesLetter_53 : decode cX8_takesLetter 53 = .ok (.iload_n 2, 1) := by decide +kernel
theorem dX8_takesLetter_54 : decode cX8_takesLetter 54 = .ok (.aload_n 0, 1) := by decide +kernel
theorem dX8_takesLetter_55 : decode cX8_takesLetter 55 = .ok (.getfield 59, 3) := by decide +kernel
theorem dX8_takesLetter_58 : decode cX8_takesLetter 58 = .ok (.iload_n 2, 1) := by decide +kernel
theorem dX8_takesLetter_59 : decode cX8_takesLetter 59 = .ok (.iconst 5, 1) := by decide +kernel
theorem dX8_takesLetter_60 : decode cX8_takesLetter 60 = .ok (.iadd, 1) := by decide +kernel
theorem dX8_takesLetter_61 : decode cX8_takesLetter 61 = .ok (.iaload, 1) := by decide +kernel
theorem dX8_takesLetter_62 : decode cX8_takesLetter 62 = .ok (.iastore, 1) := by decide +kernel
theorem dX8_takesLetter_63 : decode cX8_takesLetter 63 = .ok (.iinc 2 1, 3) := by decide +kernel
theorem dX8_takesLetter_66 : decode cX8_takesLetter 66 = .ok (.goto (-34), 3) := by decide +kernel
theorem dX8_takesLetter_69 : decode cX8_takesLetter 69 = .ok (.return_, 1) := by decide +kernel
theorem dX8_readLetter_0 : decode cX8_readLetter 0 = .ok (.aload_n 0, 1) := by decide +kernel
theorem dX8_readLetter_1 : decode cX8_readLetter 1 = .ok (.iload_n 1, 1) := by decide +kernel
theorem dX8_readLetter_2 : decode cX8_readLetter 2 = .ok (.invokevirtual 126, 3) := by decide +kernel
theorem dX8_readLetter_5 : decode cX8_readLetter 5 = .ok (.ifCond .eq 7, 3) := by decide +kernel
theorem dX8_readLetter_8 : decode cX8_readLetter 8 = .ok (.sipush (-10001), 3) := by decide +kernel
theorem dX8_readLetter_11 : decode cX8_readLetter 11 = .ok (.ireturn, 1) := by decide +kernel
theorem dX8_readLetter_12 : decode cX8_readLetter 12 = .ok (.aload_n 0, 1) := by decide +kernel
theorem dX8_readLetter_13 : decode cX8_readLetter 13 = .ok (.getfield 56, 3) := by decide +kernel
theorem dX8_readLetter_16 : decode cX8_readLetter 16 = .ok (.iload_n 1, 1) := by decide +kernel
theorem dX8_readLetter_17 : decode cX8_readLetter 17 = .ok (.iaload, 1) := by decide +kernel
theorem dX8_readLetter_18 : decode cX8_readLetter 18 = .ok (.ifCond .ne 7, 3) := by decide +kernel
theorem dX8_readLetter_21 : decode cX8_readLetter 21 = .ok (.sipush (-10005), 3) := by decide +kernel
theorem dX8_readLetter_24 : decode cX8_readLetter 24 = .ok (.ireturn, 1) := by decide +kernel
theorem dX8_readLetter_25 : decode cX8_readLetter 25 = .ok (.aload_n 0, 1) := by decide +kernel
theorem dX8_readLetter_26 : decode cX8_readLetter 26 = .ok (.iload_n 1, 1) := by decide +kernel
theorem dX8_readLetter_27 : decode cX8_readLetter 27 = .ok (.invokevirtual 139, 3) := by decide +kernel
theorem dX8_readLetter_30 : decode cX8_readLetter 30 = .ok (.aload_n 0, 1) := by decide +kernel
theorem dX8_readLetter_31 : decode cX8_readLetter 31 = .ok (.aload_n 0, 1) := by decide +kernel
theorem dX8_readLetter_32 : decode cX8_readLetter 32 = .ok (.getfield 62, 3) := by decide +kernel
theorem dX8_readLetter_35 : decode cX8_readLetter 35 = .ok (.iconst 0, 1) := by decide +kernel
theorem dX8_readLetter_36 : decode cX8_readLetter 36 = .ok (.aload_n 0, 1) := by decide +kernel
theorem dX8_readLetter_37 : decode cX8_readLetter 37 = .ok (.getfield 38, 3) := by decide +kernel
theorem dX8_readLetter_40 : decode cX8_readLetter 40 = .ok (.iconst 5, 1) := by decide +kernel
theorem dX8_readLetter_41 : decode cX8_readLetter 41 = .ok (.iload_n 1, 1) := by decide +kernel
theorem dX8_readLetter_42 : decode cX8_readLetter 42 = .ok (.imul, 1) := by decide +kernel
theorem dX8_readLetter_43 : decode cX8_readLetter 43 = .ok (.invokevirtual 87, 3) := by decide +kernel
theorem dX8_readLetter_46 : decode cX8_readLetter 46 = .ok (.ifCond .eq 5, 3) := by decide +kernel
theorem dX8_readLetter_49 : decode cX8_readLetter 49 = .ok (.iconst 0, 1) := by decide +kernel
theorem dX8_readLetter_50 : decode cX8_readLetter 50 = .ok (.ireturn, 1) := by decide +kernel
theorem dX8_readLetter_51 : decode cX8_readLetter 51 = .ok (.aload_n 0, 1) := by decide +kernel
theorem dX8_readLetter_52 : decode cX8_readLetter 52 = .ok (.aload_n 0, 1) := by decide +kernel
theorem dX8_readLetter_53 : decode cX8_readLetter 53 = .ok (.getfield 38, 3) := by decide +kernel
theorem dX8_readLetter_56 : decode cX8_readLetter 56 = .ok (.iconst 5, 1) := by decide +kernel
theorem dX8_readLetter_57 : decode cX8_readLetter 57 = .ok (.iload_n 1, 1) := by decide +kernel
theorem dX8_readLetter_58 : decode cX8_readLetter 58 = .ok (.imul, 1) := by decide +kernel
theorem dX8_readLetter_59 : decode cX8_readLetter 59 = .ok (.aload_n 0, 1) := by decide +kernel
theorem dX8_readLetter_60 : decode cX8_readLetter 60 = .ok (.getfield 62, 3) := by decide +kernel
theorem dX8_readLetter_63 : decode cX8_readLetter 63 = .ok (.iconst 0, 1) := by decide +kernel
theorem dX8_readLetter_64 : decode cX8_readLetter 64 = .ok (.invokevirtual 87, 3) := by decide +kernel
theorem dX8_readLetter_67 : decode cX8_readLetter 67 = .ok (.ifCond .eq 21, 3) := by decide +kernel
theorem dX8_readLetter_70 : decode cX8_readLetter 70 = .ok (.aload_n 0, 1) := by decide +kernel
theorem dX8_readLetter_71 : decode cX8_readLetter 71 = .ok (.aload_n 0, 1) := by decide +kernel
theorem dX8_readLetter_72 : decode cX8_readLetter 72 = .ok (.getfield 62, 3) := by decide +kernel
theorem dX8_readLetter_75 : decode cX8_readLetter 75 = .ok (.iconst 0, 1) := by decide +kernel
theorem dX8_readLetter_76 : decode cX8_readLetter 76 = .ok (.aload_n 0, 1) := by decide +kernel
theorem dX8_readLetter_77 : decode cX8_readLetter 77 = .ok (.getfield 38, 3) := by decide +kernel
theorem dX8_readLetter_80 : decode cX8_readLetter 80 = .ok (.iconst 5, 1) := by decide +kernel
theorem dX8_readLetter_81 : decode cX8_readLetter 81 = .ok (.iload_n 1, 1) := by decide +kernel
theorem dX8_readLetter_82 : decode cX8_readLetter 82 = .ok (.imul, 1) := by decide +kernel
theorem dX8_readLetter_83 : decode cX8_readLetter 83 = .ok (.invokevirtual 108, 3) := by decide +kernel
theorem dX8_readLetter_86 : decode cX8_readLetter 86 = .ok (.iconst 1, 1) := by decide +kernel
theorem dX8_readLetter_87 : decode cX8_readLetter 87 = .ok (.ireturn, 1) := by decide +kernel
theorem dX8_readLetter_88 : decode cX8_readLetter 88 = .ok (.aload_n 0, 1) := by decide +kernel
theorem dX8_readLetter_89 : decode cX8_readLetter 89 = .ok (.getfield 22, 3) := by decide +kernel
theorem dX8_readLetter_92 : decode cX8_readLetter 92 = .ok (.iload_n 1, 1) := by decide +kernel
theorem dX8_readLetter_93 : decode cX8_readLetter 93 = .ok (.aload_n 0, 1) := by decide +kernel
theorem dX8_readLetter_94 : decode cX8_readLetter 94 = .ok (.getfield 22, 3) := by decide +kernel
theorem dX8_readLetter_97 : decode cX8_readLetter 97 = .ok (.iload_n 1, 1) := by decide +kernel
theorem dX8_readLetter_98 : decode cX8_readLetter 98 = .ok (.iaload, 1) := by decide +kernel
theorem dX8_readLetter_99 : decode cX8_readLetter 99 = .ok (.ifCond .le 12, 3) := by decide +kernel
theorem dX8_readLetter_102 : decode cX8_readLetter 102 = .ok (.aload_n 0, 1) := by decide +kernel
theorem dX8_readLetter_103 : decode cX8_readLetter 103 = .ok (.getfield 22, 3) := by decide +kernel
theorem dX8_readLetter_106 : decode cX8_readLetter 106 = .ok (.iload_n 1, 1) := by decide +kernel
theorem dX8_readLetter_107 : decode cX8_readLetter 107 = .ok (.iaload, 1) := by decide +kernel
theorem dX8_readLetter_108 : decode cX8_readLetter 108 = .ok (.goto 4, 3) := by decide +kernel
theorem dX8_readLetter_111 : decode cX8_readLetter 111 = .ok (.iconst 4, 1) := by decide +kernel
theorem dX8_readLetter_112 : decode cX8_readLetter 112 = .ok (.iastore, 1) := by decide +kernel
theorem dX8_readLetter_113 : decode cX8_readLetter 113 = .ok (.aload_n 0, 1) := by decide +kernel
theorem dX8_readLetter_114 : decode cX8_readLetter 114 = .ok (.iload_n 1, 1) := by decide +kernel
theorem dX8_readLetter_115 : decode cX8_readLetter 115 = .ok (.aload_n 0, 1) := by decide +kernel
theorem dX8_readLetter_116 : decode cX8_readLetter 116 = .ok (.getfield 38, 3) := by decide +kernel
theorem dX8_readLetter_119 : decode cX8_readLetter 119 = .ok (.iconst 5, 1) := by decide +kernel
theorem dX8_readLetter_120 : decode cX8_readLetter 120 = .ok (.iload_n 1, 1) := by decide +kernel
theorem dX8_readLetter_121 : decode cX8_readLetter 121 = .ok (.imul, 1) := by decide +kernel
theorem dX8_readLetter_122 : decode cX8_readLetter 122 = .ok (.aload_n 0, 1) := by decide +kernel
theorem dX8_readLetter_123 : decode cX8_readLetter 123 = .ok (.getfield 62, 3) := by decide +kernel
theorem dX8_readLetter_126 : decode cX8_readLetter 126 = .ok (.iconst 0, 1) := by decide +kernel
theorem dX8_readLetter_127 : decode cX8_readLetter 127 = .ok (.iconst 0, 1) := by decide +kernel
theorem dX8_readLetter_128 : decode cX8_readLetter 128 = .ok (.invokevirtual 112, 3) := by decide +kernel
theorem dX8_readLetter_131 : decode cX8_readLetter 131 = .ok (.iconst 2, 1) := by decide +kernel
theorem dX8_readLetter_132 : decode cX8_readLetter 132 = .ok (.ireturn, 1) := by decide +kernel
theorem dX8_loseLetter_0 : decode cX8_loseLetter 0 = .ok (.aload_n 0, 1) := by decide +kernel
theorem dX8_loseLetter_1 : decode cX8_loseLetter 1 = .ok (.iload_n 1, 1) := by decide +kernel
theorem dX8_loseLetter_2 : decode cX8_loseLetter 2 = .ok (.invokevirtual 126, 3) := by decide +kernel
theorem dX8_loseLetter_5 : decode cX8_loseLetter 5 = .ok (.ifCond .eq 7, 3) := by decide +kernel
theorem dX8_loseLetter_8 : decode cX8_loseLetter 8 = .ok (.sipush (-10001), 3) := by decide +kernel
theorem dX8_loseLetter_11 : decode cX8_loseLetter 11 = .ok (.ireturn, 1) := by decide +kernel
theorem dX8_loseLetter_12 : decode cX8_loseLetter 12 = .ok (.aload_n 0, 1) := by decide +kernel
theorem dX8_loseLetter_13 : decode cX8_loseLetter 13 = .ok (.getfield 56, 3) := by decide +kernel
theorem dX8_loseLetter_16 : decode cX8_loseLetter 16 = .ok (.iload_n 1, 1) := by decide +kernel
theorem dX8_loseLetter_17 : decode cX8_loseLetter 17 = .ok (.iaload, 1) := by decide +kernel
theorem dX8_loseLetter_18 : decode cX8_loseLetter 18 = .ok (.ifCond .ne 7, 3) := by decide +kernel
theorem dX8_loseLetter_21 : decode cX8_loseLetter 21 = .ok (.sipush (-10005), 3) := by decide +kernel
theorem dX8_loseLetter_24 : decode cX8_loseLetter 24 = .ok (.ireturn, 1) := by decide +kernel
theorem dX8_loseLetter_25 : decode cX8_loseLetter 25 = .ok (.aload_n 0, 1) := by decide +kernel
theorem dX8_loseLetter_26 : decode cX8_loseLetter 26 = .ok (.iload_n 1, 1) := by decide +kernel
theorem dX8_loseLetter_27 : decode cX8_loseLetter 27 = .ok (.invokevirtual 139, 3) := by decide +kernel
theorem dX8_loseLetter_30 : decode cX8_loseLetter 30 = .ok (.aload_n 0, 1) := by decide +kernel
theorem dX8_loseLetter_31 : decode cX8_loseLetter 31 = .ok (.getfield 56, 3) := by decide +kernel
theorem dX8_loseLetter_34 : decode cX8_loseLetter 34 = .ok (.iload_n 1, 1) := by decide +kernel
theorem dX8_loseLetter_35 : decode cX8_loseLetter 35 = .ok (.iaload, 1) := by decide +kernel
theorem dX8_loseLetter_36 : decode cX8_loseLetter 36 = .ok (.ireturn, 1) := by decide +kernel
theorem dX8_passProof_0 : decode cX8_passProof 0 = .ok (.aload_n 0, 1) := by decide +kernel
theorem dX8_passProof_1 : decode cX8_passProof 1 = .ok (.iload_n 1, 1) := by decide +kernel
theorem dX8_passProof_2 : decode cX8_passProof 2 = .ok (.invokevirtual 126, 3) := by decide +kernel
theorem dX8_passProof_5 : decode cX8_passProof 5 = .ok (.ifCond .ne 11, 3) := by decide +kernel
theorem dX8_passProof_8 : decode cX8_passProof 8 = .ok (.aload_n 0, 1) := by decide +kernel
theorem dX8_passProof_9 : decode cX8_passProof 9 = .ok (.iload_n 2, 1) := by decide +kernel
theorem dX8_passProof_10 : decode cX8_passProof 10 = .ok (.invokevirtual 126, 3) := by decide +kernel
theorem dX8_passProof_13 : decode cX8_passProof 13 = .ok (.ifCond .eq 7, 3) := by decide +kernel
theorem dX8_passProof_16 : decode cX8_passProof 16 = .ok (.sipush (-10001), 3) := by decide +kernel
theorem dX8_passProof_19 : decode cX8_passProof 19 = .ok (.ireturn, 1) := by decide +kernel
theorem dX8_passProof_20 : decode cX8_passProof 20 = .ok (.iload_n 1, 1) := by decide +kernel
theorem dX8_passProof_21 : decode cX8_passProof 21 = .ok (.iload_n 2, 1) := by decide +kernel
theorem dX8_passProof_22 : decode cX8_passProof 22 = .ok (.if_icmp .ne 7, 3) := by decide +kernel
theorem dX8_passProof_25 : decode cX8_passProof 25 = .ok (.sipush (-10002), 3) := by decide +kernel
theorem dX8_passProof_28 : decode cX8_passProof 28 = .ok (.ireturn, 1) := by decide +kernel
theorem dX8_passProof_29 : decode cX8_passProof 29 = .ok (.aload_n 0, 1) := by decide +kernel
theorem dX8_passProof_30 : decode cX8_passProof 30 = .ok (.getfield 25, 3) := by decide +kernel
theorem dX8_passProof_33 : decode cX8_passProof 33 = .ok (.iload_n 1, 1) := by decide +kernel
theorem dX8_passProof_34 : decode cX8_passProof 34 = .ok (.baload, 1) := by decide +kernel
theorem dX8_passProof_35 : decode cX8_passProof 35 = .ok (.ifCond .ne 7, 3) := by decide +kernel
theorem dX8_passProof_38 : decode cX8_passProof 38 = .ok (.sipush (-10003), 3) := by decide +kernel
theorem dX8_passProof_41 : decode cX8_passProof 41 = .ok (.ireturn, 1) := by decide +kernel
theorem dX8_passProof_42 : decode cX8_passProof 42 = .ok (.aload_n 0, 1) := by decide +kernel
theorem dX8_passProof_43 : decode cX8_passProof 43 = .ok (.getfield 47, 3) := by decide +kernel
theorem dX8_passProof_46 : decode cX8_passProof 46 = .ok (.iload_n 1, 1) := by decide +kernel
theorem dX8_passProof_47 : decode cX8_passProof 47 = .ok (.dup2, 1) := by decide +kernel
theorem dX8_passProof_48 : decode cX8_passProof 48 = .ok (.iaload, 1) := by decide +kernel
theorem dX8_passProof_49 : decode cX8_passProof 49 = .ok (.iconst 2, 1) := by decide +kernel
theorem dX8_passProof_50 : decode cX8_passProof 50 = .ok (.aload_n 0, 1) := by decide +kernel
theorem dX8_passProof_51 : decode cX8_passProof 51 = .ok (.getfield 73, 3) := by decide +kernel
theorem dX8_passProof_54 : decode cX8_passProof 54 = .ok (.imul, 1) := by decide +kernel
theorem dX8_passProof_55 : decode cX8_passProof 55 = .ok (.iadd, 1) := by decide +kernel
theorem dX8_passProof_56 : decode cX8_passProof 56 = .ok (.iastore, 1) := by decide +kernel
theorem dX8_passProof_57 : decode cX8_passProof 57 = .ok (.aload_n 0, 1) := by decide +kernel
theorem dX8_passProof_58 : decode cX8_passProof 58 = .ok (.iload_n 2, 1) := by decide +kernel
theorem dX8_passProof_59 : decode cX8_passProof 59 = .ok (.aload_n 0, 1) := by decide +kernel
theorem dX8_passProof_60 : decode cX8_passProof 60 = .ok (.getfield 32, 3) := by decide +kernel
theorem dX8_passProof_63 : decode cX8_passProof 63 = .ok (.bipush 10, 2) := by decide +kernel
theorem dX8_passProof_65 : decode cX8_passProof 65 = .ok (.iload_n 1, 1) := by decide +kernel
theorem dX8_passProof_66 : decode cX8_passProof 66 = .ok (.imul, 1) := by decide +kernel
theorem dX8_passProof_67 : decode cX8_passProof 67 = .ok (.aload_n 0, 1) := by decide +kernel
theorem dX8_passProof_68 : decode cX8_passProof 68 = .ok (.getfield 32, 3) := by decide +kernel
theorem dX8_passProof_71 : decode cX8_passProof 71 = .ok (.bipush 10, 2) := by decide +kernel
theorem dX8_passProof_73 : decode cX8_passProof 73 = .ok (.iload_n 1, 1) := by decide +kernel
theorem dX8_passProof_74 : decode cX8_passProof 74 = .ok (.imul, 1) := by decide +kernel
theorem dX8_passProof_75 : decode cX8_passProof 75 = .ok (.iconst 5, 1) := by decide +kernel
theorem dX8_passProof_76 : decode cX8_passProof 76 = .ok (.iadd, 1) := by decide +kernel
theorem dX8_passProof_77 : decode cX8_passProof 77 = .ok (.aload_n 0, 1) := by decide +kernel
theorem dX8_passProof_78 : decode cX8_passProof 78 = .ok (.getfield 29, 3) := by decide +kernel
theorem dX8_passProof_81 : decode cX8_passProof 81 = .ok (.iload_n 1, 1) := by decide +kernel
theorem dX8_passProof_82 : decode cX8_passProof 82 = .ok (.iaload, 1) := by decide +kernel
theorem dX8_passProof_83 : decode cX8_passProof 83 = .ok (.iconst 1, 1) := by decide +kernel
theorem dX8_passProof_84 : decode cX8_passProof 84 = .ok (.iadd, 1) := by decide +kernel
theorem dX8_passProof_85 : decode cX8_passProof 85 = .ok (.invokevirtual 112, 3) := by decide +kernel
theorem dX8_passProof_88 : decode cX8_passProof 88 = .ok (.aload_n 0, 1) := by decide +kernel
theorem dX8_passProof_89 : decode cX8_passProof 89 = .ok (.getfield 22, 3) := by decide +kernel
theorem dX8_passProof_92 : decode cX8_passProof 92 = .ok (.iload_n 2, 1) := by decide +kernel
theorem dX8_passProof_93 : decode cX8_passProof 93 = .ok (.iaload, 1) := by decide +kernel
theorem dX8_passProof_94 : decode cX8_passProof 94 = .ok (.ifCond .le 5, 3) := by decide +kernel
theorem dX8_passProof_97 : decode cX8_passProof 97 = .ok (.iconst 0, 1) := by decide +kernel
theorem dX8_passProof_98 : decode cX8_passProof 98 = .ok (.ireturn, 1) := by decide +kernel
theorem dX8_passProof_99 : decode cX8_passProof 99 = .ok (.aload_n 0, 1) := by decide +kernel
theorem dX8_passProof_100 : decode cX8_passProof 100 = .ok (.getfield 22, 3) := by decide +kernel
theorem dX8_passProof_103 : decode cX8_passProof 103 = .ok (.iload_n 2, 1) := by decide +kernel
theorem dX8_passProof_104 : decode cX8_passProof 104 = .ok (.iconst 5, 1) := by decide +kernel
theorem dX8_passProof_105 : decode cX8_passProof 105 = .ok (.iastore, 1) := by decide +kernel
theorem dX8_passProof_106 : decode cX8_passProof 106 = .ok (.iconst 1, 1) := by decide +kernel
theorem dX8_passProof_107 : decode cX8_passProof 107 = .ok (.ireturn, 1) := by decide +kernel
theorem dX8_count_0 : decode cX8_count 0 = .ok (.iconst 0, 1) := by decide +kernel
theorem dX8_count_1 : decode cX8_count 1 = .ok (.istore_n 2, 1) := by decide +kernel
theorem dX8_count_2 : decode cX8_count 2 = .ok (.iconst 0, 1) := by decide +kernel
theorem dX8_count_3 : decode cX8_count 3 = .ok (.istore_n 3, 1) := by decide +kernel
theorem dX8_count_4 : decode cX8_count 4 = .ok (.iconst 0, 1) := by decide +kernel
theorem dX8_count_5 : decode cX8_count 5 = .ok (.istore 4, 2) := by decide +kernel
theorem dX8_count_7 : decode cX8_count 7 = .ok (.iconst 0, 1) := by decide +kernel
theorem dX8_count_8 : decode cX8_count 8 = .ok (.istore 5, 2) := by decide +kernel
theorem dX8_count_10 : decode cX8_count 10 = .ok (.iload 5, 2) := by decide +kernel
theorem dX8_count_12 : decode cX8_count 12 = .ok (.aload_n 0, 1) := by decide +kernel
theorem dX8_count_13 : decode cX8_count 13 = .ok (.getfield 73, 3) := by decide +kernel
theorem dX8_count_16 : decode cX8_count 16 = .ok (.if_icmp .ge 57, 3) := by decide +kernel
theorem dX8_count_19 : decode cX8_count 19 = .ok (.iload_n 2, 1) := by decide +kernel
theorem dX8_count_20 : decode cX8_count 20 = .ok (.aload_n 0, 1) := by decide +kernel
theorem dX8_count_21 : decode cX8_count 21 = .ok (.getfield 22, 3) := by decide +kernel
theorem dX8_count_24 : decode cX8_count 24 = .ok (.iload 5, 2) := by decide +kernel
theorem dX8_count_26 : decode cX8_count 26 = .ok (.iaload, 1) := by decide +kernel
theorem dX8_count_27 : decode cX8_count 27 = .ok (.ifCond .le 7, 3) := by decide +kernel
theorem dX8_count_30 : decode cX8_count 30 = .ok (.iconst 1, 1) := by decide +kernel
theorem dX8_count_31 : decode cX8_count 31 = .ok (.goto 4, 3) := by decide +kernel
theorem dX8_count_34 : decode cX8_count 34 = .ok (.iconst 0, 1) := by decide +kernel
theorem dX8_count_35 : decode cX8_count 35 = .ok (.iadd, 1) := by decide +kernel
theorem dX8_count_36 : decode cX8_count 36 = .ok (.istore_n 2, 1) := by decide +kernel
theorem dX8_count_37 : decode cX8_count 37 = .ok (.iload_n 3, 1) := by decide +kernel
theorem dX8_count_38 : decode cX8_count 38 = .ok (.aload_n 0, 1) := by decide +kernel
theorem dX8_count_39 : decode cX8_count 39 = .ok (.getfield 25, 3) := by decide +kernel
theorem dX8_count_42 : decode cX8_count 42 = .ok (.iload 5, 2) := by decide +kernel
theorem dX8_count_44 : decode cX8_count 44 = .ok (.baload, 1) := by decide +kernel
theorem dX8_count_45 : decode cX8_count 45 = .ok (.ifCond .eq 7, 3) := by decide +kernel
theorem dX8_count_48 : decode cX8_count 48 = .ok (.iconst 1, 1) := by decide +kernel
theorem dX8_count_49 : decode cX8_count 49 = .ok (.goto 4, 3) := by decide +kernel
theorem dX8_count_52 : decode cX8_count 52 = .ok (.iconst 0, 1) := by decide +kernel
theorem dX8_count_53 : decode cX8_count 53 = .ok (.iadd, 1) := by decide +kernel
theorem dX8_count_54 : decode cX8_count 54 = .ok (.istore_n 3, 1) := by decide +kernel
theorem dX8_count_55 : decode cX8_count 55 = .ok (.iload 4, 2) := by decide +kernel
theorem dX8_count_57 : decode cX8_count 57 = .ok (.aload_n 0, 1) := by decide +kernel
theorem dX8_count_58 : decode cX8_count 58 = .ok (.getfield 56, 3) := by decide +kernel
theorem dX8_count_61 : decode cX8_count 61 = .ok (.iload 5, 2) := by decide +kernel
theorem dX8_count_63 : decode cX8_count 63 = .ok (.iaload, 1) := by decide +kernel
theorem dX8_count_64 : decode cX8_count 64 = .ok (.iadd, 1) := by decide +kernel
theorem dX8_count_65 : decode cX8_count 65 = .ok (.istore 4, 2) := by decide +kernel
theorem dX8_count_67 : decode cX8_count 67 = .ok (.iinc 5 1, 3) := by decide +kernel
theorem dX8_count_70 : decode cX8_count 70 = .ok (.goto (-60), 3) := by decide +kernel
theorem dX8_count_73 : decode cX8_count 73 = .ok (.iload_n 1, 1) := by decide +kernel
theorem dX8_count_74 : decode cX8_count 74 = .ok (.tableswitch 60 0 5 #[38, 43, 48, 50, 52, 57], 38) := by decide +kernel
theorem dX8_count_112 : decode cX8_count 112 = .ok (.aload_n 0, 1) := by decide +kernel
theorem dX8_count_113 : decode cX8_count 113 = .ok (.getfield 73, 3) := by decide +kernel
theorem dX8_count_116 : decode cX8_count 116 = .ok (.ireturn, 1) := by decide +kernel
theorem dX8_count_117 : decode cX8_count 117 = .ok (.aload_n 0, 1) := by decide +kernel
theorem dX8_count_118 : decode cX8_count 118 = .ok (.getfield 77, 3) := by decide +kernel
theorem dX8_count_121 : decode cX8_count 121 = .ok (.ireturn, 1) := by decide +kernel
theorem dX8_count_122 : decode cX8_count 122 = .ok (.iload_n 2, 1) := by decide +kernel
theorem dX8_count_123 : decode cX8_count 123 = .ok (.ireturn, 1) := by decide +kernel
theorem dX8_count_124 : decode cX8_count 124 = .ok (.iload_n 3, 1) := by decide +kernel
theorem dX8_count_125 : decode cX8_count 125 = .ok (.ireturn, 1) := by decide +kernel
theorem dX8_count_126 : decode cX8_count 126 = .ok (.aload_n 0, 1) := by decide +kernel
theorem dX8_count_127 : decode cX8_count 127 = .ok (.getfield 80, 3) := by decide +kernel
theorem dX8_count_130 : decode cX8_count 130 = .ok (.ireturn, 1) := by decide +kernel
theorem dX8_count_131 : decode cX8_count 131 = .ok (.iload 4, 2) := by decide +kernel
theorem dX8_count_133 : decode cX8_count 133 = .ok (.ireturn, 1) := by decide +kernel
theorem dX8_count_134 : decode cX8_count 134 = .ok (.sipush (-10002), 3) := by decide +kernel
theorem dX8_count_137 : decode cX8_count 137 = .ok (.ireturn, 1) := by decide +kernel
theorem dX8_user_0 : decode cX8_user 0 = .ok (.aload_n 0, 1) := by decide +kernel
theorem dX8_user_1 : decode cX8_user 1 = .ok (.iload_n 1, 1) := by decide +kernel
theorem dX8_user_2 : decode cX8_user 2 = .ok (.invokevirtual 126, 3) := by decide +kernel
theorem dX8_user_5 : decode cX8_user 5 = .ok (.ifCond .eq 7, 3) := by decide +kernel
theorem dX8_user_8 : decode cX8_user 8 = .ok (.sipush (-10001), 3) := by decide +kernel
theorem dX8_user_11 : decode cX8_user 11 = .ok (.ireturn, 1) := by decide +kernel
theorem dX8_user_12 : decode cX8_user 12 = .ok (.iload_n 2, 1) := by decide +kernel
theorem dX8_user_13 : decode cX8_user 13 = .ok (.tableswitch 126 0 7 #[47, 54, 61, 76, 83, 90, 97, 104], 47) := by decide +kernel
theorem dX8_user_60 : decode cX8_user 60 = .ok (.aload_n 0, 1) := by decide +kernel
theorem dX8_user_61 : decode cX8_user 61 = .ok (.getfield 19, 3) := by decide +kernel
theorem dX8_user_64 : decode cX8_user 64 = .ok (.iload_n 1, 1) := by decide +kernel
theorem dX8_user_65 : decode cX8_user 65 = .ok (.iaload, 1) := by decide +kernel
theorem dX8_user_66 : decode cX8_user 66 = .ok (.ireturn, 1) := by decide +kernel
theorem dX8_user_67 : decode cX8_user 67 = .ok (.aload_n 0, 1) := by decide +kernel
theorem dX8_user_68 : decode cX8_user 68 = .ok (.getfield 22, 3) := by decide +kernel
theorem dX8_user_71 : decode cX8_user 71 = .ok (.iload_n 1, 1) := by decide +kernel
theorem dX8_user_72 : decode cX8_user 72 = .ok (.iaload, 1) := by decide +kernel
theorem dX8_user_73 : decode cX8_user 73 = .ok (.ireturn, 1) := by decide +kernel
theorem dX8_user_74 : decode cX8_user 74 = .ok (.aload_n 0, 1) := by decide +kernel
theorem dX8_user_75 : decode cX8_user 75 = .ok (.getfield 25, 3) := by decide +kernel
theorem dX8_user_78 : decode cX8_user 78 = .ok (.iload_n 1, 1) := by decide +kernel
theorem dX8_user_79 : decode cX8_user 79 = .ok (.baload, 1) := by decide +kernel
theorem dX8_user_80 : decode cX8_user 80 = .ok (.ifCond .eq 7, 3) := by decide +kernel
theorem dX8_user_83 : decode cX8_user 83 = .ok (.iconst 1, 1) := by decide +kernel
theorem dX8_user_84 : decode cX8_user 84 = .ok (.goto 4, 3) := by decide +kernel
theorem dX8_user_87 : decode cX8_user 87 = .ok (.iconst 0, 1) := by decide +kernel
theorem dX8_user_88 : decode cX8_user 88 = .ok (.ireturn, 1) := by decide +kernel
theorem dX8_user_89 : decode cX8_user 89 = .ok (.aload_n 0, 1) := by decide +kernel
theorem dX8_user_90 : decode cX8_user 90 = .ok (.getfield 56, 3) := by decide +kernel
theorem dX8_user_93 : decode cX8_user 93 = .ok (.iload_n 1, 1) := by decide +kernel
theorem dX8_user_94 : decode cX8_user 94 = .ok (.iaload, 1) := by decide +kernel
theorem dX8_user_95 : decode cX8_user 95 = .ok (.ireturn, 1) := by decide +kernel
theorem dX8_user_96 : decode cX8_user 96 = .ok (.aload_n 0, 1) := by decide +kernel
theorem dX8_user_97 : decode cX8_user 97 = .ok (.getfield 41, 3) := by decide +kernel
theorem dX8_user_100 : decode cX8_user 100 = .ok (.iload_n 1, 1) := by decide +kernel
theorem dX8_user_101 : decode cX8_user 101 = .ok (.iaload, 1) := by decide +kernel
theorem dX8_user_102 : decode cX8_user 102 = .ok (.ireturn, 1) := by decide +kernel
theorem dX8_user_103 : decode cX8_user 103 = .ok (.aload_n 0, 1) := by decide +kernel
theorem dX8_user_104 : decode cX8_user 104 = .ok (.getfield 44, 3) := by decide +kernel
theorem dX8_user_107 : decode cX8_user 107 = .ok (.iload_n 1, 1) := by decide +kernel
theorem dX8_user_108 : decode cX8_user 108 = .ok (.iaload, 1) := by decide +kernel
theorem dX8_user_109 : decode cX8_user 109 = .ok (.ireturn, 1) := by decide +kernel
theorem dX8_user_110 : decode cX8_user 110 = .ok (.aload_n 0, 1) := by decide +kernel
theorem dX8_user_111 : decode cX8_user 111 = .ok (.getfield 47, 3) := by decide +kernel
theorem dX8_user_114 : decode cX8_user 114 = .ok (.iload_n 1, 1) := by decide +kernel
theorem dX8_user_115 : decode cX8_user 115 = .ok (.iaload, 1) := by decide +kernel
theorem dX8_user_116 : decode cX8_user 116 = .ok (.ireturn, 1) := by decide +kernel
theorem dX8_user_117 : decode cX8_user 117 = .ok (.aload_n 0, 1) := by decide +kernel
theorem dX8_user_118 : decode cX8_user 118 = .ok (.getfield 25, 3) := by decide +kernel
theorem dX8_user_121 : decode cX8_user 121 = .ok (.iload_n 1, 1) := by decide +kernel
theorem dX8_user_122 : decode cX8_user 122 = .ok (.baload, 1) := by decide +kernel
theorem dX8_user_123 : decode cX8_user 123 = .ok (.ifCond .eq 12, 3) := by decide +kernel
theorem dX8_user_126 : decode cX8_user 126 = .ok (.aload_n 0, 1) := by decide +kernel
theorem dX8_user_127 : decode cX8_user 127 = .ok (.getfield 29, 3) := by decide +kernel
theorem dX8_user_130 : decode cX8_user 130 = .ok (.iload_n 1, 1) := by decide +kernel
theorem dX8_user_131 : decode cX8_user 131 = .ok (.iaload, 1) := by decide +kernel
theorem dX8_user_132 : decode cX8_user 132 = .ok (.goto 6, 3) := by decide +kernel
theorem dX8_user_135 : decode cX8_user 135 = .ok (.sipush (-10005), 3) := by decide +kernel
theorem dX8_user_138 : decode cX8_user 138 = .ok (.ireturn, 1) := by decide +kernel
theorem dX8_user_139 : decode cX8_user 139 = .ok (.sipush (-10002), 3) := by decide +kernel
theorem dX8_user_142 : decode cX8_user 142 = .ok (.ireturn, 1) := by decide +kernel
theorem dX8_vector_0 : decode cX8_vector 0 = .ok (.aload_n 0, 1) := by decide +kernel
theorem dX8_vector_1 : decode cX8_vector 1 = .ok (.iload_n 1, 1) := by decide +kernel
theorem dX8_vector_2 : decode cX8_vector 2 = .ok (.invokevirtual 126, 3) := by decide +kernel
theorem dX8_vector_5 : decode cX8_vector 5 = .ok (.ifCond .ne 11, 3) := by decide +kernel
theorem dX8_vector_8 : decode cX8_vector 8 = .ok (.aload_n 0, 1) := by decide +kernel
theorem dX8_vector_9 : decode cX8_vector 9 = .ok (.iload_n 3, 1) := by decide +kernel
theorem dX8_vector_10 : decode cX8_vector 10 = .ok (.invokevirtual 126, 3) := by decide +kernel
theorem dX8_vector_13 : decode cX8_vector 13 = .ok (.ifCond .eq 7, 3) := by decide +kernel
theorem dX8_vector_16 : decode cX8_vector 16 = .ok (.sipush (-10001), 3) := by decide +kernel
theorem dX8_vector_19 : decode cX8_vector 19 = .ok (.ireturn, 1) := by decide +kernel
theorem dX8_vector_20 : decode cX8_vector 20 = .ok (.iload_n 2, 1) := by decide +kernel
theorem dX8_vector_21 : decode cX8_vector 21 = .ok (.iconst 0, 1) := by decide +kernel
theorem dX8_vector_22 : decode cX8_vector 22 = .ok (.iconst 3, 1) := by decide +kernel
theorem dX8_vector_23 : decode cX8_vector 23 = .ok (.invokestatic 83, 3) := by decide +kernel
theorem dX8_vector_26 : decode cX8_vector 26 = .ok (.ifCond .ne 7, 3) := by decide +kernel
theorem dX8_vector_29 : decode cX8_vector 29 = .ok (.sipush (-10002), 3) := by decide +kernel
theorem dX8_vector_32 : decode cX8_vector 32 = .ok (.ireturn, 1) := by decide +kernel
theorem dX8_vector_33 : decode cX8_vector 33 = .ok (.iload_n 2, 1) := by decide +kernel
theorem dX8_vector_34 : decode cX8_vector 34 = .ok (.iconst 2, 1) := by decide +kernel
theorem dX8_vector_35 : decode cX8_vector 35 = .ok (.if_icmp .ge 31, 3) := by decide +kernel
theorem dX8_vector_38 : decode cX8_vector 38 = .ok (.iload_n 2, 1) := by decide +kernel
theorem dX8_vector_39 : decode cX8_vector 39 = .ok (.ifCond .ne 16, 3) := by decide +kernel
theorem dX8_vector_42 : decode cX8_vector 42 = .ok (.aload_n 0, 1) := by decide +kernel
theorem dX8_vector_43 : decode cX8_vector 43 = .ok (.getfield 35, 3) := by decide +kernel
theorem dX8_vector_46 : decode cX8_vector 46 = .ok (.iconst 5, 1) := by decide +kernel
theorem dX8_vector_47 : decode cX8_vector 47 = .ok (.iload_n 1, 1) := by decide +kernel
theorem dX8_vector_48 : decode cX8_vector 48 = .ok (.imul, 1) := by decide +kernel
theorem dX8_vector_49 : decode cX8_vector 49 = .ok (.iload_n 3, 1) := by decide +kernel
theorem dX8_vector_50 : decode cX8_vector 50 = .ok (.iadd, 1) := by decide +kernel
theorem dX8_vector_51 : decode cX8_vector 51 = .ok (.iaload, 1) := by decide +kernel
theorem dX8_vector_52 : decode cX8_vector 52 = .ok (.goto 13, 3) := by decide +kernel
theorem dX8_vector_55 : decode cX8_vector 55 = .ok (.aload_n 0, 1) := by decide +kernel
theorem dX8_vector_56 : decode cX8_vector 56 = .ok (.getfield 38, 3) := by decide +kernel
theorem dX8_vector_59 : decode cX8_vector 59 = .ok (.iconst 5, 1) := by decide +kernel
theorem dX8_vector_60 : decode cX8_vector 60 = .ok (.iload_n 1, 1) := by decide +kernel
theorem dX8_vector_61 : decode cX8_vector 61 = .ok (.imul, 1) := by decide +kernel
theorem dX8_vector_62 : decode cX8_vector 62 = .ok (.iload_n 3, 1) := by decide +kernel
theorem dX8_vector_63 : decode cX8_vector 63 = .ok (.iadd, 1) := by decide +kernel
theorem dX8_vector_64 : decode cX8_vector 64 = .ok (.iaload, 1) := by decide +kernel
theorem dX8_vector_65 : decode cX8_vector 65 = .ok (.ireturn, 1) := by decide +kernel
theorem dX8_vector_66 : decode cX8_vector 66 = .ok (.aload_n 0, 1) := by decide +kernel
theorem dX8_vector_67 : decode cX8_vector 67 = .ok (.getfield 25, 3) := by decide +kernel
theorem dX8_vector_70 : decode cX8_vector 70 = .ok (.iload_n 1, 1) := by decide +kernel
theorem dX8_vector_71 : decode cX8_vector 71 = .ok (.baload, 1) := by decide +kernel
theorem dX8_vector_72 : decode cX8_vector 72 = .ok (.ifCond .eq 23, 3) := by decide +kernel
theorem dX8_vector_75 : decode cX8_vector 75 = .ok (.aload_n 0, 1) := by decide +kernel
theorem dX8_vector_76 : decode cX8_vector 76 = .ok (.getfield 32, 3) := by decide +kernel
theorem dX8_vector_79 : decode cX8_vector 79 = .ok (.bipush 10, 2) := by decide +kernel
theorem dX8_vector_81 : decode cX8_vector 81 = .ok (.iload_n 1, 1) := by decide +kernel
theorem dX8_vector_82 : decode cX8_vector 82 = .ok (.imul, 1) := by decide +kernel
theorem dX8_vector_83 : decode cX8_vector 83 = .ok (.iconst 5, 1) := by decide +kernel
theorem dX8_vector_84 : decode cX8_vector 84 = .ok (.iload_n 2, 1) := by decide +kernel
theorem dX8_vector_85 : decode cX8_vector 85 = .ok (.iconst 2, 1) := by decide +kernel
theorem dX8_vector_86 : decode cX8_vector 86 = .ok (.isub, 1) := by decide +kernel
theorem dX8_vector_87 : decode cX8_vector 87 = .ok (.imul, 1) := by decide +kernel
theorem dX8_vector_88 : decode cX8_vector 88 = .ok (.iadd, 1) := by decide +kernel
theorem dX8_vector_89 : decode cX8_vector 89 = .ok (.iload_n 3, 1) := by decide +kernel
theorem dX8_vector_90 : decode cX8_vector 90 = .ok (.iadd, 1) := by decide +kernel
theorem dX8_vector_91 : decode cX8_vector 91 = .ok (.iaload, 1) := by decide +kernel
theorem dX8_vector_92 : decode cX8_vector 92 = .ok (.goto 6, 3) := by decide +kernel
theorem dX8_vector_95 : decode cX8_vector 95 = .ok (.sipush (-10005), 3) := by decide +kernel
theorem dX8_vector_98 : decode cX8_vector 98 = .ok (.ireturn, 1) := by decide +kernel
theorem dX8_entry_0 : decode cX8_entry 0 = .ok (.aload_n 0, 1) := by decide +kernel
theorem dX8_entry_1 : decode cX8_entry 1 = .ok (.iload_n 1, 1) := by decide +kernel
theorem dX8_entry_2 : decode cX8_entry 2 = .ok (.invokevirtual 133, 3) := by decide +kernel
theorem dX8_entry_5 : decode cX8_entry 5 = .ok (.ifCond .ne 19, 3) := by decide +kernel
theorem dX8_entry_8 : decode cX8_entry 8 = .ok (.aload_n 0, 1) := by decide +kernel
theorem dX8_entry_9 : decode cX8_entry 9 = .ok (.iload_n 2, 1) := by decide +kernel
theorem dX8_entry_10 : decode cX8_entry 10 = .ok (.invokevirtual 126, 3) := by decide +kernel
theorem dX8_entry_13 : decode cX8_entry 13 = .ok (.ifCond .ne 11, 3) := by decide +kernel
theorem dX8_entry_16 : decode cX8_entry 16 = .ok (.aload_n 0, 1) := by decide +kernel
theorem dX8_entry_17 : decode cX8_entry 17 = .ok (.iload_n 3, 1) := by decide +kernel
theorem dX8_entry_18 : decode cX8_entry 18 = .ok (.invokevirtual 126, 3) := by decide +kernel
theorem dX8_entry_21 : decode cX8_entry 21 = .ok (.ifCond .eq 9, 3) := by decide +kernel
theorem dX8_entry_24 : decode cX8_entry 24 = .ok (.sipush (-10001), 3) := by decide +kernel
theorem dX8_entry_27 : decode cX8_entry 27 = .ok (.goto 15, 3) := by decide +kernel
theorem dX8_entry_30 : decode cX8_entry 30 = .ok (.aload_n 0, 1) := by decide +kernel
theorem dX8_entry_31 : decode cX8_entry 31 = .ok (.getfield 7, 3) := by decide +kernel
theorem dX8_entry_34 : decode cX8_entry 34 = .ok (.iload_n 1, 1) := by decide +kernel
theorem dX8_entry_35 : decode cX8_entry 35 = .ok (.iload_n 2, 1) := by decide +kernel
theorem dX8_entry_36 : decode cX8_entry 36 = .ok (.invokestatic 94, 3) := by decide +kernel
theorem dX8_entry_39 : decode cX8_entry 39 = .ok (.iload_n 3, 1) := by decide +kernel
theorem dX8_entry_40 : decode cX8_entry 40 = .ok (.iadd, 1) := by decide +kernel
theorem dX8_entry_41 : decode cX8_entry 41 = .ok (.iaload, 1) := by decide +kernel
theorem dX8_entry_42 : decode cX8_entry 42 = .ok (.ireturn, 1) := by decide +kernel
theorem dX8_content_0 : decode cX8_content 0 = .ok (.aload_n 0, 1) := by decide +kernel
theorem dX8_content_1 : decode cX8_content 1 = .ok (.iload_n 1, 1) := by decide +kernel
theorem dX8_content_2 : decode cX8_content 2 = .ok (.invokevirtual 133, 3) := by decide +kernel
theorem dX8_content_5 : decode cX8_content 5 = .ok (.ifCond .ne 11, 3) := by decide +kernel
theorem dX8_content_8 : decode cX8_content 8 = .ok (.aload_n 0, 1) := by decide +kernel
theorem dX8_content_9 : decode cX8_content 9 = .ok (.iload_n 2, 1) := by decide +kernel
theorem dX8_content_10 : decode cX8_content 10 = .ok (.invokevirtual 126, 3) := by decide +kernel
theorem dX8_content_13 : decode cX8_content 13 = .ok (.ifCond .eq 9, 3) := by decide +kernel
theorem dX8_content_16 : decode cX8_content 16 = .ok (.sipush (-10001), 3) := by decide +kernel
theorem dX8_content_19 : decode cX8_content 19 = .ok (.goto 17, 3) := by decide +kernel
theorem dX8_content_22 : decode cX8_content 22 = .ok (.aload_n 0, 1) := by decide +kernel
theorem dX8_content_23 : decode cX8_content 23 = .ok (.getfield 7, 3) := by decide +kernel
theorem dX8_content_26 : decode cX8_content 26 = .ok (.bipush 30, 2) := by decide +kernel
theorem dX8_content_28 : decode cX8_content 28 = .ok (.iload_n 1, 1) := by decide +kernel
theorem dX8_content_29 : decode cX8_content 29 = .ok (.imul, 1) := by decide +kernel
theorem dX8_content_30 : decode cX8_content 30 = .ok (.bipush 25, 2) := by decide +kernel
theorem dX8_content_32 : decode cX8_content 32 = .ok (.iadd, 1) := by decide +kernel
theorem dX8_content_33 : decode cX8_content 33 = .ok (.iload_n 2, 1) := by decide +kernel
theorem dX8_content_34 : decode cX8_content 34 = .ok (.iadd, 1) := by decide +kernel
theorem dX8_content_35 : decode cX8_content 35 = .ok (.iaload, 1) := by decide +kernel
theorem dX8_content_36 : decode cX8_content 36 = .ok (.ireturn, 1) := by decide +kernel
theorem dX8_view_0 : decode cX8_view 0 = .ok (.aload_n 0, 1) := by decide +kernel
theorem dX8_view_1 : decode cX8_view 1 = .ok (.iload_n 1, 1) := by decide +kernel
theorem dX8_view_2 : decode cX8_view 2 = .ok (.invokevirtual 133, 3) := by decide +kernel
theorem dX8_view_5 : decode cX8_view 5 = .ok (.ifCond .eq 7, 3) := by decide +kernel
theorem dX8_view_8 : decode cX8_view 8 = .ok (.sipush (-10001), 3) := by decide +kernel
theorem dX8_view_11 : decode cX8_view 11 = .ok (.ireturn, 1) := by decide +kernel
theorem dX8_view_12 : decode cX8_view 12 = .ok (.aload_n 0, 1) := by decide +kernel
theorem dX8_view_13 : decode cX8_view 13 = .ok (.iload_n 1, 1) := by decide +kernel
theorem dX8_view_14 : decode cX8_view 14 = .ok (.invokevirtual 104, 3) := by decide +kernel
theorem dX8_view_17 : decode cX8_view 17 = .ok (.istore_n 3, 1) := by decide +kernel
theorem dX8_view_18 : decode cX8_view 18 = .ok (.iconst 0, 1) := by decide +kernel
theorem dX8_view_19 : decode cX8_view 19 = .ok (.istore 4, 2) := by decide +kernel
theorem dX8_view_21 : decode cX8_view 21 = .ok (.iconst 0, 1) := by decide +kernel
theorem dX8_view_22 : decode cX8_view 22 = .ok (.istore 5, 2) := by decide +kernel
theorem dX8_view_24 : decode cX8_view 24 = .ok (.iload 5, 2) := by decide +kernel
theorem dX8_view_26 : decode cX8_view 26 = .ok (.aload_n 0, 1) := by decide +kernel
theorem dX8_view_27 : decode cX8_view 27 = .ok (.getfield 73, 3) := by decide +kernel
theorem dX8_view_30 : decode cX8_view 30 = .ok (.if_icmp .ge 31, 3) := by decide +kernel
theorem dX8_view_33 : decode cX8_view 33 = .ok (.iload_n 3, 1) := by decide +kernel
theorem dX8_view_34 : decode cX8_view 34 = .ok (.ifCond .lt 27, 3) := by decide +kernel
theorem dX8_view_37 : decode cX8_view 37 = .ok (.iload 4, 2) := by decide +kernel
theorem dX8_view_39 : decode cX8_view 39 = .ok (.aload_n 0, 1) := by decide +kernel
theorem dX8_view_40 : decode cX8_view 40 = .ok (.getfield 7, 3) := by decide +kernel
theorem dX8_view_43 : decode cX8_view 43 = .ok (.iload_n 1, 1) := by decide +kernel
theorem dX8_view_44 : decode cX8_view 44 = .ok (.iload_n 3, 1) := by decide +kernel
theorem dX8_view_45 : decode cX8_view 45 = .ok (.invokestatic 94, 3) := by decide +kernel
theorem dX8_view_48 : decode cX8_view 48 = .ok (.iload 5, 2) := by decide +kernel
theorem dX8_view_50 : decode cX8_view 50 = .ok (.iadd, 1) := by decide +kernel
theorem dX8_view_51 : decode cX8_view 51 = .ok (.iaload, 1) := by decide +kernel
theorem dX8_view_52 : decode cX8_view 52 = .ok (.iadd, 1) := by decide +kernel
theorem dX8_view_53 : decode cX8_view 53 = .ok (.istore 4, 2) := by decide +kernel
theorem dX8_view_55 : decode cX8_view 55 = .ok (.iinc 5 1, 3) := by decide +kernel
theorem dX8_view_58 : decode cX8_view 58 = .ok (.goto (-34), 3) := by decide +kernel
theorem dX8_view_61 : decode cX8_view 61 = .ok (.iload_n 2, 1) := by decide +kernel
theorem dX8_view_62 : decode cX8_view 62 = .ok (.tableswitch 66 0 3 #[30, 36, 43, 53], 30) := by decide +kernel
theorem dX8_view_92 : decode cX8_view 92 = .ok (.aload_n 0, 1) := by decide +kernel
theorem dX8_view_93 : decode cX8_view 93 = .ok (.iload_n 1, 1) := by decide +kernel
theorem dX8_view_94 : decode cX8_view 94 = .ok (.invokevirtual 136, 3) := by decide +kernel
theorem dX8_view_97 : decode cX8_view 97 = .ok (.ireturn, 1) := by decide +kernel
theorem dX8_view_98 : decode cX8_view 98 = .ok (.aload_n 0, 1) := by decide +kernel
theorem dX8_view_99 : decode cX8_view 99 = .ok (.getfield 13, 3) := by decide +kernel
theorem dX8_view_102 : decode cX8_view 102 = .ok (.iload_n 1, 1) := by decide +kernel
theorem dX8_view_103 : decode cX8_view 103 = .ok (.iaload, 1) := by decide +kernel
theorem dX8_view_104 : decode cX8_view 104 = .ok (.ireturn, 1) := by decide +kernel
theorem dX8_view_105 : decode cX8_view 105 = .ok (.iload_n 3, 1) := by decide +kernel
theorem dX8_view_106 : decode cX8_view 106 = .ok (.ifCond .lt 7, 3) := by decide +kernel
theorem dX8_view_109 : decode cX8_view 109 = .ok (.iconst 1, 1) := by decide +kernel
theorem dX8_view_110 : decode cX8_view 110 = .ok (.goto 4, 3) := by decide +kernel
theorem dX8_view_113 : decode cX8_view 113 = .ok (.iconst 0, 1) := by decide +kernel
theorem dX8_view_114 : decode cX8_view 114 = .ok (.ireturn, 1) := by decide +kernel
theorem dX8_view_115 : decode cX8_view 115 = .ok (.iload_n 3, 1) := by decide +kernel
theorem dX8_view_116 : decode cX8_view 116 = .ok (.ifCond .lt 8, 3) := by decide +kernel
theorem dX8_view_119 : decode cX8_view 119 = .ok (.iload 4, 2) := by decide +kernel
theorem dX8_view_121 : decode cX8_view 121 = .ok (.goto 6, 3) := by decide +kernel
theorem dX8_view_124 : decode cX8_view 124 = .ok (.sipush (-10005), 3) := by decide +kernel
theorem dX8_view_127 : decode cX8_view 127 = .ok (.ireturn, 1) := by decide +kernel
theorem dX8_view_128 : decode cX8_view 128 = .ok (.sipush (-10002), 3) := by decide +kernel
theorem dX8_view_131 : decode cX8_view 131 = .ok (.ireturn, 1) := by decide +kernel
theorem dX8_compared_0 : decode cX8_compared 0 = .ok (.aload_n 0, 1) := by decide +kernel
theorem dX8_compared_1 : decode cX8_compared 1 = .ok (.aload_n 1, 1) := by decide +kernel
theorem dX8_compared_2 : decode cX8_compared 2 = .ok (.iconst 5, 1) := by decide +kernel
theorem dX8_compared_3 : decode cX8_compared 3 = .ok (.iload_n 2, 1) := by decide +kernel
theorem dX8_compared_4 : decode cX8_compared 4 = .ok (.imul, 1) := by decide +kernel
theorem dX8_compared_5 : decode cX8_compared 5 = .ok (.aload_n 1, 1) := by decide +kernel
theorem dX8_compared_6 : decode cX8_compared 6 = .ok (.iconst 5, 1) := by decide +kernel
theorem dX8_compared_7 : decode cX8_compared 7 = .ok (.iload_n 3, 1) := by decide +kernel
theorem dX8_compared_8 : decode cX8_compared 8 = .ok (.imul, 1) := by decide +kernel
theorem dX8_compared_9 : decode cX8_compared 9 = .ok (.invokevirtual 87, 3) := by decide +kernel
theorem dX8_compared_12 : decode cX8_compared 12 = .ok (.istore 4, 2) := by decide +kernel
theorem dX8_compared_14 : decode cX8_compared 14 = .ok (.aload_n 0, 1) := by decide +kernel
theorem dX8_compared_15 : decode cX8_compared 15 = .ok (.aload_n 1, 1) := by decide +kernel
theorem dX8_compared_16 : decode cX8_compared 16 = .ok (.iconst 5, 1) := by decide +kernel
theorem dX8_compared_17 : decode cX8_compared 17 = .ok (.iload_n 3, 1) := by decide +kernel
theorem dX8_compared_18 : decode cX8_compared 18 = .ok (.imul, 1) := by decide +kernel
theorem dX8_compared_19 : decode cX8_compared 19 = .ok (.aload_n 1, 1) := by decide +kernel
theorem dX8_compared_20 : decode cX8_compared 20 = .ok (.iconst 5, 1) := by decide +kernel
theorem dX8_compared_21 : decode cX8_compared 21 = .ok (.iload_n 2, 1) := by decide +kernel
theorem dX8_compared_22 : decode cX8_compared 22 = .ok (.imul, 1) := by decide +kernel
theorem dX8_compared_23 : decode cX8_compared 23 = .ok (.invokevirtual 87, 3) := by decide +kernel
theorem dX8_compared_26 : decode cX8_compared 26 = .ok (.istore 5, 2) := by decide +kernel
theorem dX8_compared_28 : decode cX8_compared 28 = .ok (.iload 4, 2) := by decide +kernel
theorem dX8_compared_30 : decode cX8_compared 30 = .ok (.ifCond .eq 12, 3) := by decide +kernel
theorem dX8_compared_33 : decode cX8_compared 33 = .ok (.iload 5, 2) := by decide +kernel
theorem dX8_compared_35 : decode cX8_compared 35 = .ok (.ifCond .eq 7, 3) := by decide +kernel
theorem dX8_compared_38 : decode cX8_compared 38 = .ok (.iconst 0, 1) := by decide +kernel
theorem dX8_compared_39 : decode cX8_compared 39 = .ok (.goto 22, 3) := by decide +kernel
theorem dX8_compared_42 : decode cX8_compared 42 = .ok (.iload 4, 2) := by decide +kernel
theorem dX8_compared_44 : decode cX8_compared 44 = .ok (.ifCond .eq 7, 3) := by decide +kernel
theorem dX8_compared_47 : decode cX8_compared 47 = .ok (.iconst (-1), 1) := by decide +kernel
theorem dX8_compared_48 : decode cX8_compared 48 = .ok (.goto 13, 3) := by decide +kernel
theorem dX8_compared_51 : decode cX8_compared 51 = .ok (.iload 5, 2) := by decide +kernel
theorem dX8_compared_53 : decode cX8_compared 53 = .ok (.ifCond .eq 7, 3) := by decide +kernel
theorem dX8_compared_56 : decode cX8_compared 56 = .ok (.iconst 1, 1) := by decide +kernel
theorem dX8_compared_57 : decode cX8_compared 57 = .ok (.goto 4, 3) := by decide +kernel
theorem dX8_compared_60 : decode cX8_compared 60 = .ok (.iconst 2, 1) := by decide +kernel
theorem dX8_compared_61 : decode cX8_compared 61 = .ok (.ireturn, 1) := by decide +kernel
theorem dX8_compare_0 : decode cX8_compare 0 = .ok (.aload_n 0, 1) := by decide +kernel
theorem dX8_compare_1 : decode cX8_compare 1 = .ok (.iload_n 1, 1) := by decide +kernel
theorem dX8_compare_2 : decode cX8_compare 2 = .ok (.invokevirtual 126, 3) := by decide +kernel
theorem dX8_compare_5 : decode cX8_compare 5 = .ok (.ifCond .ne 11, 3) := by decide +kernel
theorem dX8_compare_8 : decode cX8_compare 8 = .ok (.aload_n 0, 1) := by decide +kernel
theorem dX8_compare_9 : decode cX8_compare 9 = .ok (.iload_n 2, 1) := by decide +kernel
theorem dX8_compare_10 : decode cX8_compare 10 = .ok (.invokevirtual 126, 3) := by decide +kernel
theorem dX8_compare_13 : decode cX8_compare 13 = .ok (.ifCond .eq 7, 3) := by decide +kernel
theorem dX8_compare_16 : decode cX8_compare 16 = .ok (.sipush (-10001), 3) := by decide +kernel
theorem dX8_compare_19 : decode cX8_compare 19 = .ok (.ireturn, 1) := by decide +kernel
theorem dX8_compare_20 : decode cX8_compare 20 = .ok (.iload_n 3, 1) := by decide +kernel
theorem dX8_compare_21 : decode cX8_compare 21 = .ok (.ifCond .eq 16, 3) := by decide +kernel
theorem dX8_compare_24 : decode cX8_compare 24 = .ok (.aload_n 0, 1) := by decide +kernel
theorem dX8_compare_25 : decode cX8_compare 25 = .ok (.aload_n 0, 1) := by decide +kernel
theorem dX8_compare_26 : decode cX8_compare 26 = .ok (.getfield 38, 3) := by decide +kernel
theorem dX8_compare_29 : decode cX8_compare 29 = .ok (.iload_n 1, 1) := by decide +kernel
theorem dX8_compare_30 : decode cX8_compare 30 = .ok (.iload_n 2, 1) := by decide +kernel
theorem dX8_compare_31 : decode cX8_compare 31 = .ok (.invokevirtual 142, 3) := by decide +kernel
theorem dX8_compare_34 : decode cX8_compare 34 = .ok (.goto 13, 3) := by decide +kernel
theorem dX8_compare_37 : decode cX8_compare 37 = .ok (.aload_n 0, 1) := by decide +kernel
theorem dX8_compare_38 : decode cX8_compare 38 = .ok (.aload_n 0, 1) := by decide +kernel
theorem dX8_compare_39 : decode cX8_compare 39 = .ok (.getfield 35, 3) := by decide +kernel
theorem dX8_compare_42 : decode cX8_compare 42 = .ok (.iload_n 1, 1) := by decide +kernel
theorem dX8_compare_43 : decode cX8_compare 43 = .ok (.iload_n 2, 1) := by decide +kernel
theorem dX8_compare_44 : decode cX8_compare 44 = .ok (.invokevirtual 142, 3) := by decide +kernel
theorem dX8_compare_47 : decode cX8_compare 47 = .ok (.ireturn, 1) := by decide +kernel
theorem dX8_forkedPairs_0 : decode cX8_forkedPairs 0 = .ok (.iconst 0, 1) := by decide +kernel
theorem dX8_forkedPairs_1 : decode cX8_forkedPairs 1 = .ok (.istore_n 1, 1) := by decide +kernel
theorem dX8_forkedPairs_2 : decode cX8_forkedPairs 2 = .ok (.iconst 0, 1) := by decide +kernel
theorem dX8_forkedPairs_3 : decode cX8_forkedPairs 3 = .ok (.istore_n 2, 1) := by decide +kernel
theorem dX8_forkedPairs_4 : decode cX8_forkedPairs 4 = .ok (.iload_n 2, 1) := by decide +kernel
theorem dX8_forkedPairs_5 : decode cX8_forkedPairs 5 = .ok (.aload_n 0, 1) := by decide +kernel
theorem dX8_forkedPairs_6 : decode cX8_forkedPairs 6 = .ok (.getfield 73, 3) := by decide +kernel
theorem dX8_forkedPairs_9 : decode cX8_forkedPairs 9 = .ok (.if_icmp .ge 44, 3) := by decide +kernel
theorem dX8_forkedPairs_12 : decode cX8_forkedPairs 12 = .ok (.iconst 0, 1) := by decide +kernel
theorem dX8_forkedPairs_13 : decode cX8_forkedPairs 13 = .ok (.istore_n 3, 1) := by decide +kernel
theorem dX8_forkedPairs_14 : decode cX8_forkedPairs 14 = .ok (.iload_n 3, 1) := by decide +kernel
theorem dX8_forkedPairs_15 : decode cX8_forkedPairs 15 = .ok (.iload_n 2, 1) := by decide +kernel
theorem dX8_forkedPairs_16 : decode cX8_forkedPairs 16 = .ok (.if_icmp .ge 31, 3) := by decide +kernel
theorem dX8_forkedPairs_19 : decode cX8_forkedPairs 19 = .ok (.iload_n 1, 1) := by decide +kernel
theorem dX8_forkedPairs_20 : decode cX8_forkedPairs 20 = .ok (.aload_n 0, 1) := by decide +kernel
theorem dX8_forkedPairs_21 : decode cX8_forkedPairs 21 = .ok (.aload_n 0, 1) := by decide +kernel
theorem dX8_forkedPairs_22 : decode cX8_forkedPairs 22 = .ok (.getfield 38, 3) := by decide +kernel
theorem dX8_forkedPairs_25 : decode cX8_forkedPairs 25 = .ok (.iload_n 2, 1) := by decide +kernel
theorem dX8_forkedPairs_26 : decode cX8_forkedPairs 26 = .ok (.iload_n 3, 1) := by decide +kernel
theorem dX8_forkedPairs_27 : decode cX8_forkedPairs 27 = .ok (.invokevirtual 142, 3) := by decide +kernel
theorem dX8_forkedPairs_30 : decode cX8_forkedPairs 30 = .ok (.iconst 2, 1) := by decide +kernel
theorem dX8_forkedPairs_31 : decode cX8_forkedPairs 31 = .ok (.if_icmp .ne 7, 3) := by decide +kernel
theorem dX8_forkedPairs_34 : decode cX8_forkedPairs 34 = .ok (.iconst 1, 1) := by decide +kernel
theorem dX8_forkedPairs_35 : decode cX8_forkedPairs 35 = .ok (.goto 4, 3) := by decide +kernel
theorem dX8_forkedPairs_38 : decode cX8_forkedPairs 38 = .ok (.iconst 0, 1) := by decide +kernel
theorem dX8_forkedPairs_39 : decode cX8_forkedPairs 39 = .ok (.iadd, 1) := by decide +kernel
theorem dX8_forkedPairs_40 : decode cX8_forkedPairs 40 = .ok (.istore_n 1, 1) := by decide +kernel
theorem dX8_forkedPairs_41 : decode cX8_forkedPairs 41 = .ok (.iinc 3 1, 3) := by decide +kernel
theorem dX8_forkedPairs_44 : decode cX8_forkedPairs 44 = .ok (.goto (-30), 3) := by decide +kernel
theorem dX8_forkedPairs_47 : decode cX8_forkedPairs 47 = .ok (.iinc 2 1, 3) := by decide +kernel
theorem dX8_forkedPairs_50 : decode cX8_forkedPairs 50 = .ok (.goto (-46), 3) := by decide +kernel
theorem dX8_forkedPairs_53 : decode cX8_forkedPairs 53 = .ok (.iload_n 1, 1) := by decide +kernel
theorem dX8_forkedPairs_54 : decode cX8_forkedPairs 54 = .ok (.ireturn, 1) := by decide +kernel
theorem dX8_tellingLetter_0 : decode cX8_tellingLetter 0 = .ok (.iconst 0, 1) := by decide +kernel
theorem dX8_tellingLetter_1 : decode cX8_tellingLetter 1 = .ok (.istore_n 1, 1) := by decide +kernel
theorem dX8_tellingLetter_2 : decode cX8_tellingLetter 2 = .ok (.iload_n 1, 1) := by decide +kernel
theorem dX8_tellingLetter_3 : decode cX8_tellingLetter 3 = .ok (.aload_n 0, 1) := by decide +kernel
theorem dX8_tellingLetter_4 : decode cX8_tellingLetter 4 = .ok (.getfield 73, 3) := by decide +kernel
theorem dX8_tellingLetter_7 : decode cX8_tellingLetter 7 = .ok (.if_icmp .ge 55, 3) := by decide +kernel
theorem dX8_tellingLetter_10 : decode cX8_tellingLetter 10 = .ok (.iconst 0, 1) := by decide +kernel
theorem dX8_tellingLetter_11 : decode cX8_tellingLetter 11 = .ok (.istore_n 2, 1) := by decide +kernel
theorem dX8_tellingLetter_12 : decode cX8_tellingLetter 12 = .ok (.iload_n 2, 1) := by decide +kernel
theorem dX8_tellingLetter_13 : decode cX8_tellingLetter 13 = .ok (.aload_n 0, 1) := by decide +kernel
theorem dX8_tellingLetter_14 : decode cX8_tellingLetter 14 = .ok (.getfield 73, 3) := by decide +kernel
theorem dX8_tellingLetter_17 : decode cX8_tellingLetter 17 = .ok (.if_icmp .ge 39, 3) := by decide +kernel
theorem dX8_tellingLetter_20 : decode cX8_tellingLetter 20 = .ok (.aload_n 0, 1) := by decide +kernel
theorem dX8_tellingLetter_21 : decode cX8_tellingLetter 21 = .ok (.getfield 22, 3) := by decide +kernel
theorem dX8_tellingLetter_24 : decode cX8_tellingLetter 24 = .ok (.iload_n 2, 1) := by decide +kernel
theorem dX8_tellingLetter_25 : decode cX8_tellingLetter 25 = .ok (.iaload, 1) := by decide +kernel
theorem dX8_tellingLetter_26 : decode cX8_tellingLetter 26 = .ok (.ifCond .ne 24, 3) := by decide +kernel
theorem dX8_tellingLetter_29 : decode cX8_tellingLetter 29 = .ok (.aload_n 0, 1) := by decide +kernel
theorem dX8_tellingLetter_30 : decode cX8_tellingLetter 30 = .ok (.aload_n 0, 1) := by decide +kernel
theorem dX8_tellingLetter_31 : decode cX8_tellingLetter 31 = .ok (.getfield 38, 3) := by decide +kernel
theorem dX8_tellingLetter_34 : decode cX8_tellingLetter 34 = .ok (.iload_n 1, 1) := by decide +kernel
theorem dX8_tellingLetter_35 : decode cX8_tellingLetter 35 = .ok (.iload_n 2, 1) := by decide +kernel
theorem dX8_tellingLetter_36 : decode cX8_tellingLetter 36 = .ok (.invokevirtual 142, 3) := by decide +kernel
theorem dX8_tellingLetter_39 : decode cX8_tellingLetter 39 = .ok (.iconst 2, 1) := by decide +kernel
theorem dX8_tellingLetter_40 : decode cX8_tellingLetter 40 = .ok (.if_icmp .ne 10, 3) := by decide +kernel
theorem dX8_tellingLetter_43 : decode cX8_tellingLetter 43 = .ok (.bipush 10, 2) := by decide +kernel
theorem dX8_tellingLetter_45 : decode cX8_tellingLetter 45 = .ok (.iload_n 1, 1) := by decide +kernel
theorem dX8_tellingLetter_46 : decode cX8_tellingLetter 46 = .ok (.imul, 1) := by decide +kernel
theorem dX8_tellingLetter_47 : decode cX8_tellingLetter 47 = .ok (.iload_n 2, 1) := by decide +kernel
theorem dX8_tellingLetter_48 : decode cX8_tellingLetter 48 = .ok (.iadd, 1) := by decide +kernel
theorem dX8_tellingLetter_49 : decode cX8_tellingLetter 49 = .ok (.ireturn, 1) := by decide +kernel
theorem dX8_tellingLetter_50 : decode cX8_tellingLetter 50 = .ok (.iinc 2 1, 3) := by decide +kernel
theorem dX8_tellingLetter_53 : decode cX8_tellingLetter 53 = .ok (.goto (-41), 3) := by decide +kernel
theorem dX8_tellingLetter_56 : decode cX8_tellingLetter 56 = .ok (.iinc 1 1, 3) := by decide +kernel
theorem dX8_tellingLetter_59 : decode cX8_tellingLetter 59 = .ok (.goto (-57), 3) := by decide +kernel
theorem dX8_tellingLetter_62 : decode cX8_tellingLetter 62 = .ok (.sipush (-10005), 3) := by decide +kernel
theorem dX8_tellingLetter_65 : decode cX8_tellingLetter 65 = .ok (.ireturn, 1) := by decide +kernel
theorem dX8_unaware_0 : decode cX8_unaware 0 = .ok (.iconst 0, 1) := by decide +kernel
theorem dX8_unaware_1 : decode cX8_unaware 1 = .ok (.istore_n 1, 1) := by decide +kernel
theorem dX8_unaware_2 : decode cX8_unaware 2 = .ok (.iconst 0, 1) := by decide +kernel
theorem dX8_unaware_3 : decode cX8_unaware 3 = .ok (.istore_n 2, 1) := by decide +kernel
theorem dX8_unaware_4 : decode cX8_unaware 4 = .ok (.iload_n 2, 1) := by decide +kernel
theorem dX8_unaware_5 : decode cX8_unaware 5 = .ok (.aload_n 0, 1) := by decide +kernel
theorem dX8_unaware_6 : decode cX8_unaware 6 = .ok (.getfield 73, 3) := by decide +kernel
theorem dX8_unaware_9 : decode cX8_unaware 9 = .ok (.if_icmp .ge 89, 3) := by decide +kernel
theorem dX8_unaware_12 : decode cX8_unaware 12 = .ok (.aload_n 0, 1) := by decide +kernel
theorem dX8_unaware_13 : decode cX8_unaware 13 = .ok (.getfield 22, 3) := by decide +kernel
theorem dX8_unaware_16 : decode cX8_unaware 16 = .ok (.iload_n 2, 1) := by decide +kernel
theorem dX8_unaware_17 : decode cX8_unaware 17 = .ok (.iaload, 1) := by decide +kernel
theorem dX8_unaware_18 : decode cX8_unaware 18 = .ok (.ifCond .ne 15, 3) := by decide +kernel
theorem dX8_unaware_21 : decode cX8_unaware 21 = .ok (.aload_n 0, 1) := by decide +kernel
theorem dX8_unaware_22 : decode cX8_unaware 22 = .ok (.iload_n 2, 1) := by decide +kernel
theorem dX8_unaware_23 : decode cX8_unaware 23 = .ok (.invokevirtual 116, 3) := by decide +kernel
theorem dX8_unaware_26 : decode cX8_unaware 26 = .ok (.ifCond .ne 7, 3) := by decide +kernel
theorem dX8_unaware_29 : decode cX8_unaware 29 = .ok (.iconst 1, 1) := by decide +kernel
theorem dX8_unaware_30 : decode cX8_unaware 30 = .ok (.goto 4, 3) := by decide +kernel
theorem dX8_unaware_33 : decode cX8_unaware 33 = .ok (.iconst 0, 1) := by decide +kernel
theorem dX8_unaware_34 : decode cX8_unaware 34 = .ok (.istore_n 3, 1) := by decide +kernel
theorem dX8_unaware_35 : decode cX8_unaware 35 = .ok (.iconst 0, 1) := by decide +kernel
theorem dX8_unaware_36 : decode cX8_unaware 36 = .ok (.istore 4, 2) := by decide +kernel
theorem dX8_unaware_38 : decode cX8_unaware 38 = .ok (.iload 4, 2) := by decide +kernel
theorem dX8_unaware_40 : decode cX8_unaware 40 = .ok (.aload_n 0, 1) := by decide +kernel
theorem dX8_unaware_41 : decode cX8_unaware 41 = .ok (.getfield 73, 3) := by decide +kernel
theorem dX8_unaware_44 : decode cX8_unaware 44 = .ok (.if_icmp .ge 34, 3) := by decide +kernel
theorem dX8_unaware_47 : decode cX8_unaware 47 = .ok (.iload_n 3, 1) := by decide +kernel
theorem dX8_unaware_48 : decode cX8_unaware 48 = .ok (.ifCond .eq 22, 3) := by decide +kernel
theorem dX8_unaware_51 : decode cX8_unaware 51 = .ok (.aload_n 0, 1) := by decide +kernel
theorem dX8_unaware_52 : decode cX8_unaware 52 = .ok (.aload_n 0, 1) := by decide +kernel
theorem dX8_unaware_53 : decode cX8_unaware 53 = .ok (.getfield 38, 3) := by decide +kernel
theorem dX8_unaware_56 : decode cX8_unaware 56 = .ok (.iload_n 2, 1) := by decide +kernel
theorem dX8_unaware_57 : decode cX8_unaware 57 = .ok (.iload 4, 2) := by decide +kernel
theorem dX8_unaware_59 : decode cX8_unaware 59 = .ok (.invokevirtual 142, 3) := by decide +kernel
theorem dX8_unaware_62 : decode cX8_unaware 62 = .ok (.iconst 2, 1) := by decide +kernel
theorem dX8_unaware_63 : decode cX8_unaware 63 = .ok (.if_icmp .ge 7, 3) := by decide +kernel
theorem dX8_unaware_66 : decode cX8_unaware 66 = .ok (.iconst 1, 1) := by decide +kernel
theorem dX8_unaware_67 : decode cX8_unaware 67 = .ok (.goto 4, 3) := by decide +kernel
theorem dX8_unaware_70 : decode cX8_unaware 70 = .ok (.iconst 0, 1) := by decide +kernel
theorem dX8_unaware_71 : decode cX8_unaware 71 = .ok (.istore_n 3, 1) := by decide +kernel
theorem dX8_unaware_72 : decode cX8_unaware 72 = .ok (.iinc 4 1, 3) := by decide +kernel
theorem dX8_unaware_75 : decode cX8_unaware 75 = .ok (.goto (-37), 3) := by decide +kernel
theorem dX8_unaware_78 : decode cX8_unaware 78 = .ok (.iload_n 1, 1) := by decide +kernel
theorem dX8_unaware_79 : decode cX8_unaware 79 = .ok (.iload_n 3, 1) := by decide +kernel
theorem dX8_unaware_80 : decode cX8_unaware 80 = .ok (.ifCond .eq 9, 3) := by decide +kernel
theorem dX8_unaware_83 : decode cX8_unaware 83 = .ok (.iconst 1, 1) := by decide +kernel
theorem dX8_unaware_84 : decode cX8_unaware 84 = .ok (.iload_n 2, 1) := by decide +kernel
theorem dX8_unaware_85 : decode cX8_unaware 85 = .ok (.ishl, 1) := by decide +kernel
theorem dX8_unaware_86 : decode cX8_unaware 86 = .ok (.goto 4, 3) := by decide +kernel
theorem dX8_unaware_89 : decode cX8_unaware 89 = .ok (.iconst 0, 1) := by decide +kernel
theorem dX8_unaware_90 : decode cX8_unaware 90 = .ok (.ior, 1) := by decide +kernel
theorem dX8_unaware_91 : decode cX8_unaware 91 = .ok (.istore_n 1, 1) := by decide +kernel
theorem dX8_unaware_92 : decode cX8_unaware 92 = .ok (.iinc 2 1, 3) := by decide +kernel
theorem dX8_unaware_95 : decode cX8_unaware 95 = .ok (.goto (-91), 3) := by decide +kernel
theorem dX8_unaware_98 : decode cX8_unaware 98 = .ok (.iload_n 1, 1) := by decide +kernel
theorem dX8_unaware_99 : decode cX8_unaware 99 = .ok (.ireturn, 1) := by decide +kernel
theorem dX8_type_0 : decode cX8_type 0 = .ok (.aload_n 0, 1) := by decide +kernel
theorem dX8_type_1 : decode cX8_type 1 = .ok (.getfield 146, 3) := by decide +kernel
theorem dX8_type_4 : decode cX8_type 4 = .ok (.bipush 60, 2) := by decide +kernel
theorem dX8_type_6 : decode cX8_type 6 = .ok (.if_icmp .ne 7, 3) := by decide +kernel
theorem dX8_type_9 : decode cX8_type 9 = .ok (.sipush (-10004), 3) := by decide +kernel
theorem dX8_type_12 : decode cX8_type 12 = .ok (.ireturn, 1) := by decide +kernel
theorem dX8_type_13 : decode cX8_type 13 = .ok (.aload_n 0, 1) := by decide +kernel
theorem dX8_type_14 : decode cX8_type 14 = .ok (.getfield 65, 3) := by decide +kernel
theorem dX8_type_17 : decode cX8_type 17 = .ok (.aload_n 0, 1) := by decide +kernel
theorem dX8_type_18 : decode cX8_type 18 = .ok (.getfield 146, 3) := by decide +kernel
theorem dX8_type_21 : decode cX8_type 21 = .ok (.iload_n 1, 1) := by decide +kernel
theorem dX8_type_22 : decode cX8_type 22 = .ok (.castore, 1) := by decide +kernel
theorem dX8_type_23 : decode cX8_type 23 = .ok (.aload_n 0, 1) := by decide +kernel
theorem dX8_type_24 : decode cX8_type 24 = .ok (.dup, 1) := by decide +kernel
theorem dX8_type_25 : decode cX8_type 25 = .ok (.getfield 146, 3) := by decide +kernel
theorem dX8_type_28 : decode cX8_type 28 = .ok (.iconst 1, 1) := by decide +kernel
theorem dX8_type_29 : decode cX8_type 29 = .ok (.iadd, 1) := by decide +kernel
theorem dX8_type_30 : decode cX8_type 30 = .ok (.putfield 146, 3) := by decide +kernel
theorem dX8_type_33 : decode cX8_type 33 = .ok (.aload_n 0, 1) := by decide +kernel
theorem dX8_type_34 : decode cX8_type 34 = .ok (.getfield 146, 3) := by decide +kernel
theorem dX8_type_37 : decode cX8_type 37 = .ok (.ireturn, 1) := by decide +kernel
theorem dX8_clearText_0 : decode cX8_clearText 0 = .ok (.aload_n 0, 1) := by decide +kernel
theorem dX8_clearText_1 : decode cX8_clearText 1 = .ok (.getfield 146, 3) := by decide +kernel
theorem dX8_clearText_4 : decode cX8_clearText 4 = .ok (.istore_n 1, 1) := by decide +kernel
theorem dX8_clearText_5 : decode cX8_clearText 5 = .ok (.aload_n 0, 1) := by decide +kernel
theorem dX8_clearText_6 : decode cX8_clearText 6 = .ok (.iconst 0, 1) := by decide +kernel
theorem dX8_clearText_7 : decode cX8_clearText 7 = .ok (.putfield 146, 3) := by decide +kernel
theorem dX8_clearText_10 : decode cX8_clearText 10 = .ok (.iload_n 1, 1) := by decide +kernel
theorem dX8_clearText_11 : decode cX8_clearText 11 = .ok (.ireturn, 1) := by decide +kernel
theorem dX8_isCommand_0 : decode cX8_isCommand 0 = .ok (.iload_n 0, 1) := by decide +kernel
theorem dX8_isCommand_1 : decode cX8_isCommand 1 = .ok (.bipush 119, 2) := by decide +kernel
theorem dX8_isCommand_3 : decode cX8_isCommand 3 = .ok (.if_icmp .eq 27, 3) := by decide +kernel
theorem dX8_isCommand_6 : decode cX8_isCommand 6 = .ok (.iload_n 0, 1) := by decide +kernel
theorem dX8_isCommand_7 : decode cX8_isCommand 7 = .ok (.bipush 114, 2) := by decide +kernel
theorem dX8_isCommand_9 : decode cX8_isCommand 9 = .ok (.if_icmp .eq 21, 3) := by decide +kernel
theorem dX8_isCommand_12 : decode cX8_isCommand 12 = .ok (.iload_n 0, 1) := by decide +kernel
theorem dX8_isCommand_13 : decode cX8_isCommand 13 = .ok (.bipush 115, 2) := by decide +kernel
theorem dX8_isCommand_15 : decode cX8_isCommand 15 = .ok (.if_icmp .eq 15, 3) := by decide +kernel
theorem dX8_isCommand_18 : decode cX8_isCommand 18 = .ok (.iload_n 0, 1) := by decide +kernel
theorem dX8_isCommand_19 : decode cX8_isCommand 19 = .ok (.bipush 103, 2) := by decide +kernel
theorem dX8_isCommand_21 : decode cX8_isCommand 21 = .ok (.if_icmp .eq 9, 3) := by decide +kernel
theorem dX8_isCommand_24 : decode cX8_isCommand 24 = .ok (.iload_n 0, 1) := by decide +kernel
theorem dX8_isCommand_25 : decode cX8_isCommand 25 = .ok (.bipush 109, 2) := by decide +kernel
theorem dX8_isCommand_27 : decode cX8_isCommand 27 = .ok (.if_icmp .ne 7, 3) := by decide +kernel
theorem dX8_isCommand_30 : decode cX8_isCommand 30 = .ok (.iconst 1, 1) := by decide +kernel
theorem dX8_isCommand_31 : decode cX8_isCommand 31 = .ok (.goto 4, 3) := by decide +kernel
theorem dX8_isCommand_34 : decode cX8_isCommand 34 = .ok (.iconst 0, 1) := by decide +kernel
theorem dX8_isCommand_35 : decode cX8_isCommand 35 = .ok (.ireturn, 1) := by decide +kernel
theorem dX8_fault_0 : decode cX8_fault 0 = .ok (.iconst 0, 1) := by decide +kernel
theorem dX8_fault_1 : decode cX8_fault 1 = .ok (.istore_n 1, 1) := by decide +kernel
theorem dX8_fault_2 : decode cX8_fault 2 = .ok (.iload_n 1, 1) := by decide +kernel
theorem dX8_fault_3 : decode cX8_fault 3 = .ok (.aload_n 0, 1) := by decide +kernel
theorem dX8_fault_4 : decode cX8_fault 4 = .ok (.getfield 146, 3) := by decide +kernel
theorem dX8_fault_7 : decode cX8_fault 7 = .ok (.if_icmp .ge 61, 3) := by decide +kernel
theorem dX8_fault_10 : decode cX8_fault 10 = .ok (.iload_n 1, 1) := by decide +kernel
theorem dX8_fault_11 : decode cX8_fault 11 = .ok (.iconst 3, 1) := by decide +kernel
theorem dX8_fault_12 : decode cX8_fault 12 = .ok (.irem, 1) := by decide +kernel
theorem dX8_fault_13 : decode cX8_fault 13 = .ok (.ifCond .ne 15, 3) := by decide +kernel
theorem dX8_fault_16 : decode cX8_fault 16 = .ok (.aload_n 0, 1) := by decide +kernel
theorem dX8_fault_17 : decode cX8_fault 17 = .ok (.getfield 65, 3) := by decide +kernel
theorem dX8_fault_20 : decode cX8_fault 20 = .ok (.iload_n 1, 1) := by decide +kernel
theorem dX8_fault_21 : decode cX8_fault 21 = .ok (.caload, 1) := by decide +kernel
theorem dX8_fault_22 : decode cX8_fault 22 = .ok (.invokestatic 149, 3) := by decide +kernel
theorem dX8_fault_25 : decode cX8_fault 25 = .ok (.goto 30, 3) := by decide +kernel
theorem dX8_fault_28 : decode cX8_fault 28 = .ok (.aload_n 0, 1) := by decide +kernel
theorem dX8_fault_29 : decode cX8_fault 29 = .ok (.getfield 65, 3) := by decide +kernel
theorem dX8_fault_32 : decode cX8_fault 32 = .ok (.iload_n 1, 1) := by decide +kernel
theorem dX8_fault_33 : decode cX8_fault 33 = .ok (.caload, 1) := by decide +kernel
theorem dX8_fault_34 : decode cX8_fault 34 = .ok (.bipush 48, 2) := by decide +kernel
theorem dX8_fault_36 : decode cX8_fault 36 = .ok (.if_icmp .lt 18, 3) := by decide +kernel
theorem dX8_fault_39 : decode cX8_fault 39 = .ok (.aload_n 0, 1) := by decide +kernel
theorem dX8_fault_40 : decode cX8_fault 40 = .ok (.getfield 65, 3) := by decide +kernel
theorem dX8_fault_43 : decode cX8_fault 43 = .ok (.iload_n 1, 1) := by decide +kernel
theorem dX8_fault_44 : decode cX8_fault 44 = .ok (.caload, 1) := by decide +kernel
theorem dX8_fault_45 : decode cX8_fault 45 = .ok (.bipush 57, 2) := by decide +kernel
theorem dX8_fault_47 : decode cX8_fault 47 = .ok (.if_icmp .gt 7, 3) := by decide +kernel
theorem dX8_fault_50 : decode cX8_fault 50 = .ok (.iconst 1, 1) := by decide +kernel
theorem dX8_fault_51 : decode cX8_fault 51 = .ok (.goto 4, 3) := by decide +kernel
theorem dX8_fault_54 : decode cX8_fault 54 = .ok (.iconst 0, 1) := by decide +kernel
theorem dX8_fault_55 : decode cX8_fault 55 = .ok (.istore_n 2, 1) := by decide +kernel
theorem dX8_fault_56 : decode cX8_fault 56 = .ok (.iload_n 2, 1) := by decide +kernel
theorem dX8_fault_57 : decode cX8_fault 57 = .ok (.ifCond .ne 5, 3) := by decide +kernel
theorem dX8_fault_60 : decode cX8_fault 60 = .ok (.iload_n 1, 1) := by decide +kernel
theorem dX8_fault_61 : decode cX8_fault 61 = .ok (.ireturn, 1) := by decide +kernel
theorem dX8_fault_62 : decode cX8_fault 62 = .ok (.iinc 1 1, 3) := by decide +kernel
theorem dX8_fault_65 : decode cX8_fault 65 = .ok (.goto (-63), 3) := by decide +kernel
theorem dX8_fault_68 : decode cX8_fault 68 = .ok (.aload_n 0, 1) := by decide +kernel
theorem dX8_fault_69 : decode cX8_fault 69 = .ok (.getfield 146, 3) := by decide +kernel
theorem dX8_fault_72 : decode cX8_fault 72 = .ok (.iconst 3, 1) := by decide +kernel
theorem dX8_fault_73 : decode cX8_fault 73 = .ok (.irem, 1) := by decide +kernel
theorem dX8_fault_74 : decode cX8_fault 74 = .ok (.ifCond .ne 9, 3) := by decide +kernel
theorem dX8_fault_77 : decode cX8_fault 77 = .ok (.sipush (-10005), 3) := by decide +kernel
theorem dX8_fault_80 : decode cX8_fault 80 = .ok (.goto 7, 3) := by decide +kernel
theorem dX8_fault_83 : decode cX8_fault 83 = .ok (.aload_n 0, 1) := by decide +kernel
theorem dX8_fault_84 : decode cX8_fault 84 = .ok (.getfield 146, 3) := by decide +kernel
theorem dX8_fault_87 : decode cX8_fault 87 = .ok (.ireturn, 1) := by decide +kernel
theorem dX8_carries_0 : decode cX8_carries 0 = .ok (.iload_n 1, 1) := by decide +kernel
theorem dX8_carries_1 : decode cX8_carries 1 = .ok (.lookupswitch 103 #[(109, 88), (114, 58), (115, 73), (119, 43)], 43) := by decide +kernel
theorem dX8_carries_44 : decode cX8_carries 44 = .ok (.aload_n 0, 1) := by decide +kernel
theorem dX8_carries_45 : decode cX8_carries 45 = .ok (.iload_n 2, 1) := by decide +kernel
theorem dX8_carries_46 : decode cX8_carries 46 = .ok (.iload_n 3, 1) := by decide +kernel
theorem dX8_carries_47 : decode cX8_carries 47 = .ok (.invokevirtual 153, 3) := by decide +kernel
theorem dX8_carries_50 : decode cX8_carries 50 = .ok (.ifCond .lt 7, 3) := by decide +kernel
theorem dX8_carries_53 : decode cX8_carries 53 = .ok (.iconst 1, 1) := by decide +kernel
theorem dX8_carries_54 : decode cX8_carries 54 = .ok (.goto 4, 3) := by decide +kernel
theorem dX8_carries_57 : decode cX8_carries 57 = .ok (.iconst 0, 1) := by decide +kernel
theorem dX8_carries_58 : decode cX8_carries 58 = .ok (.ireturn, 1) := by decide +kernel
theorem dX8_carries_59 : decode cX8_carries 59 = .ok (.aload_n 0, 1) := by decide +kernel
theorem dX8_carries_60 : decode cX8_carries 60 = .ok (.iload_n 2, 1) := by decide +kernel
theorem dX8_carries_61 : decode cX8_carries 61 = .ok (.iload_n 3, 1) := by decide +kernel
theorem dX8_carries_62 : decode cX8_carries 62 = .ok (.invokevirtual 156, 3) := by decide +kernel
theorem dX8_carries_65 : decode cX8_carries 65 = .ok (.ifCond .lt 7, 3) := by decide +kernel
theorem dX8_carries_68 : decode cX8_carries 68 = .ok (.iconst 1, 1) := by decide +kernel
theorem dX8_carries_69 : decode cX8_carries 69 = .ok (.goto 4, 3) := by decide +kernel
theorem dX8_carries_72 : decode cX8_carries 72 = .ok (.iconst 0, 1) := by decide +kernel
theorem dX8_carries_73 : decode cX8_carries 73 = .ok (.ireturn, 1) := by decide +kernel
theorem dX8_carries_74 : decode cX8_carries 74 = .ok (.aload_n 0, 1) := by decide +kernel
theorem dX8_carries_75 : decode cX8_carries 75 = .ok (.iload_n 2, 1) := by decide +kernel
theorem dX8_carries_76 : decode cX8_carries 76 = .ok (.iload_n 3, 1) := by decide +kernel
theorem dX8_carries_77 : decode cX8_carries 77 = .ok (.invokevirtual 159, 3) := by decide +kernel
theorem dX8_carries_80 : decode cX8_carries 80 = .ok (.ifCond .lt 7, 3) := by decide +kernel
theorem dX8_carries_83 : decode cX8_carries 83 = .ok (.iconst 1, 1) := by decide +kernel
theorem dX8_carries_84 : decode cX8_carries 84 = .ok (.goto 4, 3) := by decide +kernel
theorem dX8_carries_87 : decode cX8_carries 87 = .ok (.iconst 0, 1) := by decide +kernel
theorem dX8_carries_88 : decode cX8_carries 88 = .ok (.ireturn, 1) := by decide +kernel
theorem dX8_carries_89 : decode cX8_carries 89 = .ok (.aload_n 0, 1) := by decide +kernel
theorem dX8_carries_90 : decode cX8_carries 90 = .ok (.iload_n 2, 1) := by decide +kernel
theorem dX8_carries_91 : decode cX8_carries 91 = .ok (.iload_n 3, 1) := by decide +kernel
theorem dX8_carries_92 : decode cX8_carries 92 = .ok (.invokevirtual 162, 3) := by decide +kernel
theorem dX8_carries_95 : decode cX8_carries 95 = .ok (.ifCond .lt 7, 3) := by decide +kernel
theorem dX8_carries_98 : decode cX8_carries 98 = .ok (.iconst 1, 1) := by decide +kernel
theorem dX8_carries_99 : decode cX8_carries 99 = .ok (.goto 4, 3) := by decide +kernel
theorem dX8_carries_102 : decode cX8_carries 102 = .ok (.iconst 0, 1) := by decide +kernel
theorem dX8_carries_103 : decode cX8_carries 103 = .ok (.ireturn, 1) := by decide +kernel
theorem dX8_carries_104 : decode cX8_carries 104 = .ok (.aload_n 0, 1) := by decide +kernel
theorem dX8_carries_105 : decode cX8_carries 105 = .ok (.iload_n 2, 1) := by decide +kernel
theorem dX8_carries_106 : decode cX8_carries 106 = .ok (.invokevirtual 126, 3) := by decide +kernel
theorem dX8_carries_109 : decode cX8_carries 109 = .ok (.ifCond .ne 7, 3) := by decide +kernel
theorem dX8_carries_112 : decode cX8_carries 112 = .ok (.iconst 1, 1) := by decide +kernel
theorem dX8_carries_113 : decode cX8_carries 113 = .ok (.goto 4, 3) := by decide +kernel
theorem dX8_carries_116 : decode cX8_carries 116 = .ok (.iconst 0, 1) := by decide +kernel
theorem dX8_carries_117 : decode cX8_carries 117 = .ok (.istore 4, 2) := by decide +kernel
theorem dX8_carries_119 : decode cX8_carries 119 = .ok (.iconst 0, 1) := by decide +kernel
theorem dX8_carries_120 : decode cX8_carries 120 = .ok (.istore 5, 2) := by decide +kernel
theorem dX8_carries_122 : decode cX8_carries 122 = .ok (.iload 5, 2) := by decide +kernel
theorem dX8_carries_124 : decode cX8_carries 124 = .ok (.iload_n 3, 1) := by decide +kernel
theorem dX8_carries_125 : decode cX8_carries 125 = .ok (.if_icmp .ge 29, 3) := by decide +kernel
theorem dX8_carries_128 : decode cX8_carries 128 = .ok (.iload 4, 2) := by decide +kernel
theorem dX8_carries_130 : decode cX8_carries 130 = .ok (.ifCond .eq 24, 3) := by decide +kernel
theorem dX8_carries_133 : decode cX8_carries 133 = .ok (.aload_n 0, 1) := by decide +kernel
theorem dX8_carries_134 : decode cX8_carries 134 = .ok (.iload_n 2, 1) := by decide +kernel
theorem dX8_carries_135 : decode cX8_carries 135 = .ok (.invokevirtual 165, 3) := by decide +kernel
theorem dX8_carries_138 : decode cX8_carries 138 = .ok (.ifCond .lt 7, 3) := by decide +kernel
theorem dX8_carries_141 : decode cX8_carries 141 = .ok (.iconst 1, 1) := by decide +kernel
theorem dX8_carries_142 : decode cX8_carries 142 = .ok (.goto 4, 3) := by decide +kernel
theorem dX8_carries_145 : decode cX8_carries 145 = .ok (.iconst 0, 1) := by decide +kernel
theorem dX8_carries_146 : decode cX8_carries 146 = .ok (.istore 4, 2) := by decide +kernel
theorem dX8_carries_148 : decode cX8_carries 148 = .ok (.iinc 5 1, 3) := by decide +kernel
theorem dX8_carries_151 : decode cX8_carries 151 = .ok (.goto (-29), 3) := by decide +kernel
theorem dX8_carries_154 : decode cX8_carries 154 = .ok (.iload 4, 2) := by decide +kernel
theorem dX8_carries_156 : decode cX8_carries 156 = .ok (.ireturn, 1) := by decide +kernel
theorem dX8_run_0 : decode cX8_run 0 = .ok (.aload_n 0, 1) := by decide +kernel
theorem dX8_run_1 : decode cX8_run 1 = .ok (.invokevirtual 168, 3) := by decide +kernel
theorem dX8_run_4 : decode cX8_run 4 = .ok (.ifCond .lt 11, 3) := by decide +kernel
theorem dX8_run_7 : decode cX8_run 7 = .ok (.bipush (-100), 2) := by decide +kernel
theorem dX8_run_9 : decode cX8_run 9 = .ok (.aload_n 0, 1) := by decide +kernel
theorem dX8_run_10 : decode cX8_run 10 = .ok (.invokevirtual 168, 3) := by decide +kernel
theorem dX8_run_13 : decode cX8_run 13 = .ok (.isub, 1) := by decide +kernel
theorem dX8_run_14 : decode cX8_run 14 = .ok (.ireturn, 1) := by decide +kernel
theorem dX8_run_15 : decode cX8_run 15 = .ok (.iconst 0, 1) := by decide +kernel
theorem dX8_run_16 : decode cX8_run 16 = .ok (.istore_n 1, 1) := by decide +kernel
theorem dX8_run_17 : decode cX8_run 17 = .ok (.iconst 3, 1) := by decide +kernel
theorem dX8_run_18 : decode cX8_run 18 = .ok (.iload_n 1, 1) := by decide +kernel
theorem dX8_run_19 : decode cX8_run 19 = .ok (.imul, 1) := by decide +kernel
theorem dX8_run_20 : decode cX8_run 20 = .ok (.aload_n 0, 1) := by decide +kernel
theorem dX8_run_21 : decode cX8_run 21 = .ok (.getfield 146, 3) := by decide +kernel
theorem dX8_run_24 : decode cX8_run 24 = .ok (.if_icmp .ge 50, 3) := by decide +kernel
theorem dX8_run_27 : decode cX8_run 27 = .ok (.aload_n 0, 1) := by decide +kernel
theorem dX8_run_28 : decode cX8_run 28 = .ok (.aload_n 0, 1) := by decide +kernel
theorem dX8_run_29 : decode cX8_run 29 = .ok (.getfield 65, 3) := by decide +kernel
theorem dX8_run_32 : decode cX8_run 32 = .ok (.iconst 3, 1) := by decide +kernel
theorem dX8_run_33 : decode cX8_run 33 = .ok (.iload_n 1, 1) := by decide +kernel
theorem dX8_run_34 : decode cX8_run 34 = .ok (.imul, 1) := by decide +kernel
theorem dX8_run_35 : decode cX8_run 35 = .ok (.caload, 1) := by decide +kernel
theorem dX8_run_36 : decode cX8_run 36 = .ok (.aload_n 0, 1) := by decide +kernel
theorem dX8_run_37 : decode cX8_run 37 = .ok (.getfield 65, 3) := by decide +kernel
theorem dX8_run_40 : decode cX8_run 40 = .ok (.iconst 3, 1) := by decide +kernel
theorem dX8_run_41 : decode cX8_run 41 = .ok (.iload_n 1, 1) := by decide +kernel
theorem dX8_run_42 : decode cX8_run 42 = .ok (.imul, 1) := by decide +kernel
theorem dX8_run_43 : decode cX8_run 43 = .ok (.iconst 1, 1) := by decide +kernel
theorem dX8_run_44 : decode cX8_run 44 = .ok (.iadd, 1) := by decide +kernel
theorem dX8_run_45 : decode cX8_run 45 = .ok (.caload, 1) := by decide +kernel
theorem dX8_run_46 : decode cX8_run 46 = .ok (.bipush 48, 2) := by decide +kernel
theorem dX8_run_48 : decode cX8_run 48 = .ok (.isub, 1) := by decide +kernel
theorem dX8_run_49 : decode cX8_run 49 = .ok (.aload_n 0, 1) := by decide +kernel
theorem dX8_run_50 : decode cX8_run 50 = .ok (.getfield 65, 3) := by decide +kernel
theorem dX8_run_53 : decode cX8_run 53 = .ok (.iconst 3, 1) := by decide +kernel
theorem dX8_run_54 : decode cX8_run 54 = .ok (.iload_n 1, 1) := by decide +kernel
theorem dX8_run_55 : decode cX8_run 55 = .ok (.imul, 1) := by decide +kernel
theorem dX8_run_56 : decode cX8_run 56 = .ok (.iconst 2, 1) := by decide +kernel
theorem dX8_run_57 : decode cX8_run 57 = .ok (.iadd, 1) := by decide +kernel
theorem dX8_run_58 : decode cX8_run 58 = .ok (.caload, 1) := by decide +kernel
theorem dX8_run_59 : decode cX8_run 59 = .ok (.bipush 48, 2) := by decide +kernel
theorem dX8_run_61 : decode cX8_run 61 = .ok (.isub, 1) := by decide +kernel
theorem dX8_run_62 : decode cX8_run 62 = .ok (.invokevirtual 172, 3) := by decide +kernel
theorem dX8_run_65 : decode cX8_run 65 = .ok (.ifCond .eq 9, 3) := by decide +kernel
theorem dX8_run_68 : decode cX8_run 68 = .ok (.iinc 1 1, 3) := by decide +kernel
theorem dX8_run_71 : decode cX8_run 71 = .ok (.goto (-54), 3) := by decide +kernel
theorem dX8_run_74 : decode cX8_run 74 = .ok (.iload_n 1, 1) := by decide +kernel
theorem dX8_run_75 : decode cX8_run 75 = .ok (.ireturn, 1) := by decide +kernel
