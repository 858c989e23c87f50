theorem dX4_init_0 : decode cX4_init 0 = .ok (.aload_n 0, 1) := by decide +kernel
theorem dX4_init_1 : decode cX4_init 1 = .ok (.invokespecial 1, 3) := by decide +kernel
theorem dX4_init_4 : decode cX4_init 4 = .ok (.aload_n 0, 1) := by decide +kernel
theorem dX4_init_5 : decode cX4_init 5 = .ok (.bipush 16, 2) := by decide +kernel
theorem dX4_init_7 : decode cX4_init 7 = .ok (.newarray .int, 2) := by decide +kernel
theorem dX4_init_9 : decode cX4_init 9 = .ok (.putfield 7, 3) := by decide +kernel
theorem dX4_init_12 : decode cX4_init 12 = .ok (.aload_n 0, 1) := by decide +kernel
theorem dX4_init_13 : decode cX4_init 13 = .ok (.bipush 16, 2) := by decide +kernel
theorem dX4_init_15 : decode cX4_init 15 = .ok (.newarray .int, 2) := by decide +kernel
theorem dX4_init_17 : decode cX4_init 17 = .ok (.putfield 13, 3) := by decide +kernel
theorem dX4_init_20 : decode cX4_init 20 = .ok (.aload_n 0, 1) := by decide +kernel
theorem dX4_init_21 : decode cX4_init 21 = .ok (.bipush 60, 2) := by decide +kernel
theorem dX4_init_23 : decode cX4_init 23 = .ok (.newarray .int, 2) := by decide +kernel
theorem dX4_init_25 : decode cX4_init 25 = .ok (.putfield 16, 3) := by decide +kernel
theorem dX4_init_28 : decode cX4_init 28 = .ok (.aload_n 0, 1) := by decide +kernel
theorem dX4_init_29 : decode cX4_init 29 = .ok (.bipush 60, 2) := by decide +kernel
theorem dX4_init_31 : decode cX4_init 31 = .ok (.newarray .int, 2) := by decide +kernel
theorem dX4_init_33 : decode cX4_init 33 = .ok (.putfield 19, 3) := by decide +kernel
theorem dX4_init_36 : decode cX4_init 36 = .ok (.aload_n 0, 1) := by decide +kernel
theorem dX4_init_37 : decode cX4_init 37 = .ok (.bipush 60, 2) := by decide +kernel
theorem dX4_init_39 : decode cX4_init 39 = .ok (.newarray .int, 2) := by decide +kernel
theorem dX4_init_41 : decode cX4_init 41 = .ok (.putfield 22, 3) := by decide +kernel
theorem dX4_init_44 : decode cX4_init 44 = .ok (.aload_n 0, 1) := by decide +kernel
theorem dX4_init_45 : decode cX4_init 45 = .ok (.bipush 60, 2) := by decide +kernel
theorem dX4_init_47 : decode cX4_init 47 = .ok (.newarray .int, 2) := by decide +kernel
theorem dX4_init_49 : decode cX4_init 49 = .ok (.putfield 25, 3) := by decide +kernel
theorem dX4_init_52 : decode cX4_init 52 = .ok (.aload_n 0, 1) := by decide +kernel
theorem dX4_init_53 : decode cX4_init 53 = .ok (.bipush 60, 2) := by decide +kernel
theorem dX4_init_55 : decode cX4_init 55 = .ok (.newarray .int, 2) := by decide +kernel
theorem dX4_init_57 : decode cX4_init 57 = .ok (.putfield 28, 3) := by decide +kernel
theorem dX4_init_60 : decode cX4_init 60 = .ok (.aload_n 0, 1) := by decide +kernel
theorem dX4_init_61 : decode cX4_init 61 = .ok (.bipush 60, 2) := by decide +kernel
theorem dX4_init_63 : decode cX4_init 63 = .ok (.newarray .int, 2) := by decide +kernel
theorem dX4_init_65 : decode cX4_init 65 = .ok (.putfield 31, 3) := by decide +kernel
theorem dX4_init_68 : decode cX4_init 68 = .ok (.aload_n 0, 1) := by decide +kernel
theorem dX4_init_69 : decode cX4_init 69 = .ok (.bipush 60, 2) := by decide +kernel
theorem dX4_init_71 : decode cX4_init 71 = .ok (.newarray .int, 2) := by decide +kernel
theorem dX4_init_73 : decode cX4_init 73 = .ok (.putfield 34, 3) := by decide +kernel
theorem dX4_init_76 : decode cX4_init 76 = .ok (.aload_n 0, 1) := by decide +kernel
theorem dX4_init_77 : decode cX4_init 77 = .ok (.bipush 100, 2) := by decide +kernel
theorem dX4_init_79 : decode cX4_init 79 = .ok (.newarray .int, 2) := by decide +kernel
theorem dX4_init_81 : decode cX4_init 81 = .ok (.putfield 37, 3) := by decide +kernel
theorem dX4_init_84 : decode cX4_init 84 = .ok (.aload_n 0, 1) := by decide +kernel
theorem dX4_init_85 : decode cX4_init 85 = .ok (.bipush 100, 2) := by decide +kernel
theorem dX4_init_87 : decode cX4_init 87 = .ok (.newarray .int, 2) := by decide +kernel
theorem dX4_init_89 : decode cX4_init 89 = .ok (.putfield 40, 3) := by decide +kernel
theorem dX4_init_92 : decode cX4_init 92 = .ok (.aload_n 0, 1) := by decide +kernel
theorem dX4_init_93 : decode cX4_init 93 = .ok (.iload_n 1, 1) := by decide +kernel
theorem dX4_init_94 : decode cX4_init 94 = .ok (.bipush 16, 2) := by decide +kernel
theorem dX4_init_96 : decode cX4_init 96 = .ok (.invokestatic 43, 3) := by decide +kernel
theorem dX4_init_99 : decode cX4_init 99 = .ok (.putfield 47, 3) := by decide +kernel
theorem dX4_init_102 : decode cX4_init 102 = .ok (.aload_n 0, 1) := by decide +kernel
theorem dX4_init_103 : decode cX4_init 103 = .ok (.iload_n 2, 1) := by decide +kernel
theorem dX4_init_104 : decode cX4_init 104 = .ok (.bipush 8, 2) := by decide +kernel
theorem dX4_init_106 : decode cX4_init 106 = .ok (.invokestatic 43, 3) := by decide +kernel
theorem dX4_init_109 : decode cX4_init 109 = .ok (.putfield 51, 3) := by decide +kernel
theorem dX4_init_112 : decode cX4_init 112 = .ok (.aload_n 0, 1) := by decide +kernel
theorem dX4_init_113 : decode cX4_init 113 = .ok (.iload_n 3, 1) := by decide +kernel
theorem dX4_init_114 : decode cX4_init 114 = .ok (.sipush 400, 3) := by decide +kernel
theorem dX4_init_117 : decode cX4_init 117 = .ok (.invokestatic 43, 3) := by decide +kernel
theorem dX4_init_120 : decode cX4_init 120 = .ok (.putfield 54, 3) := by decide +kernel
theorem dX4_init_123 : decode cX4_init 123 = .ok (.return_, 1) := by decide +kernel
theorem dX4_held_0 : decode cX4_held 0 = .ok (.iload_n 0, 1) := by decide +kernel
theorem dX4_held_1 : decode cX4_held 1 = .ok (.iconst 1, 1) := by decide +kernel
theorem dX4_held_2 : decode cX4_held 2 = .ok (.if_icmp .ge 7, 3) := by decide +kernel
theorem dX4_held_5 : decode cX4_held 5 = .ok (.iconst 1, 1) := by decide +kernel
theorem dX4_held_6 : decode cX4_held 6 = .ok (.goto 13, 3) := by decide +kernel
theorem dX4_held_9 : decode cX4_held 9 = .ok (.iload_n 0, 1) := by decide +kernel
theorem dX4_held_10 : decode cX4_held 10 = .ok (.iload_n 1, 1) := by decide +kernel
theorem dX4_held_11 : decode cX4_held 11 = .ok (.if_icmp .le 7, 3) := by decide +kernel
theorem dX4_held_14 : decode cX4_held 14 = .ok (.iload_n 1, 1) := by decide +kernel
theorem dX4_held_15 : decode cX4_held 15 = .ok (.goto 4, 3) := by decide +kernel
theorem dX4_held_18 : decode cX4_held 18 = .ok (.iload_n 0, 1) := by decide +kernel
theorem dX4_held_19 : decode cX4_held 19 = .ok (.ireturn, 1) := by decide +kernel
theorem dX4_thrown_0 : decode cX4_thrown 0 = .ok (.aload_n 0, 1) := by decide +kernel
theorem dX4_thrown_1 : decode cX4_thrown 1 = .ok (.getfield 57, 3) := by decide +kernel
theorem dX4_thrown_4 : decode cX4_thrown 4 = .ok (.ireturn, 1) := by decide +kernel
theorem dX4_box_0 : decode cX4_box 0 = .ok (.iload_n 1, 1) := by decide +kernel
theorem dX4_box_1 : decode cX4_box 1 = .ok (.iconst 1, 1) := by decide +kernel
theorem dX4_box_2 : decode cX4_box 2 = .ok (.iconst 3, 1) := by decide +kernel
theorem dX4_box_3 : decode cX4_box 3 = .ok (.invokestatic 81, 3) := by decide +kernel
theorem dX4_box_6 : decode cX4_box 6 = .ok (.ifCond .eq 45, 3) := by decide +kernel
theorem dX4_box_9 : decode cX4_box 9 = .ok (.iload_n 2, 1) := by decide +kernel
theorem dX4_box_10 : decode cX4_box 10 = .ok (.iconst 1, 1) := by decide +kernel
theorem dX4_box_11 : decode cX4_box 11 = .ok (.bipush 40, 2) := by decide +kernel
theorem dX4_box_13 : decode cX4_box 13 = .ok (.invokestatic 81, 3) := by decide +kernel
theorem dX4_box_16 : decode cX4_box 16 = .ok (.ifCond .eq 35, 3) := by decide +kernel
theorem dX4_box_19 : decode cX4_box 19 = .ok (.iload_n 3, 1) := by decide +kernel
theorem dX4_box_20 : decode cX4_box 20 = .ok (.iconst 0, 1) := by decide +kernel
theorem dX4_box_21 : decode cX4_box 21 = .ok (.sipush 1000, 3) := by decide +kernel
theorem dX4_box_24 : decode cX4_box 24 = .ok (.invokestatic 81, 3) := by decide +kernel
theorem dX4_box_27 : decode cX4_box 27 = .ok (.ifCond .eq 24, 3) := by decide +kernel
theorem dX4_box_30 : decode cX4_box 30 = .ok (.iload 4, 2) := by decide +kernel
theorem dX4_box_32 : decode cX4_box 32 = .ok (.iconst 1, 1) := by decide +kernel
theorem dX4_box_33 : decode cX4_box 33 = .ok (.bipush 9, 2) := by decide +kernel
theorem dX4_box_35 : decode cX4_box 35 = .ok (.invokestatic 81, 3) := by decide +kernel
theorem dX4_box_38 : decode cX4_box 38 = .ok (.ifCond .eq 13, 3) := by decide +kernel
theorem dX4_box_41 : decode cX4_box 41 = .ok (.iload 5, 2) := by decide +kernel
theorem dX4_box_43 : decode cX4_box 43 = .ok (.iconst 0, 1) := by decide +kernel
theorem dX4_box_44 : decode cX4_box 44 = .ok (.iconst 2, 1) := by decide +kernel
theorem dX4_box_45 : decode cX4_box 45 = .ok (.invokestatic 81, 3) := by decide +kernel
theorem dX4_box_48 : decode cX4_box 48 = .ok (.ifCond .ne 9, 3) := by decide +kernel
theorem dX4_box_51 : decode cX4_box 51 = .ok (.aload_n 0, 1) := by decide +kernel
theorem dX4_box_52 : decode cX4_box 52 = .ok (.iconst 1, 1) := by decide +kernel
theorem dX4_box_53 : decode cX4_box 53 = .ok (.invokevirtual 85, 3) := by decide +kernel
theorem dX4_box_56 : decode cX4_box 56 = .ok (.ireturn, 1) := by decide +kernel
theorem dX4_box_57 : decode cX4_box 57 = .ok (.aload_n 0, 1) := by decide +kernel
theorem dX4_box_58 : decode cX4_box 58 = .ok (.getfield 60, 3) := by decide +kernel
theorem dX4_box_61 : decode cX4_box 61 = .ok (.bipush 60, 2) := by decide +kernel
theorem dX4_box_63 : decode cX4_box 63 = .ok (.if_icmp .ne 9, 3) := by decide +kernel
theorem dX4_box_66 : decode cX4_box 66 = .ok (.aload_n 0, 1) := by decide +kernel
theorem dX4_box_67 : decode cX4_box 67 = .ok (.iconst 2, 1) := by decide +kernel
theorem dX4_box_68 : decode cX4_box 68 = .ok (.invokevirtual 85, 3) := by decide +kernel
theorem dX4_box_71 : decode cX4_box 71 = .ok (.ireturn, 1) := by decide +kernel
theorem dX4_box_72 : decode cX4_box 72 = .ok (.aload_n 0, 1) := by decide +kernel
theorem dX4_box_73 : decode cX4_box 73 = .ok (.iconst 0, 1) := by decide +kernel
theorem dX4_box_74 : decode cX4_box 74 = .ok (.putfield 57, 3) := by decide +kernel
theorem dX4_box_77 : decode cX4_box 77 = .ok (.aload_n 0, 1) := by decide +kernel
theorem dX4_box_78 : decode cX4_box 78 = .ok (.getfield 16, 3) := by decide +kernel
theorem dX4_box_81 : decode cX4_box 81 = .ok (.aload_n 0, 1) := by decide +kernel
theorem dX4_box_82 : decode cX4_box 82 = .ok (.getfield 60, 3) := by decide +kernel
theorem dX4_box_85 : decode cX4_box 85 = .ok (.iload_n 1, 1) := by decide +kernel
theorem dX4_box_86 : decode cX4_box 86 = .ok (.iastore, 1) := by decide +kernel
theorem dX4_box_87 : decode cX4_box 87 = .ok (.aload_n 0, 1) := by decide +kernel
theorem dX4_box_88 : decode cX4_box 88 = .ok (.getfield 19, 3) := by decide +kernel
theorem dX4_box_91 : decode cX4_box 91 = .ok (.aload_n 0, 1) := by decide +kernel
theorem dX4_box_92 : decode cX4_box 92 = .ok (.getfield 60, 3) := by decide +kernel
theorem dX4_box_95 : decode cX4_box 95 = .ok (.iload_n 2, 1) := by decide +kernel
theorem dX4_box_96 : decode cX4_box 96 = .ok (.iastore, 1) := by decide +kernel
theorem dX4_box_97 : decode cX4_box 97 = .ok (.aload_n 0, 1) := by decide +kernel
theorem dX4_box_98 : decode cX4_box 98 = .ok (.getfield 22, 3) := by decide +kernel
theorem dX4_box_101 : decode cX4_box 101 = .ok (.aload_n 0, 1) := by decide +kernel
theorem dX4_box_102 : decode cX4_box 102 = .ok (.getfield 60, 3) := by decide +kernel
theorem dX4_box_105 : decode cX4_box 105 = .ok (.iload_n 3, 1) := by decide +kernel
theorem dX4_box_106 : decode cX4_box 106 = .ok (.iastore, 1) := by decide +kernel
theorem dX4_box_107 : decode cX4_box 107 = .ok (.aload_n 0, 1) := by decide +kernel
theorem dX4_box_108 : decode cX4_box 108 = .ok (.getfield 25, 3) := by decide +kernel
theorem dX4_box_111 : decode cX4_box 111 = .ok (.aload_n 0, 1) := by decide +kernel
theorem dX4_box_112 : decode cX4_box 112 = .ok (.getfield 60, 3) := by decide +kernel
theorem dX4_box_115 : decode cX4_box 115 = .ok (.iload 4, 2) := by decide +kernel
theorem dX4_box_117 : decode cX4_box 117 = .ok (.iastore, 1) := by decide +kernel
theorem dX4_box_118 : decode cX4_box 118 = .ok (.aload_n 0, 1) := by decide +kernel
theorem dX4_box_119 : decode cX4_box 119 = .ok (.getfield 28, 3) := by decide +kernel
theorem dX4_box_122 : decode cX4_box 122 = .ok (.aload_n 0, 1) := by decide +kernel
theorem dX4_box_123 : decode cX4_box 123 = .ok (.getfield 60, 3) := by decide +kernel
theorem dX4_box_126 : decode cX4_box 126 = .ok (.iload 5, 2) := by decide +kernel
theorem dX4_box_128 : decode cX4_box 128 = .ok (.iastore, 1) := by decide +kernel
theorem dX4_box_129 : decode cX4_box 129 = .ok (.aload_n 0, 1) := by decide +kernel
theorem dX4_box_130 : decode cX4_box 130 = .ok (.getfield 31, 3) := by decide +kernel
theorem dX4_box_133 : decode cX4_box 133 = .ok (.aload_n 0, 1) := by decide +kernel
theorem dX4_box_134 : decode cX4_box 134 = .ok (.getfield 60, 3) := by decide +kernel
theorem dX4_box_137 : decode cX4_box 137 = .ok (.iconst (-1), 1) := by decide +kernel
theorem dX4_box_138 : decode cX4_box 138 = .ok (.iastore, 1) := by decide +kernel
theorem dX4_box_139 : decode cX4_box 139 = .ok (.aload_n 0, 1) := by decide +kernel
theorem dX4_box_140 : decode cX4_box 140 = .ok (.getfield 34, 3) := by decide +kernel
theorem dX4_box_143 : decode cX4_box 143 = .ok (.aload_n 0, 1) := by decide +kernel
theorem dX4_box_144 : decode cX4_box 144 = .ok (.getfield 60, 3) := by decide +kernel
theorem dX4_box_147 : decode cX4_box 147 = .ok (.iconst (-1), 1) := by decide +kernel
theorem dX4_box_148 : decode cX4_box 148 = .ok (.iastore, 1) := by decide +kernel
theorem dX4_box_149 : decode cX4_box 149 = .ok (.aload_n 0, 1) := by decide +kernel
theorem dX4_box_150 : decode cX4_box 150 = .ok (.dup, 1) := by decide +kernel
theorem dX4_box_151 : decode cX4_box 151 = .ok (.getfield 60, 3) := by decide +kernel
theorem dX4_box_154 : decode cX4_box 154 = .ok (.iconst 1, 1) := by decide +kernel
theorem dX4_box_155 : decode cX4_box 155 = .ok (.iadd, 1) := by decide +kernel
theorem dX4_box_156 : decode cX4_box 156 = .ok (.putfield 60, 3) := by decide +kernel
theorem dX4_box_159 : decode cX4_box 159 = .ok (.aload_n 0, 1) := by decide +kernel
theorem dX4_box_160 : decode cX4_box 160 = .ok (.getfield 60, 3) := by decide +kernel
theorem dX4_box_163 : decode cX4_box 163 = .ok (.iconst 1, 1) := by decide +kernel
theorem dX4_box_164 : decode cX4_box 164 = .ok (.isub, 1) := by decide +kernel
theorem dX4_box_165 : decode cX4_box 165 = .ok (.ireturn, 1) := by decide +kernel
theorem dX4_in_0 : decode cX4_in 0 = .ok (.iload_n 0, 1) := by decide +kernel
theorem dX4_in_1 : decode cX4_in 1 = .ok (.iload_n 1, 1) := by decide +kernel
theorem dX4_in_2 : decode cX4_in 2 = .ok (.if_icmp .lt 12, 3) := by decide +kernel
theorem dX4_in_5 : decode cX4_in 5 = .ok (.iload_n 0, 1) := by decide +kernel
theorem dX4_in_6 : decode cX4_in 6 = .ok (.iload_n 2, 1) := by decide +kernel
theorem dX4_in_7 : decode cX4_in 7 = .ok (.if_icmp .gt 7, 3) := by decide +kernel
theorem dX4_in_10 : decode cX4_in 10 = .ok (.iconst 1, 1) := by decide +kernel
theorem dX4_in_11 : decode cX4_in 11 = .ok (.goto 4, 3) := by decide +kernel
theorem dX4_in_14 : decode cX4_in 14 = .ok (.iconst 0, 1) := by decide +kernel
theorem dX4_in_15 : decode cX4_in 15 = .ok (.ireturn, 1) := by decide +kernel
theorem dX4_fails_0 : decode cX4_fails 0 = .ok (.aload_n 0, 1) := by decide +kernel
theorem dX4_fails_1 : decode cX4_fails 1 = .ok (.iload_n 1, 1) := by decide +kernel
theorem dX4_fails_2 : decode cX4_fails 2 = .ok (.putfield 57, 3) := by decide +kernel
theorem dX4_fails_5 : decode cX4_fails 5 = .ok (.iconst 0, 1) := by decide +kernel
theorem dX4_fails_6 : decode cX4_fails 6 = .ok (.ireturn, 1) := by decide +kernel
theorem dX4_ground_0 : decode cX4_ground 0 = .ok (.aload_n 0, 1) := by decide +kernel
theorem dX4_ground_1 : decode cX4_ground 1 = .ok (.iconst 0, 1) := by decide +kernel
theorem dX4_ground_2 : decode cX4_ground 2 = .ok (.putfield 57, 3) := by decide +kernel
theorem dX4_ground_5 : decode cX4_ground 5 = .ok (.aload_n 0, 1) := by decide +kernel
theorem dX4_ground_6 : decode cX4_ground 6 = .ok (.iload_n 1, 1) := by decide +kernel
theorem dX4_ground_7 : decode cX4_ground 7 = .ok (.invokevirtual 88, 3) := by decide +kernel
theorem dX4_ground_10 : decode cX4_ground 10 = .ok (.ifCond .eq 20, 3) := by decide +kernel
theorem dX4_ground_13 : decode cX4_ground 13 = .ok (.iload_n 2, 1) := by decide +kernel
theorem dX4_ground_14 : decode cX4_ground 14 = .ok (.iconst 0, 1) := by decide +kernel
theorem dX4_ground_15 : decode cX4_ground 15 = .ok (.iconst 2, 1) := by decide +kernel
theorem dX4_ground_16 : decode cX4_ground 16 = .ok (.invokestatic 81, 3) := by decide +kernel
theorem dX4_ground_19 : decode cX4_ground 19 = .ok (.ifCond .eq 11, 3) := by decide +kernel
theorem dX4_ground_22 : decode cX4_ground 22 = .ok (.aload_n 0, 1) := by decide +kernel
theorem dX4_ground_23 : decode cX4_ground 23 = .ok (.iload_n 1, 1) := by decide +kernel
theorem dX4_ground_24 : decode cX4_ground 24 = .ok (.invokevirtual 63, 3) := by decide +kernel
theorem dX4_ground_27 : decode cX4_ground 27 = .ok (.ifCond .le 5, 3) := by decide +kernel
theorem dX4_ground_30 : decode cX4_ground 30 = .ok (.iconst 0, 1) := by decide +kernel
theorem dX4_ground_31 : decode cX4_ground 31 = .ok (.ireturn, 1) := by decide +kernel
theorem dX4_ground_32 : decode cX4_ground 32 = .ok (.aload_n 0, 1) := by decide +kernel
theorem dX4_ground_33 : decode cX4_ground 33 = .ok (.getfield 7, 3) := by decide +kernel
theorem dX4_ground_36 : decode cX4_ground 36 = .ok (.iload_n 1, 1) := by decide +kernel
theorem dX4_ground_37 : decode cX4_ground 37 = .ok (.iload_n 2, 1) := by decide +kernel
theorem dX4_ground_38 : decode cX4_ground 38 = .ok (.iastore, 1) := by decide +kernel
theorem dX4_ground_39 : decode cX4_ground 39 = .ok (.iconst 1, 1) := by decide +kernel
theorem dX4_ground_40 : decode cX4_ground 40 = .ok (.ireturn, 1) := by decide +kernel
theorem dX4_isRow_0 : decode cX4_isRow 0 = .ok (.iload_n 1, 1) := by decide +kernel
theorem dX4_isRow_1 : decode cX4_isRow 1 = .ok (.ifCond .lt 15, 3) := by decide +kernel
theorem dX4_isRow_4 : decode cX4_isRow 4 = .ok (.iload_n 1, 1) := by decide +kernel
theorem dX4_isRow_5 : decode cX4_isRow 5 = .ok (.aload_n 0, 1) := by decide +kernel
theorem dX4_isRow_6 : decode cX4_isRow 6 = .ok (.getfield 47, 3) := by decide +kernel
theorem dX4_isRow_9 : decode cX4_isRow 9 = .ok (.if_icmp .ge 7, 3) := by decide +kernel
theorem dX4_isRow_12 : decode cX4_isRow 12 = .ok (.iconst 1, 1) := by decide +kernel
theorem dX4_isRow_13 : decode cX4_isRow 13 = .ok (.goto 4, 3) := by decide +kernel
theorem dX4_isRow_16 : decode cX4_isRow 16 = .ok (.iconst 0, 1) := by decide +kernel
theorem dX4_isRow_17 : decode cX4_isRow 17 = .ok (.ireturn, 1) := by decide +kernel
theorem dX4_heightOf_0 : decode cX4_heightOf 0 = .ok (.iconst 0, 1) := by decide +kernel
theorem dX4_heightOf_1 : decode cX4_heightOf 1 = .ok (.istore_n 2, 1) := by decide +kernel
theorem dX4_heightOf_2 : decode cX4_heightOf 2 = .ok (.iconst 0, 1) := by decide +kernel
theorem dX4_heightOf_3 : decode cX4_heightOf 3 = .ok (.istore_n 3, 1) := by decide +kernel
theorem dX4_heightOf_4 : decode cX4_heightOf 4 = .ok (.iload_n 3, 1) := by decide +kernel
theorem dX4_heightOf_5 : decode cX4_heightOf 5 = .ok (.aload_n 0, 1) := by decide +kernel
theorem dX4_heightOf_6 : decode cX4_heightOf 6 = .ok (.getfield 60, 3) := by decide +kernel
theorem dX4_heightOf_9 : decode cX4_heightOf 9 = .ok (.if_icmp .ge 27, 3) := by decide +kernel
theorem dX4_heightOf_12 : decode cX4_heightOf 12 = .ok (.iload_n 2, 1) := by decide +kernel
theorem dX4_heightOf_13 : decode cX4_heightOf 13 = .ok (.aload_n 0, 1) := by decide +kernel
theorem dX4_heightOf_14 : decode cX4_heightOf 14 = .ok (.getfield 31, 3) := by decide +kernel
theorem dX4_heightOf_17 : decode cX4_heightOf 17 = .ok (.iload_n 3, 1) := by decide +kernel
theorem dX4_heightOf_18 : decode cX4_heightOf 18 = .ok (.iaload, 1) := by decide +kernel
theorem dX4_heightOf_19 : decode cX4_heightOf 19 = .ok (.iload_n 1, 1) := by decide +kernel
theorem dX4_heightOf_20 : decode cX4_heightOf 20 = .ok (.if_icmp .ne 7, 3) := by decide +kernel
theorem dX4_heightOf_23 : decode cX4_heightOf 23 = .ok (.iconst 1, 1) := by decide +kernel
theorem dX4_heightOf_24 : decode cX4_heightOf 24 = .ok (.goto 4, 3) := by decide +kernel
theorem dX4_heightOf_27 : decode cX4_heightOf 27 = .ok (.iconst 0, 1) := by decide +kernel
theorem dX4_heightOf_28 : decode cX4_heightOf 28 = .ok (.iadd, 1) := by decide +kernel
theorem dX4_heightOf_29 : decode cX4_heightOf 29 = .ok (.istore_n 2, 1) := by decide +kernel
theorem dX4_heightOf_30 : decode cX4_heightOf 30 = .ok (.iinc 3 1, 3) := by decide +kernel
theorem dX4_heightOf_33 : decode cX4_heightOf 33 = .ok (.goto (-29), 3) := by decide +kernel
theorem dX4_heightOf_36 : decode cX4_heightOf 36 = .ok (.iload_n 2, 1) := by decide +kernel
theorem dX4_heightOf_37 : decode cX4_heightOf 37 = .ok (.ireturn, 1) := by decide +kernel
theorem dX4_reserve_0 : decode cX4_reserve 0 = .ok (.aload_n 0, 1) := by decide +kernel
theorem dX4_reserve_1 : decode cX4_reserve 1 = .ok (.iconst 0, 1) := by decide +kernel
theorem dX4_reserve_2 : decode cX4_reserve 2 = .ok (.putfield 57, 3) := by decide +kernel
theorem dX4_reserve_5 : decode cX4_reserve 5 = .ok (.aload_n 0, 1) := by decide +kernel
theorem dX4_reserve_6 : decode cX4_reserve 6 = .ok (.iload_n 1, 1) := by decide +kernel
theorem dX4_reserve_7 : decode cX4_reserve 7 = .ok (.invokevirtual 88, 3) := by decide +kernel
theorem dX4_reserve_10 : decode cX4_reserve 10 = .ok (.ifCond .eq 13, 3) := by decide +kernel
theorem dX4_reserve_13 : decode cX4_reserve 13 = .ok (.iload_n 2, 1) := by decide +kernel
theorem dX4_reserve_14 : decode cX4_reserve 14 = .ok (.iconst 0, 1) := by decide +kernel
theorem dX4_reserve_15 : decode cX4_reserve 15 = .ok (.bipush 9, 2) := by decide +kernel
theorem dX4_reserve_17 : decode cX4_reserve 17 = .ok (.invokestatic 81, 3) := by decide +kernel
theorem dX4_reserve_20 : decode cX4_reserve 20 = .ok (.ifCond .ne 5, 3) := by decide +kernel
theorem dX4_reserve_23 : decode cX4_reserve 23 = .ok (.iconst 0, 1) := by decide +kernel
theorem dX4_reserve_24 : decode cX4_reserve 24 = .ok (.ireturn, 1) := by decide +kernel
theorem dX4_reserve_25 : decode cX4_reserve 25 = .ok (.iconst 0, 1) := by decide +kernel
theorem dX4_reserve_26 : decode cX4_reserve 26 = .ok (.istore_n 3, 1) := by decide +kernel
theorem dX4_reserve_27 : decode cX4_reserve 27 = .ok (.iload_n 3, 1) := by decide +kernel
theorem dX4_reserve_28 : decode cX4_reserve 28 = .ok (.aload_n 0, 1) := by decide +kernel
theorem dX4_reserve_29 : decode cX4_reserve 29 = .ok (.getfield 60, 3) := by decide +kernel
theorem dX4_reserve_32 : decode cX4_reserve 32 = .ok (.if_icmp .ge 35, 3) := by decide +kernel
theorem dX4_reserve_35 : decode cX4_reserve 35 = .ok (.iload_n 2, 1) := by decide +kernel
theorem dX4_reserve_36 : decode cX4_reserve 36 = .ok (.ifCond .le 25, 3) := by decide +kernel
theorem dX4_reserve_39 : decode cX4_reserve 39 = .ok (.aload_n 0, 1) := by decide +kernel
theorem dX4_reserve_40 : decode cX4_reserve 40 = .ok (.getfield 31, 3) := by decide +kernel
theorem dX4_reserve_43 : decode cX4_reserve 43 = .ok (.iload_n 3, 1) := by decide +kernel
theorem dX4_reserve_44 : decode cX4_reserve 44 = .ok (.iaload, 1) := by decide +kernel
theorem dX4_reserve_45 : decode cX4_reserve 45 = .ok (.iload_n 1, 1) := by decide +kernel
theorem dX4_reserve_46 : decode cX4_reserve 46 = .ok (.if_icmp .ne 15, 3) := by decide +kernel
theorem dX4_reserve_49 : decode cX4_reserve 49 = .ok (.aload_n 0, 1) := by decide +kernel
theorem dX4_reserve_50 : decode cX4_reserve 50 = .ok (.getfield 25, 3) := by decide +kernel
theorem dX4_reserve_53 : decode cX4_reserve 53 = .ok (.iload_n 3, 1) := by decide +kernel
theorem dX4_reserve_54 : decode cX4_reserve 54 = .ok (.iaload, 1) := by decide +kernel
theorem dX4_reserve_55 : decode cX4_reserve 55 = .ok (.iload_n 2, 1) := by decide +kernel
theorem dX4_reserve_56 : decode cX4_reserve 56 = .ok (.if_icmp .eq 5, 3) := by decide +kernel
theorem dX4_reserve_59 : decode cX4_reserve 59 = .ok (.iconst 0, 1) := by decide +kernel
theorem dX4_reserve_60 : decode cX4_reserve 60 = .ok (.ireturn, 1) := by decide +kernel
theorem dX4_reserve_61 : decode cX4_reserve 61 = .ok (.iinc 3 1, 3) := by decide +kernel
theorem dX4_reserve_64 : decode cX4_reserve 64 = .ok (.goto (-37), 3) := by decide +kernel
theorem dX4_reserve_67 : decode cX4_reserve 67 = .ok (.aload_n 0, 1) := by decide +kernel
theorem dX4_reserve_68 : decode cX4_reserve 68 = .ok (.getfield 13, 3) := by decide +kernel
theorem dX4_reserve_71 : decode cX4_reserve 71 = .ok (.iload_n 1, 1) := by decide +kernel
theorem dX4_reserve_72 : decode cX4_reserve 72 = .ok (.iload_n 2, 1) := by decide +kernel
theorem dX4_reserve_73 : decode cX4_reserve 73 = .ok (.iastore, 1) := by decide +kernel
theorem dX4_reserve_74 : decode cX4_reserve 74 = .ok (.iconst 1, 1) := by decide +kernel
theorem dX4_reserve_75 : decode cX4_reserve 75 = .ok (.ireturn, 1) := by decide +kernel
theorem dX4_put_0 : decode cX4_put 0 = .ok (.aload_n 0, 1) := by decide +kernel
theorem dX4_put_1 : decode cX4_put 1 = .ok (.iload_n 1, 1) := by decide +kernel
theorem dX4_put_2 : decode cX4_put 2 = .ok (.invokevirtual 102, 3) := by decide +kernel
theorem dX4_put_5 : decode cX4_put 5 = .ok (.ifCond .eq 11, 3) := by decide +kernel
theorem dX4_put_8 : decode cX4_put 8 = .ok (.aload_n 0, 1) := by decide +kernel
theorem dX4_put_9 : decode cX4_put 9 = .ok (.iload_n 2, 1) := by decide +kernel
theorem dX4_put_10 : decode cX4_put 10 = .ok (.invokevirtual 88, 3) := by decide +kernel
theorem dX4_put_13 : decode cX4_put 13 = .ok (.ifCond .ne 9, 3) := by decide +kernel
theorem dX4_put_16 : decode cX4_put 16 = .ok (.aload_n 0, 1) := by decide +kernel
theorem dX4_put_17 : decode cX4_put 17 = .ok (.iconst 1, 1) := by decide +kernel
theorem dX4_put_18 : decode cX4_put 18 = .ok (.invokevirtual 85, 3) := by decide +kernel
theorem dX4_put_21 : decode cX4_put 21 = .ok (.ireturn, 1) := by decide +kernel
theorem dX4_put_22 : decode cX4_put 22 = .ok (.aload_n 0, 1) := by decide +kernel
theorem dX4_put_23 : decode cX4_put 23 = .ok (.iconst 0, 1) := by decide +kernel
theorem dX4_put_24 : decode cX4_put 24 = .ok (.putfield 57, 3) := by decide +kernel
theorem dX4_put_27 : decode cX4_put 27 = .ok (.aload_n 0, 1) := by decide +kernel
theorem dX4_put_28 : decode cX4_put 28 = .ok (.getfield 31, 3) := by decide +kernel
theorem dX4_put_31 : decode cX4_put 31 = .ok (.iload_n 1, 1) := by decide +kernel
theorem dX4_put_32 : decode cX4_put 32 = .ok (.iaload, 1) := by decide +kernel
theorem dX4_put_33 : decode cX4_put 33 = .ok (.ifCond .lt 7, 3) := by decide +kernel
theorem dX4_put_36 : decode cX4_put 36 = .ok (.iconst 1, 1) := by decide +kernel
theorem dX4_put_37 : decode cX4_put 37 = .ok (.goto 9, 3) := by decide +kernel
theorem dX4_put_40 : decode cX4_put 40 = .ok (.aload_n 0, 1) := by decide +kernel
theorem dX4_put_41 : decode cX4_put 41 = .ok (.iload_n 1, 1) := by decide +kernel
theorem dX4_put_42 : decode cX4_put 42 = .ok (.iload_n 2, 1) := by decide +kernel
theorem dX4_put_43 : decode cX4_put 43 = .ok (.invokevirtual 105, 3) := by decide +kernel
theorem dX4_put_46 : decode cX4_put 46 = .ok (.istore_n 3, 1) := by decide +kernel
theorem dX4_put_47 : decode cX4_put 47 = .ok (.iload_n 3, 1) := by decide +kernel
theorem dX4_put_48 : decode cX4_put 48 = .ok (.ifCond .le 6, 3) := by decide +kernel
theorem dX4_put_51 : decode cX4_put 51 = .ok (.iload_n 3, 1) := by decide +kernel
theorem dX4_put_52 : decode cX4_put 52 = .ok (.ineg, 1) := by decide +kernel
theorem dX4_put_53 : decode cX4_put 53 = .ok (.ireturn, 1) := by decide +kernel
theorem dX4_put_54 : decode cX4_put 54 = .ok (.aload_n 0, 1) := by decide +kernel
theorem dX4_put_55 : decode cX4_put 55 = .ok (.iload_n 1, 1) := by decide +kernel
theorem dX4_put_56 : decode cX4_put 56 = .ok (.iload_n 2, 1) := by decide +kernel
theorem dX4_put_57 : decode cX4_put 57 = .ok (.invokevirtual 108, 3) := by decide +kernel
theorem dX4_put_60 : decode cX4_put 60 = .ok (.iconst 1, 1) := by decide +kernel
theorem dX4_put_61 : decode cX4_put 61 = .ok (.ireturn, 1) := by decide +kernel
theorem dX4_isBox_0 : decode cX4_isBox 0 = .ok (.iload_n 1, 1) := by decide +kernel
theorem dX4_isBox_1 : decode cX4_isBox 1 = .ok (.ifCond .lt 15, 3) := by decide +kernel
theorem dX4_isBox_4 : decode cX4_isBox 4 = .ok (.iload_n 1, 1) := by decide +kernel
theorem dX4_isBox_5 : decode cX4_isBox 5 = .ok (.aload_n 0, 1) := by decide +kernel
theorem dX4_isBox_6 : decode cX4_isBox 6 = .ok (.getfield 60, 3) := by decide +kernel
theorem dX4_isBox_9 : decode cX4_isBox 9 = .ok (.if_icmp .ge 7, 3) := by decide +kernel
theorem dX4_isBox_12 : decode cX4_isBox 12 = .ok (.iconst 1, 1) := by decide +kernel
theorem dX4_isBox_13 : decode cX4_isBox 13 = .ok (.goto 4, 3) := by decide +kernel
theorem dX4_isBox_16 : decode cX4_isBox 16 = .ok (.iconst 0, 1) := by decide +kernel
theorem dX4_isBox_17 : decode cX4_isBox 17 = .ok (.ireturn, 1) := by decide +kernel
theorem dX4_broken_0 : decode cX4_broken 0 = .ok (.aload_n 0, 1) := by decide +kernel
theorem dX4_broken_1 : decode cX4_broken 1 = .ok (.iload_n 2, 1) := by decide +kernel
theorem dX4_broken_2 : decode cX4_broken 2 = .ok (.aload_n 0, 1) := by decide +kernel
theorem dX4_broken_3 : decode cX4_broken 3 = .ok (.iload_n 2, 1) := by decide +kernel
theorem dX4_broken_4 : decode cX4_broken 4 = .ok (.invokevirtual 63, 3) := by decide +kernel
theorem dX4_broken_7 : decode cX4_broken 7 = .ok (.iconst 1, 1) := by decide +kernel
theorem dX4_broken_8 : decode cX4_broken 8 = .ok (.isub, 1) := by decide +kernel
theorem dX4_broken_9 : decode cX4_broken 9 = .ok (.invokevirtual 67, 3) := by decide +kernel
theorem dX4_broken_12 : decode cX4_broken 12 = .ok (.istore_n 3, 1) := by decide +kernel
theorem dX4_broken_13 : decode cX4_broken 13 = .ok (.aload_n 0, 1) := by decide +kernel
theorem dX4_broken_14 : decode cX4_broken 14 = .ok (.getfield 13, 3) := by decide +kernel
theorem dX4_broken_17 : decode cX4_broken 17 = .ok (.iload_n 2, 1) := by decide +kernel
theorem dX4_broken_18 : decode cX4_broken 18 = .ok (.iaload, 1) := by decide +kernel
theorem dX4_broken_19 : decode cX4_broken 19 = .ok (.ifCond .le 20, 3) := by decide +kernel
theorem dX4_broken_22 : decode cX4_broken 22 = .ok (.aload_n 0, 1) := by decide +kernel
theorem dX4_broken_23 : decode cX4_broken 23 = .ok (.getfield 13, 3) := by decide +kernel
theorem dX4_broken_26 : decode cX4_broken 26 = .ok (.iload_n 2, 1) := by decide +kernel
theorem dX4_broken_27 : decode cX4_broken 27 = .ok (.iaload, 1) := by decide +kernel
theorem dX4_broken_28 : decode cX4_broken 28 = .ok (.aload_n 0, 1) := by decide +kernel
theorem dX4_broken_29 : decode cX4_broken 29 = .ok (.getfield 25, 3) := by decide +kernel
theorem dX4_broken_32 : decode cX4_broken 32 = .ok (.iload_n 1, 1) := by decide +kernel
theorem dX4_broken_33 : decode cX4_broken 33 = .ok (.iaload, 1) := by decide +kernel
theorem dX4_broken_34 : decode cX4_broken 34 = .ok (.if_icmp .eq 5, 3) := by decide +kernel
theorem dX4_broken_37 : decode cX4_broken 37 = .ok (.iconst 2, 1) := by decide +kernel
theorem dX4_broken_38 : decode cX4_broken 38 = .ok (.ireturn, 1) := by decide +kernel
theorem dX4_broken_39 : decode cX4_broken 39 = .ok (.aload_n 0, 1) := by decide +kernel
theorem dX4_broken_40 : decode cX4_broken 40 = .ok (.iload_n 2, 1) := by decide +kernel
theorem dX4_broken_41 : decode cX4_broken 41 = .ok (.invokevirtual 63, 3) := by decide +kernel
theorem dX4_broken_44 : decode cX4_broken 44 = .ok (.aload_n 0, 1) := by decide +kernel
theorem dX4_broken_45 : decode cX4_broken 45 = .ok (.getfield 51, 3) := by decide +kernel
theorem dX4_broken_48 : decode cX4_broken 48 = .ok (.if_icmp .ne 5, 3) := by decide +kernel
theorem dX4_broken_51 : decode cX4_broken 51 = .ok (.iconst 3, 1) := by decide +kernel
theorem dX4_broken_52 : decode cX4_broken 52 = .ok (.ireturn, 1) := by decide +kernel
theorem dX4_broken_53 : decode cX4_broken 53 = .ok (.aload_n 0, 1) := by decide +kernel
theorem dX4_broken_54 : decode cX4_broken 54 = .ok (.iload_n 2, 1) := by decide +kernel
theorem dX4_broken_55 : decode cX4_broken 55 = .ok (.invokevirtual 70, 3) := by decide +kernel
theorem dX4_broken_58 : decode cX4_broken 58 = .ok (.aload_n 0, 1) := by decide +kernel
theorem dX4_broken_59 : decode cX4_broken 59 = .ok (.getfield 19, 3) := by decide +kernel
theorem dX4_broken_62 : decode cX4_broken 62 = .ok (.iload_n 1, 1) := by decide +kernel
theorem dX4_broken_63 : decode cX4_broken 63 = .ok (.iaload, 1) := by decide +kernel
theorem dX4_broken_64 : decode cX4_broken 64 = .ok (.iadd, 1) := by decide +kernel
theorem dX4_broken_65 : decode cX4_broken 65 = .ok (.aload_n 0, 1) := by decide +kernel
theorem dX4_broken_66 : decode cX4_broken 66 = .ok (.getfield 54, 3) := by decide +kernel
theorem dX4_broken_69 : decode cX4_broken 69 = .ok (.if_icmp .le 5, 3) := by decide +kernel
theorem dX4_broken_72 : decode cX4_broken 72 = .ok (.iconst 4, 1) := by decide +kernel
theorem dX4_broken_73 : decode cX4_broken 73 = .ok (.ireturn, 1) := by decide +kernel
theorem dX4_broken_74 : decode cX4_broken 74 = .ok (.aload_n 0, 1) := by decide +kernel
theorem dX4_broken_75 : decode cX4_broken 75 = .ok (.iload_n 1, 1) := by decide +kernel
theorem dX4_broken_76 : decode cX4_broken 76 = .ok (.iload_n 2, 1) := by decide +kernel
theorem dX4_broken_77 : decode cX4_broken 77 = .ok (.invokevirtual 73, 3) := by decide +kernel
theorem dX4_broken_80 : decode cX4_broken 80 = .ok (.ifCond .eq 5, 3) := by decide +kernel
theorem dX4_broken_83 : decode cX4_broken 83 = .ok (.iconst 5, 1) := by decide +kernel
theorem dX4_broken_84 : decode cX4_broken 84 = .ok (.ireturn, 1) := by decide +kernel
theorem dX4_broken_85 : decode cX4_broken 85 = .ok (.iload_n 3, 1) := by decide +kernel
theorem dX4_broken_86 : decode cX4_broken 86 = .ok (.ifCond .lt 29, 3) := by decide +kernel
theorem dX4_broken_89 : decode cX4_broken 89 = .ok (.aload_n 0, 1) := by decide +kernel
theorem dX4_broken_90 : decode cX4_broken 90 = .ok (.getfield 19, 3) := by decide +kernel
theorem dX4_broken_93 : decode cX4_broken 93 = .ok (.iload_n 1, 1) := by decide +kernel
theorem dX4_broken_94 : decode cX4_broken 94 = .ok (.iaload, 1) := by decide +kernel
theorem dX4_broken_95 : decode cX4_broken 95 = .ok (.aload_n 0, 1) := by decide +kernel
theorem dX4_broken_96 : decode cX4_broken 96 = .ok (.getfield 19, 3) := by decide +kernel
theorem dX4_broken_99 : decode cX4_broken 99 = .ok (.iload_n 3, 1) := by decide +kernel
theorem dX4_broken_100 : decode cX4_broken 100 = .ok (.ifCond .lt 7, 3) := by decide +kernel
theorem dX4_broken_103 : decode cX4_broken 103 = .ok (.iload_n 3, 1) := by decide +kernel
theorem dX4_broken_104 : decode cX4_broken 104 = .ok (.goto 4, 3) := by decide +kernel
theorem dX4_broken_107 : decode cX4_broken 107 = .ok (.iconst 0, 1) := by decide +kernel
theorem dX4_broken_108 : decode cX4_broken 108 = .ok (.iaload, 1) := by decide +kernel
theorem dX4_broken_109 : decode cX4_broken 109 = .ok (.if_icmp .le 6, 3) := by decide +kernel
theorem dX4_broken_112 : decode cX4_broken 112 = .ok (.bipush 6, 2) := by decide +kernel
theorem dX4_broken_114 : decode cX4_broken 114 = .ok (.ireturn, 1) := by decide +kernel
theorem dX4_broken_115 : decode cX4_broken 115 = .ok (.aload_n 0, 1) := by decide +kernel
theorem dX4_broken_116 : decode cX4_broken 116 = .ok (.getfield 28, 3) := by decide +kernel
theorem dX4_broken_119 : decode cX4_broken 119 = .ok (.iload_n 1, 1) := by decide +kernel
theorem dX4_broken_120 : decode cX4_broken 120 = .ok (.iaload, 1) := by decide +kernel
theorem dX4_broken_121 : decode cX4_broken 121 = .ok (.iconst 1, 1) := by decide +kernel
theorem dX4_broken_122 : decode cX4_broken 122 = .ok (.if_icmp .ne 16, 3) := by decide +kernel
theorem dX4_broken_125 : decode cX4_broken 125 = .ok (.aload_n 0, 1) := by decide +kernel
theorem dX4_broken_126 : decode cX4_broken 126 = .ok (.getfield 7, 3) := by decide +kernel
theorem dX4_broken_129 : decode cX4_broken 129 = .ok (.iload_n 2, 1) := by decide +kernel
theorem dX4_broken_130 : decode cX4_broken 130 = .ok (.iaload, 1) := by decide +kernel
theorem dX4_broken_131 : decode cX4_broken 131 = .ok (.iconst 1, 1) := by decide +kernel
theorem dX4_broken_132 : decode cX4_broken 132 = .ok (.if_icmp .eq 6, 3) := by decide +kernel
theorem dX4_broken_135 : decode cX4_broken 135 = .ok (.bipush 7, 2) := by decide +kernel
theorem dX4_broken_137 : decode cX4_broken 137 = .ok (.ireturn, 1) := by decide +kernel
theorem dX4_broken_138 : decode cX4_broken 138 = .ok (.aload_n 0, 1) := by decide +kernel
theorem dX4_broken_139 : decode cX4_broken 139 = .ok (.getfield 28, 3) := by decide +kernel
theorem dX4_broken_142 : decode cX4_broken 142 = .ok (.iload_n 1, 1) := by decide +kernel
theorem dX4_broken_143 : decode cX4_broken 143 = .ok (.iaload, 1) := by decide +kernel
theorem dX4_broken_144 : decode cX4_broken 144 = .ok (.iconst 2, 1) := by decide +kernel
theorem dX4_broken_145 : decode cX4_broken 145 = .ok (.if_icmp .ne 7, 3) := by decide +kernel
theorem dX4_broken_148 : decode cX4_broken 148 = .ok (.iconst 1, 1) := by decide +kernel
theorem dX4_broken_149 : decode cX4_broken 149 = .ok (.goto 4, 3) := by decide +kernel
theorem dX4_broken_152 : decode cX4_broken 152 = .ok (.iconst 0, 1) := by decide +kernel
theorem dX4_broken_153 : decode cX4_broken 153 = .ok (.aload_n 0, 1) := by decide +kernel
theorem dX4_broken_154 : decode cX4_broken 154 = .ok (.getfield 7, 3) := by decide +kernel
theorem dX4_broken_157 : decode cX4_broken 157 = .ok (.iload_n 2, 1) := by decide +kernel
theorem dX4_broken_158 : decode cX4_broken 158 = .ok (.iaload, 1) := by decide +kernel
theorem dX4_broken_159 : decode cX4_broken 159 = .ok (.iconst 2, 1) := by decide +kernel
theorem dX4_broken_160 : decode cX4_broken 160 = .ok (.if_icmp .ne 7, 3) := by decide +kernel
theorem dX4_broken_163 : decode cX4_broken 163 = .ok (.iconst 1, 1) := by decide +kernel
theorem dX4_broken_164 : decode cX4_broken 164 = .ok (.goto 4, 3) := by decide +kernel
theorem dX4_broken_167 : decode cX4_broken 167 = .ok (.iconst 0, 1) := by decide +kernel
theorem dX4_broken_168 : decode cX4_broken 168 = .ok (.if_icmp .eq 8, 3) := by decide +kernel
theorem dX4_broken_171 : decode cX4_broken 171 = .ok (.bipush 8, 2) := by decide +kernel
theorem dX4_broken_173 : decode cX4_broken 173 = .ok (.goto 4, 3) := by decide +kernel
theorem dX4_broken_176 : decode cX4_broken 176 = .ok (.iconst 0, 1) := by decide +kernel
theorem dX4_broken_177 : decode cX4_broken 177 = .ok (.ireturn, 1) := by decide +kernel
theorem dX4_boxAt_0 : decode cX4_boxAt 0 = .ok (.iconst (-1), 1) := by decide +kernel
theorem dX4_boxAt_1 : decode cX4_boxAt 1 = .ok (.istore_n 3, 1) := by decide +kernel
theorem dX4_boxAt_2 : decode cX4_boxAt 2 = .ok (.iconst 0, 1) := by decide +kernel
theorem dX4_boxAt_3 : decode cX4_boxAt 3 = .ok (.istore 4, 2) := by decide +kernel
theorem dX4_boxAt_5 : decode cX4_boxAt 5 = .ok (.iload 4, 2) := by decide +kernel
theorem dX4_boxAt_7 : decode cX4_boxAt 7 = .ok (.aload_n 0, 1) := by decide +kernel
theorem dX4_boxAt_8 : decode cX4_boxAt 8 = .ok (.getfield 60, 3) := by decide +kernel
theorem dX4_boxAt_11 : decode cX4_boxAt 11 = .ok (.if_icmp .ge 38, 3) := by decide +kernel
theorem dX4_boxAt_14 : decode cX4_boxAt 14 = .ok (.aload_n 0, 1) := by decide +kernel
theorem dX4_boxAt_15 : decode cX4_boxAt 15 = .ok (.getfield 31, 3) := by decide +kernel
theorem dX4_boxAt_18 : decode cX4_boxAt 18 = .ok (.iload 4, 2) := by decide +kernel
theorem dX4_boxAt_20 : decode cX4_boxAt 20 = .ok (.iaload, 1) := by decide +kernel
theorem dX4_boxAt_21 : decode cX4_boxAt 21 = .ok (.iload_n 1, 1) := by decide +kernel
theorem dX4_boxAt_22 : decode cX4_boxAt 22 = .ok (.if_icmp .ne 19, 3) := by decide +kernel
theorem dX4_boxAt_25 : decode cX4_boxAt 25 = .ok (.aload_n 0, 1) := by decide +kernel
theorem dX4_boxAt_26 : decode cX4_boxAt 26 = .ok (.getfield 34, 3) := by decide +kernel
theorem dX4_boxAt_29 : decode cX4_boxAt 29 = .ok (.iload 4, 2) := by decide +kernel
theorem dX4_boxAt_31 : decode cX4_boxAt 31 = .ok (.iaload, 1) := by decide +kernel
theorem dX4_boxAt_32 : decode cX4_boxAt 32 = .ok (.iload_n 2, 1) := by decide +kernel
theorem dX4_boxAt_33 : decode cX4_boxAt 33 = .ok (.if_icmp .ne 8, 3) := by decide +kernel
theorem dX4_boxAt_36 : decode cX4_boxAt 36 = .ok (.iload 4, 2) := by decide +kernel
theorem dX4_boxAt_38 : decode cX4_boxAt 38 = .ok (.goto 4, 3) := by decide +kernel
theorem dX4_boxAt_41 : decode cX4_boxAt 41 = .ok (.iload_n 3, 1) := by decide +kernel
theorem dX4_boxAt_42 : decode cX4_boxAt 42 = .ok (.istore_n 3, 1) := by decide +kernel
theorem dX4_boxAt_43 : decode cX4_boxAt 43 = .ok (.iinc 4 1, 3) := by decide +kernel
theorem dX4_boxAt_46 : decode cX4_boxAt 46 = .ok (.goto (-41), 3) := by decide +kernel
theorem dX4_boxAt_49 : decode cX4_boxAt 49 = .ok (.iload_n 3, 1) := by decide +kernel
theorem dX4_boxAt_50 : decode cX4_boxAt 50 = .ok (.ireturn, 1) := by decide +kernel
theorem dX4_weightOf_0 : decode cX4_weightOf 0 = .ok (.iconst 0, 1) := by decide +kernel
theorem dX4_weightOf_1 : decode cX4_weightOf 1 = .ok (.istore_n 2, 1) := by decide +kernel
theorem dX4_weightOf_2 : decode cX4_weightOf 2 = .ok (.iconst 0, 1) := by decide +kernel
theorem dX4_weightOf_3 : decode cX4_weightOf 3 = .ok (.istore_n 3, 1) := by decide +kernel
theorem dX4_weightOf_4 : decode cX4_weightOf 4 = .ok (.iload_n 3, 1) := by decide +kernel
theorem dX4_weightOf_5 : decode cX4_weightOf 5 = .ok (.aload_n 0, 1) := by decide +kernel
theorem dX4_weightOf_6 : decode cX4_weightOf 6 = .ok (.getfield 60, 3) := by decide +kernel
theorem dX4_weightOf_9 : decode cX4_weightOf 9 = .ok (.if_icmp .ge 32, 3) := by decide +kernel
theorem dX4_weightOf_12 : decode cX4_weightOf 12 = .ok (.iload_n 2, 1) := by decide +kernel
theorem dX4_weightOf_13 : decode cX4_weightOf 13 = .ok (.aload_n 0, 1) := by decide +kernel
theorem dX4_weightOf_14 : decode cX4_weightOf 14 = .ok (.getfield 31, 3) := by decide +kernel
theorem dX4_weightOf_17 : decode cX4_weightOf 17 = .ok (.iload_n 3, 1) := by decide +kernel
theorem dX4_weightOf_18 : decode cX4_weightOf 18 = .ok (.iaload, 1) := by decide +kernel
theorem dX4_weightOf_19 : decode cX4_weightOf 19 = .ok (.iload_n 1, 1) := by decide +kernel
theorem dX4_weightOf_20 : decode cX4_weightOf 20 = .ok (.if_icmp .ne 12, 3) := by decide +kernel
theorem dX4_weightOf_23 : decode cX4_weightOf 23 = .ok (.aload_n 0, 1) := by decide +kernel
theorem dX4_weightOf_24 : decode cX4_weightOf 24 = .ok (.getfield 19, 3) := by decide +kernel
theorem dX4_weightOf_27 : decode cX4_weightOf 27 = .ok (.iload_n 3, 1) := by decide +kernel
theorem dX4_weightOf_28 : decode cX4_weightOf 28 = .ok (.iaload, 1) := by decide +kernel
theorem dX4_weightOf_29 : decode cX4_weightOf 29 = .ok (.goto 4, 3) := by decide +kernel
theorem dX4_weightOf_32 : decode cX4_weightOf 32 = .ok (.iconst 0, 1) := by decide +kernel
theorem dX4_weightOf_33 : decode cX4_weightOf 33 = .ok (.iadd, 1) := by decide +kernel
theorem dX4_weightOf_34 : decode cX4_weightOf 34 = .ok (.istore_n 2, 1) := by decide +kernel
theorem dX4_weightOf_35 : decode cX4_weightOf 35 = .ok (.iinc 3 1, 3) := by decide +kernel
theorem dX4_weightOf_38 : decode cX4_weightOf 38 = .ok (.goto (-34), 3) := by decide +kernel
theorem dX4_weightOf_41 : decode cX4_weightOf 41 = .ok (.iload_n 2, 1) := by decide +kernel
theorem dX4_weightOf_42 : decode cX4_weightOf 42 = .ok (.ireturn, 1) := by decide +kernel
theorem dX4_hasOtherSize_0 : decode cX4_hasOtherSize 0 = .ok (.iconst 0, 1) := by decide +kernel
theorem dX4_hasOtherSize_1 : decode cX4_hasOtherSize 1 = .ok (.istore_n 3, 1) := by decide +kernel
theorem dX4_hasOtherSize_2 : decode cX4_hasOtherSize 2 = .ok (.iconst 0, 1) := by decide +kernel
theorem dX4_hasOtherSize_3 : decode cX4_hasOtherSize 3 = .ok (.istore 4, 2) := by decide +kernel
theorem dX4_hasOtherSize_5 : decode cX4_hasOtherSize 5 = .ok (.iload 4, 2) := by decide +kernel
theorem dX4_hasOtherSize_7 : decode cX4_hasOtherSize 7 = .ok (.aload_n 0, 1) := by decide +kernel
theorem dX4_hasOtherSize_8 : decode cX4_hasOtherSize 8 = .ok (.getfield 60, 3) := by decide +kernel
theorem dX4_hasOtherSize_11 : decode cX4_hasOtherSize 11 = .ok (.if_icmp .ge 46, 3) := by decide +kernel
theorem dX4_hasOtherSize_14 : decode cX4_hasOtherSize 14 = .ok (.iload_n 3, 1) := by decide +kernel
theorem dX4_hasOtherSize_15 : decode cX4_hasOtherSize 15 = .ok (.ifCond .ne 30, 3) := by decide +kernel
theorem dX4_hasOtherSize_18 : decode cX4_hasOtherSize 18 = .ok (.aload_n 0, 1) := by decide +kernel
theorem dX4_hasOtherSize_19 : decode cX4_hasOtherSize 19 = .ok (.getfield 31, 3) := by decide +kernel
theorem dX4_hasOtherSize_22 : decode cX4_hasOtherSize 22 = .ok (.iload 4, 2) := by decide +kernel
theorem dX4_hasOtherSize_24 : decode cX4_hasOtherSize 24 = .ok (.iaload, 1) := by decide +kernel
theorem dX4_hasOtherSize_25 : decode cX4_hasOtherSize 25 = .ok (.iload_n 2, 1) := by decide +kernel
theorem dX4_hasOtherSize_26 : decode cX4_hasOtherSize 26 = .ok (.if_icmp .ne 23, 3) := by decide +kernel
theorem dX4_hasOtherSize_29 : decode cX4_hasOtherSize 29 = .ok (.aload_n 0, 1) := by decide +kernel
theorem dX4_hasOtherSize_30 : decode cX4_hasOtherSize 30 = .ok (.getfield 16, 3) := by decide +kernel
theorem dX4_hasOtherSize_33 : decode cX4_hasOtherSize 33 = .ok (.iload 4, 2) := by decide +kernel
theorem dX4_hasOtherSize_35 : decode cX4_hasOtherSize 35 = .ok (.iaload, 1) := by decide +kernel
theorem dX4_hasOtherSize_36 : decode cX4_hasOtherSize 36 = .ok (.aload_n 0, 1) := by decide +kernel
theorem dX4_hasOtherSize_37 : decode cX4_hasOtherSize 37 = .ok (.getfield 16, 3) := by decide +kernel
theorem dX4_hasOtherSize_40 : decode cX4_hasOtherSize 40 = .ok (.iload_n 1, 1) := by decide +kernel
theorem dX4_hasOtherSize_41 : decode cX4_hasOtherSize 41 = .ok (.iaload, 1) := by decide +kernel
theorem dX4_hasOtherSize_42 : decode cX4_hasOtherSize 42 = .ok (.if_icmp .eq 7, 3) := by decide +kernel
theorem dX4_hasOtherSize_45 : decode cX4_hasOtherSize 45 = .ok (.iconst 1, 1) := by decide +kernel
theorem dX4_hasOtherSize_46 : decode cX4_hasOtherSize 46 = .ok (.goto 4, 3) := by decide +kernel
theorem dX4_hasOtherSize_49 : decode cX4_hasOtherSize 49 = .ok (.iconst 0, 1) := by decide +kernel
theorem dX4_hasOtherSize_50 : decode cX4_hasOtherSize 50 = .ok (.istore_n 3, 1) := by decide +kernel
theorem dX4_hasOtherSize_51 : decode cX4_hasOtherSize 51 = .ok (.iinc 4 1, 3) := by decide +kernel
theorem dX4_hasOtherSize_54 : decode cX4_hasOtherSize 54 = .ok (.goto (-49), 3) := by decide +kernel
theorem dX4_hasOtherSize_57 : decode cX4_hasOtherSize 57 = .ok (.iload_n 3, 1) := by decide +kernel
theorem dX4_hasOtherSize_58 : decode cX4_hasOtherSize 58 = .ok (.ireturn, 1) := by decide +kernel
theorem dX4_moves_0 : decode cX4_moves 0 = .ok (.aload_n 0, 1) := by decide +kernel
theorem dX4_moves_1 : decode cX4_moves 1 = .ok (.getfield 92, 3) := by decide +kernel
theorem dX4_moves_4 : decode cX4_moves 4 = .ok (.bipush 100, 2) := by decide +kernel
theorem dX4_moves_6 : decode cX4_moves 6 = .ok (.if_icmp .ne 55, 3) := by decide +kernel
theorem dX4_moves_9 : decode cX4_moves 9 = .ok (.iconst 1, 1) := by decide +kernel
theorem dX4_moves_10 : decode cX4_moves 10 = .ok (.istore_n 3, 1) := by decide +kernel
theorem dX4_moves_11 : decode cX4_moves 11 = .ok (.iload_n 3, 1) := by decide +kernel
theorem dX4_moves_12 : decode cX4_moves 12 = .ok (.bipush 100, 2) := by decide +kernel
theorem dX4_moves_14 : decode cX4_moves 14 = .ok (.if_icmp .ge 37, 3) := by decide +kernel
theorem dX4_moves_17 : decode cX4_moves 17 = .ok (.aload_n 0, 1) := by decide +kernel
theorem dX4_moves_18 : decode cX4_moves 18 = .ok (.getfield 37, 3) := by decide +kernel
theorem dX4_moves_21 : decode cX4_moves 21 = .ok (.iload_n 3, 1) := by decide +kernel
theorem dX4_moves_22 : decode cX4_moves 22 = .ok (.iconst 1, 1) := by decide +kernel
theorem dX4_moves_23 : decode cX4_moves 23 = .ok (.isub, 1) := by decide +kernel
theorem dX4_moves_24 : decode cX4_moves 24 = .ok (.aload_n 0, 1) := by decide +kernel
theorem dX4_moves_25 : decode cX4_moves 25 = .ok (.getfield 37, 3) := by decide +kernel
theorem dX4_moves_28 : decode cX4_moves 28 = .ok (.iload_n 3, 1) := by decide +kernel
theorem dX4_moves_29 : decode cX4_moves 29 = .ok (.iaload, 1) := by decide +kernel
theorem dX4_moves_30 : decode cX4_moves 30 = .ok (.iastore, 1) := by decide +kernel
theorem dX4_moves_31 : decode cX4_moves 31 = .ok (.aload_n 0, 1) := by decide +kernel
theorem dX4_moves_32 : decode cX4_moves 32 = .ok (.getfield 40, 3) := by decide +kernel
theorem dX4_moves_35 : decode cX4_moves 35 = .ok (.iload_n 3, 1) := by decide +kernel
theorem dX4_moves_36 : decode cX4_moves 36 = .ok (.iconst 1, 1) := by decide +kernel
theorem dX4_moves_37 : decode cX4_moves 37 = .ok (.isub, 1) := by decide +kernel
theorem dX4_moves_38 : decode cX4_moves 38 = .ok (.aload_n 0, 1) := by decide +kernel
theorem dX4_moves_39 : decode cX4_moves 39 = .ok (.getfield 40, 3) := by decide +kernel
theorem dX4_moves_42 : decode cX4_moves 42 = .ok (.iload_n 3, 1) := by decide +kernel
theorem dX4_moves_43 : decode cX4_moves 43 = .ok (.iaload, 1) := by decide +kernel
theorem dX4_moves_44 : decode cX4_moves 44 = .ok (.iastore, 1) := by decide +kernel
theorem dX4_moves_45 : decode cX4_moves 45 = .ok (.iinc 3 1, 3) := by decide +kernel
theorem dX4_moves_48 : decode cX4_moves 48 = .ok (.goto (-37), 3) := by decide +kernel
theorem dX4_moves_51 : decode cX4_moves 51 = .ok (.aload_n 0, 1) := by decide +kernel
theorem dX4_moves_52 : decode cX4_moves 52 = .ok (.dup, 1) := by decide +kernel
theorem dX4_moves_53 : decode cX4_moves 53 = .ok (.getfield 92, 3) := by decide +kernel
theorem dX4_moves_56 : decode cX4_moves 56 = .ok (.iconst 1, 1) := by decide +kernel
theorem dX4_moves_57 : decode cX4_moves 57 = .ok (.isub, 1) := by decide +kernel
theorem dX4_moves_58 : decode cX4_moves 58 = .ok (.putfield 92, 3) := by decide +kernel
theorem dX4_moves_61 : decode cX4_moves 61 = .ok (.aload_n 0, 1) := by decide +kernel
theorem dX4_moves_62 : decode cX4_moves 62 = .ok (.getfield 37, 3) := by decide +kernel
theorem dX4_moves_65 : decode cX4_moves 65 = .ok (.aload_n 0, 1) := by decide +kernel
theorem dX4_moves_66 : decode cX4_moves 66 = .ok (.getfield 92, 3) := by decide +kernel
theorem dX4_moves_69 : decode cX4_moves 69 = .ok (.iload_n 1, 1) := by decide +kernel
theorem dX4_moves_70 : decode cX4_moves 70 = .ok (.iastore, 1) := by decide +kernel
theorem dX4_moves_71 : decode cX4_moves 71 = .ok (.aload_n 0, 1) := by decide +kernel
theorem dX4_moves_72 : decode cX4_moves 72 = .ok (.getfield 40, 3) := by decide +kernel
theorem dX4_moves_75 : decode cX4_moves 75 = .ok (.aload_n 0, 1) := by decide +kernel
theorem dX4_moves_76 : decode cX4_moves 76 = .ok (.getfield 92, 3) := by decide +kernel
theorem dX4_moves_79 : decode cX4_moves 79 = .ok (.aload_n 0, 1) := by decide +kernel
theorem dX4_moves_80 : decode cX4_moves 80 = .ok (.getfield 31, 3) := by decide +kernel
theorem dX4_moves_83 : decode cX4_moves 83 = .ok (.iload_n 1, 1) := by decide +kernel
theorem dX4_moves_84 : decode cX4_moves 84 = .ok (.iaload, 1) := by decide +kernel
theorem dX4_moves_85 : decode cX4_moves 85 = .ok (.iastore, 1) := by decide +kernel
theorem dX4_moves_86 : decode cX4_moves 86 = .ok (.aload_n 0, 1) := by decide +kernel
theorem dX4_moves_87 : decode cX4_moves 87 = .ok (.dup, 1) := by decide +kernel
theorem dX4_moves_88 : decode cX4_moves 88 = .ok (.getfield 92, 3) := by decide +kernel
theorem dX4_moves_91 : decode cX4_moves 91 = .ok (.iconst 1, 1) := by decide +kernel
theorem dX4_moves_92 : decode cX4_moves 92 = .ok (.iadd, 1) := by decide +kernel
theorem dX4_moves_93 : decode cX4_moves 93 = .ok (.putfield 92, 3) := by decide +kernel
theorem dX4_moves_96 : decode cX4_moves 96 = .ok (.aload_n 0, 1) := by decide +kernel
theorem dX4_moves_97 : decode cX4_moves 97 = .ok (.dup, 1) := by decide +kernel
theorem dX4_moves_98 : decode cX4_moves 98 = .ok (.getfield 95, 3) := by decide +kernel
theorem dX4_moves_101 : decode cX4_moves 101 = .ok (.iconst 1, 1) := by decide +kernel
theorem dX4_moves_102 : decode cX4_moves 102 = .ok (.iadd, 1) := by decide +kernel
theorem dX4_moves_103 : decode cX4_moves 103 = .ok (.putfield 95, 3) := by decide +kernel
theorem dX4_moves_106 : decode cX4_moves 106 = .ok (.aload_n 0, 1) := by decide +kernel
theorem dX4_moves_107 : decode cX4_moves 107 = .ok (.iload_n 1, 1) := by decide +kernel
theorem dX4_moves_108 : decode cX4_moves 108 = .ok (.iload_n 2, 1) := by decide +kernel
theorem dX4_moves_109 : decode cX4_moves 109 = .ok (.invokevirtual 98, 3) := by decide +kernel
theorem dX4_moves_112 : decode cX4_moves 112 = .ok (.return_, 1) := by decide +kernel
theorem dX4_goes_0 : decode cX4_goes 0 = .ok (.aload_n 0, 1) := by decide +kernel
theorem dX4_goes_1 : decode cX4_goes 1 = .ok (.getfield 34, 3) := by decide +kernel
theorem dX4_goes_4 : decode cX4_goes 4 = .ok (.iload_n 1, 1) := by decide +kernel
theorem dX4_goes_5 : decode cX4_goes 5 = .ok (.iload_n 2, 1) := by decide +kernel
theorem dX4_goes_6 : decode cX4_goes 6 = .ok (.ifCond .ge 7, 3) := by decide +kernel
theorem dX4_goes_9 : decode cX4_goes 9 = .ok (.iconst (-1), 1) := by decide +kernel
theorem dX4_goes_10 : decode cX4_goes 10 = .ok (.goto 8, 3) := by decide +kernel
theorem dX4_goes_13 : decode cX4_goes 13 = .ok (.aload_n 0, 1) := by decide +kernel
theorem dX4_goes_14 : decode cX4_goes 14 = .ok (.iload_n 2, 1) := by decide +kernel
theorem dX4_goes_15 : decode cX4_goes 15 = .ok (.invokevirtual 63, 3) := by decide +kernel
theorem dX4_goes_18 : decode cX4_goes 18 = .ok (.iastore, 1) := by decide +kernel
theorem dX4_goes_19 : decode cX4_goes 19 = .ok (.aload_n 0, 1) := by decide +kernel
theorem dX4_goes_20 : decode cX4_goes 20 = .ok (.getfield 31, 3) := by decide +kernel
theorem dX4_goes_23 : decode cX4_goes 23 = .ok (.iload_n 1, 1) := by decide +kernel
theorem dX4_goes_24 : decode cX4_goes 24 = .ok (.iload_n 2, 1) := by decide +kernel
theorem dX4_goes_25 : decode cX4_goes 25 = .ok (.iastore, 1) := by decide +kernel
theorem dX4_goes_26 : decode cX4_goes 26 = .ok (.return_, 1) := by decide +kernel
theorem dX4_take_0 : decode cX4_take 0 = .ok (.aload_n 0, 1) := by decide +kernel
theorem dX4_take_1 : decode cX4_take 1 = .ok (.iload_n 1, 1) := by decide +kernel
theorem dX4_take_2 : decode cX4_take 2 = .ok (.invokevirtual 102, 3) := by decide +kernel
theorem dX4_take_5 : decode cX4_take 5 = .ok (.ifCond .ne 9, 3) := by decide +kernel
theorem dX4_take_8 : decode cX4_take 8 = .ok (.aload_n 0, 1) := by decide +kernel
theorem dX4_take_9 : decode cX4_take 9 = .ok (.iconst 1, 1) := by decide +kernel
theorem dX4_take_10 : decode cX4_take 10 = .ok (.invokevirtual 85, 3) := by decide +kernel
theorem dX4_take_13 : decode cX4_take 13 = .ok (.ireturn, 1) := by decide +kernel
theorem dX4_take_14 : decode cX4_take 14 = .ok (.aload_n 0, 1) := by decide +kernel
theorem dX4_take_15 : decode cX4_take 15 = .ok (.iconst 0, 1) := by decide +kernel
theorem dX4_take_16 : decode cX4_take 16 = .ok (.putfield 57, 3) := by decide +kernel
theorem dX4_take_19 : decode cX4_take 19 = .ok (.aload_n 0, 1) := by decide +kernel
theorem dX4_take_20 : decode cX4_take 20 = .ok (.iload_n 1, 1) := by decide +kernel
theorem dX4_take_21 : decode cX4_take 21 = .ok (.invokevirtual 111, 3) := by decide +kernel
theorem dX4_take_24 : decode cX4_take 24 = .ok (.ifCond .ne 5, 3) := by decide +kernel
theorem dX4_take_27 : decode cX4_take 27 = .ok (.iconst 0, 1) := by decide +kernel
theorem dX4_take_28 : decode cX4_take 28 = .ok (.ireturn, 1) := by decide +kernel
theorem dX4_take_29 : decode cX4_take 29 = .ok (.aload_n 0, 1) := by decide +kernel
theorem dX4_take_30 : decode cX4_take 30 = .ok (.iload_n 1, 1) := by decide +kernel
theorem dX4_take_31 : decode cX4_take 31 = .ok (.iconst (-1), 1) := by decide +kernel
theorem dX4_take_32 : decode cX4_take 32 = .ok (.invokevirtual 108, 3) := by decide +kernel
theorem dX4_take_35 : decode cX4_take 35 = .ok (.iconst 1, 1) := by decide +kernel
theorem dX4_take_36 : decode cX4_take 36 = .ok (.ireturn, 1) := by decide +kernel
theorem dX4_isTop_0 : decode cX4_isTop 0 = .ok (.aload_n 0, 1) := by decide +kernel
theorem dX4_isTop_1 : decode cX4_isTop 1 = .ok (.getfield 31, 3) := by decide +kernel
theorem dX4_isTop_4 : decode cX4_isTop 4 = .ok (.iload_n 1, 1) := by decide +kernel
theorem dX4_isTop_5 : decode cX4_isTop 5 = .ok (.iaload, 1) := by decide +kernel
theorem dX4_isTop_6 : decode cX4_isTop 6 = .ok (.ifCond .lt 28, 3) := by decide +kernel
theorem dX4_isTop_9 : decode cX4_isTop 9 = .ok (.aload_n 0, 1) := by decide +kernel
theorem dX4_isTop_10 : decode cX4_isTop 10 = .ok (.getfield 34, 3) := by decide +kernel
theorem dX4_isTop_13 : decode cX4_isTop 13 = .ok (.iload_n 1, 1) := by decide +kernel
theorem dX4_isTop_14 : decode cX4_isTop 14 = .ok (.iaload, 1) := by decide +kernel
theorem dX4_isTop_15 : decode cX4_isTop 15 = .ok (.aload_n 0, 1) := by decide +kernel
theorem dX4_isTop_16 : decode cX4_isTop 16 = .ok (.aload_n 0, 1) := by decide +kernel
theorem dX4_isTop_17 : decode cX4_isTop 17 = .ok (.getfield 31, 3) := by decide +kernel
theorem dX4_isTop_20 : decode cX4_isTop 20 = .ok (.iload_n 1, 1) := by decide +kernel
theorem dX4_isTop_21 : decode cX4_isTop 21 = .ok (.iaload, 1) := by decide +kernel
theorem dX4_isTop_22 : decode cX4_isTop 22 = .ok (.invokevirtual 63, 3) := by decide +kernel
theorem dX4_isTop_25 : decode cX4_isTop 25 = .ok (.iconst 1, 1) := by decide +kernel
theorem dX4_isTop_26 : decode cX4_isTop 26 = .ok (.isub, 1) := by decide +kernel
theorem dX4_isTop_27 : decode cX4_isTop 27 = .ok (.if_icmp .ne 7, 3) := by decide +kernel
theorem dX4_isTop_30 : decode cX4_isTop 30 = .ok (.iconst 1, 1) := by decide +kernel
theorem dX4_isTop_31 : decode cX4_isTop 31 = .ok (.goto 4, 3) := by decide +kernel
theorem dX4_isTop_34 : decode cX4_isTop 34 = .ok (.iconst 0, 1) := by decide +kernel
theorem dX4_isTop_35 : decode cX4_isTop 35 = .ok (.ireturn, 1) := by decide +kernel
theorem dX4_shift_0 : decode cX4_shift 0 = .ok (.aload_n 0, 1) := by decide +kernel
theorem dX4_shift_1 : decode cX4_shift 1 = .ok (.iload_n 1, 1) := by decide +kernel
theorem dX4_shift_2 : decode cX4_shift 2 = .ok (.invokevirtual 102, 3) := by decide +kernel
theorem dX4_shift_5 : decode cX4_shift 5 = .ok (.ifCond .eq 11, 3) := by decide +kernel
theorem dX4_shift_8 : decode cX4_shift 8 = .ok (.aload_n 0, 1) := by decide +kernel
theorem dX4_shift_9 : decode cX4_shift 9 = .ok (.iload_n 2, 1) := by decide +kernel
theorem dX4_shift_10 : decode cX4_shift 10 = .ok (.invokevirtual 88, 3) := by decide +kernel
theorem dX4_shift_13 : decode cX4_shift 13 = .ok (.ifCond .ne 9, 3) := by decide +kernel
theorem dX4_shift_16 : decode cX4_shift 16 = .ok (.aload_n 0, 1) := by decide +kernel
theorem dX4_shift_17 : decode cX4_shift 17 = .ok (.iconst 1, 1) := by decide +kernel
theorem dX4_shift_18 : decode cX4_shift 18 = .ok (.invokevirtual 85, 3) := by decide +kernel
theorem dX4_shift_21 : decode cX4_shift 21 = .ok (.ireturn, 1) := by decide +kernel
theorem dX4_shift_22 : decode cX4_shift 22 = .ok (.aload_n 0, 1) := by decide +kernel
theorem dX4_shift_23 : decode cX4_shift 23 = .ok (.iconst 0, 1) := by decide +kernel
theorem dX4_shift_24 : decode cX4_shift 24 = .ok (.putfield 57, 3) := by decide +kernel
theorem dX4_shift_27 : decode cX4_shift 27 = .ok (.aload_n 0, 1) := by decide +kernel
theorem dX4_shift_28 : decode cX4_shift 28 = .ok (.iload_n 1, 1) := by decide +kernel
theorem dX4_shift_29 : decode cX4_shift 29 = .ok (.invokevirtual 111, 3) := by decide +kernel
theorem dX4_shift_32 : decode cX4_shift 32 = .ok (.ifCond .ne 5, 3) := by decide +kernel
theorem dX4_shift_35 : decode cX4_shift 35 = .ok (.iconst 0, 1) := by decide +kernel
theorem dX4_shift_36 : decode cX4_shift 36 = .ok (.ireturn, 1) := by decide +kernel
theorem dX4_shift_37 : decode cX4_shift 37 = .ok (.aload_n 0, 1) := by decide +kernel
theorem dX4_shift_38 : decode cX4_shift 38 = .ok (.getfield 31, 3) := by decide +kernel
theorem dX4_shift_41 : decode cX4_shift 41 = .ok (.iload_n 1, 1) := by decide +kernel
theorem dX4_shift_42 : decode cX4_shift 42 = .ok (.iaload, 1) := by decide +kernel
theorem dX4_shift_43 : decode cX4_shift 43 = .ok (.iload_n 2, 1) := by decide +kernel
theorem dX4_shift_44 : decode cX4_shift 44 = .ok (.if_icmp .ne 7, 3) := by decide +kernel
theorem dX4_shift_47 : decode cX4_shift 47 = .ok (.iconst 1, 1) := by decide +kernel
theorem dX4_shift_48 : decode cX4_shift 48 = .ok (.goto 9, 3) := by decide +kernel
theorem dX4_shift_51 : decode cX4_shift 51 = .ok (.aload_n 0, 1) := by decide +kernel
theorem dX4_shift_52 : decode cX4_shift 52 = .ok (.iload_n 1, 1) := by decide +kernel
theorem dX4_shift_53 : decode cX4_shift 53 = .ok (.iload_n 2, 1) := by decide +kernel
theorem dX4_shift_54 : decode cX4_shift 54 = .ok (.invokevirtual 105, 3) := by decide +kernel
theorem dX4_shift_57 : decode cX4_shift 57 = .ok (.istore_n 3, 1) := by decide +kernel
theorem dX4_shift_58 : decode cX4_shift 58 = .ok (.iload_n 3, 1) := by decide +kernel
theorem dX4_shift_59 : decode cX4_shift 59 = .ok (.ifCond .le 6, 3) := by decide +kernel
theorem dX4_shift_62 : decode cX4_shift 62 = .ok (.iload_n 3, 1) := by decide +kernel
theorem dX4_shift_63 : decode cX4_shift 63 = .ok (.ineg, 1) := by decide +kernel
theorem dX4_shift_64 : decode cX4_shift 64 = .ok (.ireturn, 1) := by decide +kernel
theorem dX4_shift_65 : decode cX4_shift 65 = .ok (.aload_n 0, 1) := by decide +kernel
theorem dX4_shift_66 : decode cX4_shift 66 = .ok (.iload_n 1, 1) := by decide +kernel
theorem dX4_shift_67 : decode cX4_shift 67 = .ok (.iload_n 2, 1) := by decide +kernel
theorem dX4_shift_68 : decode cX4_shift 68 = .ok (.invokevirtual 108, 3) := by decide +kernel
theorem dX4_shift_71 : decode cX4_shift 71 = .ok (.iconst 1, 1) := by decide +kernel
theorem dX4_shift_72 : decode cX4_shift 72 = .ok (.ireturn, 1) := by decide +kernel
theorem dX4_choose_0 : decode cX4_choose 0 = .ok (.aload_n 0, 1) := by decide +kernel
theorem dX4_choose_1 : decode cX4_choose 1 = .ok (.iload_n 1, 1) := by decide +kernel
theorem dX4_choose_2 : decode cX4_choose 2 = .ok (.invokevirtual 102, 3) := by decide +kernel
theorem dX4_choose_5 : decode cX4_choose 5 = .ok (.ifCond .ne 9, 3) := by decide +kernel
theorem dX4_choose_8 : decode cX4_choose 8 = .ok (.aload_n 0, 1) := by decide +kernel
theorem dX4_choose_9 : decode cX4_choose 9 = .ok (.iconst 1, 1) := by decide +kernel
theorem dX4_choose_10 : decode cX4_choose 10 = .ok (.invokevirtual 85, 3) := by decide +kernel
theorem dX4_choose_13 : decode cX4_choose 13 = .ok (.ireturn, 1) := by decide +kernel
theorem dX4_choose_14 : decode cX4_choose 14 = .ok (.aload_n 0, 1) := by decide +kernel
theorem dX4_choose_15 : decode cX4_choose 15 = .ok (.iconst 0, 1) := by decide +kernel
theorem dX4_choose_16 : decode cX4_choose 16 = .ok (.putfield 57, 3) := by decide +kernel
theorem dX4_choose_19 : decode cX4_choose 19 = .ok (.iconst (-1), 1) := by decide +kernel
theorem dX4_choose_20 : decode cX4_choose 20 = .ok (.istore_n 2, 1) := by decide +kernel
theorem dX4_choose_21 : decode cX4_choose 21 = .ok (.aload_n 0, 1) := by decide +kernel
theorem dX4_choose_22 : decode cX4_choose 22 = .ok (.getfield 47, 3) := by decide +kernel
theorem dX4_choose_25 : decode cX4_choose 25 = .ok (.iconst 1, 1) := by decide +kernel
theorem dX4_choose_26 : decode cX4_choose 26 = .ok (.isub, 1) := by decide +kernel
theorem dX4_choose_27 : decode cX4_choose 27 = .ok (.istore_n 3, 1) := by decide +kernel
theorem dX4_choose_28 : decode cX4_choose 28 = .ok (.iload_n 3, 1) := by decide +kernel
theorem dX4_choose_29 : decode cX4_choose 29 = .ok (.ifCond .lt 48, 3) := by decide +kernel
theorem dX4_choose_32 : decode cX4_choose 32 = .ok (.aload_n 0, 1) := by decide +kernel
theorem dX4_choose_33 : decode cX4_choose 33 = .ok (.getfield 31, 3) := by decide +kernel
theorem dX4_choose_36 : decode cX4_choose 36 = .ok (.iload_n 1, 1) := by decide +kernel
theorem dX4_choose_37 : decode cX4_choose 37 = .ok (.iaload, 1) := by decide +kernel
theorem dX4_choose_38 : decode cX4_choose 38 = .ok (.ifCond .ge 39, 3) := by decide +kernel
theorem dX4_choose_41 : decode cX4_choose 41 = .ok (.aload_n 0, 1) := by decide +kernel
theorem dX4_choose_42 : decode cX4_choose 42 = .ok (.iload_n 1, 1) := by decide +kernel
theorem dX4_choose_43 : decode cX4_choose 43 = .ok (.iload_n 3, 1) := by decide +kernel
theorem dX4_choose_44 : decode cX4_choose 44 = .ok (.invokevirtual 105, 3) := by decide +kernel
theorem dX4_choose_47 : decode cX4_choose 47 = .ok (.ifCond .ne 24, 3) := by decide +kernel
theorem dX4_choose_50 : decode cX4_choose 50 = .ok (.iload_n 2, 1) := by decide +kernel
theorem dX4_choose_51 : decode cX4_choose 51 = .ok (.ifCond .lt 18, 3) := by decide +kernel
theorem dX4_choose_54 : decode cX4_choose 54 = .ok (.aload_n 0, 1) := by decide +kernel
theorem dX4_choose_55 : decode cX4_choose 55 = .ok (.iload_n 1, 1) := by decide +kernel
theorem dX4_choose_56 : decode cX4_choose 56 = .ok (.iload_n 3, 1) := by decide +kernel
theorem dX4_choose_57 : decode cX4_choose 57 = .ok (.invokevirtual 114, 3) := by decide +kernel
theorem dX4_choose_60 : decode cX4_choose 60 = .ok (.aload_n 0, 1) := by decide +kernel
theorem dX4_choose_61 : decode cX4_choose 61 = .ok (.iload_n 1, 1) := by decide +kernel
theorem dX4_choose_62 : decode cX4_choose 62 = .ok (.iload_n 2, 1) := by decide +kernel
theorem dX4_choose_63 : decode cX4_choose 63 = .ok (.invokevirtual 114, 3) := by decide +kernel
theorem dX4_choose_66 : decode cX4_choose 66 = .ok (.if_icmp .lt 5, 3) := by decide +kernel
theorem dX4_choose_69 : decode cX4_choose 69 = .ok (.iload_n 3, 1) := by decide +kernel
theorem dX4_choose_70 : decode cX4_choose 70 = .ok (.istore_n 2, 1) := by decide +kernel
theorem dX4_choose_71 : decode cX4_choose 71 = .ok (.iinc 3 (-1), 3) := by decide +kernel
theorem dX4_choose_74 : decode cX4_choose 74 = .ok (.goto (-46), 3) := by decide +kernel
theorem dX4_choose_77 : decode cX4_choose 77 = .ok (.iload_n 2, 1) := by decide +kernel
theorem dX4_choose_78 : decode cX4_choose 78 = .ok (.ireturn, 1) := by decide +kernel
theorem dX4_scoreOf_0 : decode cX4_scoreOf 0 = .ok (.aload_n 0, 1) := by decide +kernel
theorem dX4_scoreOf_1 : decode cX4_scoreOf 1 = .ok (.iload_n 2, 1) := by decide +kernel
theorem dX4_scoreOf_2 : decode cX4_scoreOf 2 = .ok (.invokevirtual 63, 3) := by decide +kernel
theorem dX4_scoreOf_5 : decode cX4_scoreOf 5 = .ok (.istore_n 3, 1) := by decide +kernel
theorem dX4_scoreOf_6 : decode cX4_scoreOf 6 = .ok (.aload_n 0, 1) := by decide +kernel
theorem dX4_scoreOf_7 : decode cX4_scoreOf 7 = .ok (.getfield 13, 3) := by decide +kernel
theorem dX4_scoreOf_10 : decode cX4_scoreOf 10 = .ok (.iload_n 2, 1) := by decide +kernel
theorem dX4_scoreOf_11 : decode cX4_scoreOf 11 = .ok (.iaload, 1) := by decide +kernel
theorem dX4_scoreOf_12 : decode cX4_scoreOf 12 = .ok (.ifCond .le 8, 3) := by decide +kernel
theorem dX4_scoreOf_15 : decode cX4_scoreOf 15 = .ok (.bipush 30, 2) := by decide +kernel
theorem dX4_scoreOf_17 : decode cX4_scoreOf 17 = .ok (.goto 4, 3) := by decide +kernel
theorem dX4_scoreOf_20 : decode cX4_scoreOf 20 = .ok (.iconst 0, 1) := by decide +kernel
theorem dX4_scoreOf_21 : decode cX4_scoreOf 21 = .ok (.istore 4, 2) := by decide +kernel
theorem dX4_scoreOf_23 : decode cX4_scoreOf 23 = .ok (.iload_n 3, 1) := by decide +kernel
theorem dX4_scoreOf_24 : decode cX4_scoreOf 24 = .ok (.ifCond .ne 9, 3) := by decide +kernel
theorem dX4_scoreOf_27 : decode cX4_scoreOf 27 = .ok (.iload 4, 2) := by decide +kernel
theorem dX4_scoreOf_29 : decode cX4_scoreOf 29 = .ok (.bipush 20, 2) := by decide +kernel
theorem dX4_scoreOf_31 : decode cX4_scoreOf 31 = .ok (.iadd, 1) := by decide +kernel
theorem dX4_scoreOf_32 : decode cX4_scoreOf 32 = .ok (.ireturn, 1) := by decide +kernel
theorem dX4_scoreOf_33 : decode cX4_scoreOf 33 = .ok (.aload_n 0, 1) := by decide +kernel
theorem dX4_scoreOf_34 : decode cX4_scoreOf 34 = .ok (.iload_n 2, 1) := by decide +kernel
theorem dX4_scoreOf_35 : decode cX4_scoreOf 35 = .ok (.iload_n 3, 1) := by decide +kernel
theorem dX4_scoreOf_36 : decode cX4_scoreOf 36 = .ok (.iconst 1, 1) := by decide +kernel
theorem dX4_scoreOf_37 : decode cX4_scoreOf 37 = .ok (.isub, 1) := by decide +kernel
theorem dX4_scoreOf_38 : decode cX4_scoreOf 38 = .ok (.invokevirtual 67, 3) := by decide +kernel
theorem dX4_scoreOf_41 : decode cX4_scoreOf 41 = .ok (.istore 5, 2) := by decide +kernel
theorem dX4_scoreOf_43 : decode cX4_scoreOf 43 = .ok (.iconst 3, 1) := by decide +kernel
theorem dX4_scoreOf_44 : decode cX4_scoreOf 44 = .ok (.aload_n 0, 1) := by decide +kernel
theorem dX4_scoreOf_45 : decode cX4_scoreOf 45 = .ok (.getfield 19, 3) := by decide +kernel
theorem dX4_scoreOf_48 : decode cX4_scoreOf 48 = .ok (.iload 5, 2) := by decide +kernel
theorem dX4_scoreOf_50 : decode cX4_scoreOf 50 = .ok (.iaload, 1) := by decide +kernel
theorem dX4_scoreOf_51 : decode cX4_scoreOf 51 = .ok (.aload_n 0, 1) := by decide +kernel
theorem dX4_scoreOf_52 : decode cX4_scoreOf 52 = .ok (.getfield 19, 3) := by decide +kernel
theorem dX4_scoreOf_55 : decode cX4_scoreOf 55 = .ok (.iload_n 1, 1) := by decide +kernel
theorem dX4_scoreOf_56 : decode cX4_scoreOf 56 = .ok (.iaload, 1) := by decide +kernel
theorem dX4_scoreOf_57 : decode cX4_scoreOf 57 = .ok (.isub, 1) := by decide +kernel
theorem dX4_scoreOf_58 : decode cX4_scoreOf 58 = .ok (.imul, 1) := by decide +kernel
theorem dX4_scoreOf_59 : decode cX4_scoreOf 59 = .ok (.istore 6, 2) := by decide +kernel
theorem dX4_scoreOf_61 : decode cX4_scoreOf 61 = .ok (.iload 4, 2) := by decide +kernel
theorem dX4_scoreOf_63 : decode cX4_scoreOf 63 = .ok (.bipush 40, 2) := by decide +kernel
theorem dX4_scoreOf_65 : decode cX4_scoreOf 65 = .ok (.iadd, 1) := by decide +kernel
theorem dX4_scoreOf_66 : decode cX4_scoreOf 66 = .ok (.bipush 15, 2) := by decide +kernel
theorem dX4_scoreOf_68 : decode cX4_scoreOf 68 = .ok (.aload_n 0, 1) := by decide +kernel
theorem dX4_scoreOf_69 : decode cX4_scoreOf 69 = .ok (.iload_n 1, 1) := by decide +kernel
theorem dX4_scoreOf_70 : decode cX4_scoreOf 70 = .ok (.iload_n 2, 1) := by decide +kernel
theorem dX4_scoreOf_71 : decode cX4_scoreOf 71 = .ok (.iload_n 3, 1) := by decide +kernel
theorem dX4_scoreOf_72 : decode cX4_scoreOf 72 = .ok (.invokevirtual 77, 3) := by decide +kernel
theorem dX4_scoreOf_75 : decode cX4_scoreOf 75 = .ok (.imul, 1) := by decide +kernel
theorem dX4_scoreOf_76 : decode cX4_scoreOf 76 = .ok (.isub, 1) := by decide +kernel
theorem dX4_scoreOf_77 : decode cX4_scoreOf 77 = .ok (.aload_n 0, 1) := by decide +kernel
theorem dX4_scoreOf_78 : decode cX4_scoreOf 78 = .ok (.getfield 25, 3) := by decide +kernel
theorem dX4_scoreOf_81 : decode cX4_scoreOf 81 = .ok (.iload 5, 2) := by decide +kernel
theorem dX4_scoreOf_83 : decode cX4_scoreOf 83 = .ok (.iaload, 1) := by decide +kernel
theorem dX4_scoreOf_84 : decode cX4_scoreOf 84 = .ok (.aload_n 0, 1) := by decide +kernel
theorem dX4_scoreOf_85 : decode cX4_scoreOf 85 = .ok (.getfield 25, 3) := by decide +kernel
theorem dX4_scoreOf_88 : decode cX4_scoreOf 88 = .ok (.iload_n 1, 1) := by decide +kernel
theorem dX4_scoreOf_89 : decode cX4_scoreOf 89 = .ok (.iaload, 1) := by decide +kernel
theorem dX4_scoreOf_90 : decode cX4_scoreOf 90 = .ok (.if_icmp .ne 8, 3) := by decide +kernel
theorem dX4_scoreOf_93 : decode cX4_scoreOf 93 = .ok (.bipush 12, 2) := by decide +kernel
theorem dX4_scoreOf_95 : decode cX4_scoreOf 95 = .ok (.goto 4, 3) := by decide +kernel
theorem dX4_scoreOf_98 : decode cX4_scoreOf 98 = .ok (.iconst 0, 1) := by decide +kernel
theorem dX4_scoreOf_99 : decode cX4_scoreOf 99 = .ok (.iadd, 1) := by decide +kernel
theorem dX4_scoreOf_100 : decode cX4_scoreOf 100 = .ok (.iload 6, 2) := by decide +kernel
theorem dX4_scoreOf_102 : decode cX4_scoreOf 102 = .ok (.bipush 24, 2) := by decide +kernel
theorem dX4_scoreOf_104 : decode cX4_scoreOf 104 = .ok (.if_icmp .le 8, 3) := by decide +kernel
theorem dX4_scoreOf_107 : decode cX4_scoreOf 107 = .ok (.bipush 24, 2) := by decide +kernel
theorem dX4_scoreOf_109 : decode cX4_scoreOf 109 = .ok (.goto 5, 3) := by decide +kernel
theorem dX4_scoreOf_112 : decode cX4_scoreOf 112 = .ok (.iload 6, 2) := by decide +kernel
theorem dX4_scoreOf_114 : decode cX4_scoreOf 114 = .ok (.isub, 1) := by decide +kernel
theorem dX4_scoreOf_115 : decode cX4_scoreOf 115 = .ok (.ireturn, 1) := by decide +kernel
theorem dX4_sooner_0 : decode cX4_sooner 0 = .ok (.iconst 0, 1) := by decide +kernel
theorem dX4_sooner_1 : decode cX4_sooner 1 = .ok (.istore 4, 2) := by decide +kernel
theorem dX4_sooner_3 : decode cX4_sooner 3 = .ok (.iconst 0, 1) := by decide +kernel
theorem dX4_sooner_4 : decode cX4_sooner 4 = .ok (.istore 5, 2) := by decide +kernel
theorem dX4_sooner_6 : decode cX4_sooner 6 = .ok (.iload 5, 2) := by decide +kernel
theorem dX4_sooner_8 : decode cX4_sooner 8 = .ok (.aload_n 0, 1) := by decide +kernel
theorem dX4_sooner_9 : decode cX4_sooner 9 = .ok (.getfield 60, 3) := by decide +kernel
theorem dX4_sooner_12 : decode cX4_sooner 12 = .ok (.if_icmp .ge 57, 3) := by decide +kernel
theorem dX4_sooner_15 : decode cX4_sooner 15 = .ok (.iload 4, 2) := by decide +kernel
theorem dX4_sooner_17 : decode cX4_sooner 17 = .ok (.aload_n 0, 1) := by decide +kernel
theorem dX4_sooner_18 : decode cX4_sooner 18 = .ok (.getfield 31, 3) := by decide +kernel
theorem dX4_sooner_21 : decode cX4_sooner 21 = .ok (.iload 5, 2) := by decide +kernel
theorem dX4_sooner_23 : decode cX4_sooner 23 = .ok (.iaload, 1) := by decide +kernel
theorem dX4_sooner_24 : decode cX4_sooner 24 = .ok (.iload_n 2, 1) := by decide +kernel
theorem dX4_sooner_25 : decode cX4_sooner 25 = .ok (.if_icmp .ne 34, 3) := by decide +kernel
theorem dX4_sooner_28 : decode cX4_sooner 28 = .ok (.aload_n 0, 1) := by decide +kernel
theorem dX4_sooner_29 : decode cX4_sooner 29 = .ok (.getfield 34, 3) := by decide +kernel
theorem dX4_sooner_32 : decode cX4_sooner 32 = .ok (.iload 5, 2) := by decide +kernel
theorem dX4_sooner_34 : decode cX4_sooner 34 = .ok (.iaload, 1) := by decide +kernel
theorem dX4_sooner_35 : decode cX4_sooner 35 = .ok (.iload_n 3, 1) := by decide +kernel
theorem dX4_sooner_36 : decode cX4_sooner 36 = .ok (.if_icmp .ge 23, 3) := by decide +kernel
theorem dX4_sooner_39 : decode cX4_sooner 39 = .ok (.aload_n 0, 1) := by decide +kernel
theorem dX4_sooner_40 : decode cX4_sooner 40 = .ok (.getfield 22, 3) := by decide +kernel
theorem dX4_sooner_43 : decode cX4_sooner 43 = .ok (.iload 5, 2) := by decide +kernel
theorem dX4_sooner_45 : decode cX4_sooner 45 = .ok (.iaload, 1) := by decide +kernel
theorem dX4_sooner_46 : decode cX4_sooner 46 = .ok (.aload_n 0, 1) := by decide +kernel
theorem dX4_sooner_47 : decode cX4_sooner 47 = .ok (.getfield 22, 3) := by decide +kernel
theorem dX4_sooner_50 : decode cX4_sooner 50 = .ok (.iload_n 1, 1) := by decide +kernel
theorem dX4_sooner_51 : decode cX4_sooner 51 = .ok (.iaload, 1) := by decide +kernel
theorem dX4_sooner_52 : decode cX4_sooner 52 = .ok (.if_icmp .ge 7, 3) := by decide +kernel
theorem dX4_sooner_55 : decode cX4_sooner 55 = .ok (.iconst 1, 1) := by decide +kernel
theorem dX4_sooner_56 : decode cX4_sooner 56 = .ok (.goto 4, 3) := by decide +kernel
theorem dX4_sooner_59 : decode cX4_sooner 59 = .ok (.iconst 0, 1) := by decide +kernel
theorem dX4_sooner_60 : decode cX4_sooner 60 = .ok (.iadd, 1) := by decide +kernel
theorem dX4_sooner_61 : decode cX4_sooner 61 = .ok (.istore 4, 2) := by decide +kernel
theorem dX4_sooner_63 : decode cX4_sooner 63 = .ok (.iinc 5 1, 3) := by decide +kernel
theorem dX4_sooner_66 : decode cX4_sooner 66 = .ok (.goto (-60), 3) := by decide +kernel
theorem dX4_sooner_69 : decode cX4_sooner 69 = .ok (.iload 4, 2) := by decide +kernel
theorem dX4_sooner_71 : decode cX4_sooner 71 = .ok (.ireturn, 1) := by decide +kernel
theorem dX4_score_0 : decode cX4_score 0 = .ok (.aload_n 0, 1) := by decide +kernel
theorem dX4_score_1 : decode cX4_score 1 = .ok (.iload_n 1, 1) := by decide +kernel
theorem dX4_score_2 : decode cX4_score 2 = .ok (.invokevirtual 102, 3) := by decide +kernel
theorem dX4_score_5 : decode cX4_score 5 = .ok (.ifCond .eq 11, 3) := by decide +kernel
theorem dX4_score_8 : decode cX4_score 8 = .ok (.aload_n 0, 1) := by decide +kernel
theorem dX4_score_9 : decode cX4_score 9 = .ok (.iload_n 2, 1) := by decide +kernel
theorem dX4_score_10 : decode cX4_score 10 = .ok (.invokevirtual 88, 3) := by decide +kernel
theorem dX4_score_13 : decode cX4_score 13 = .ok (.ifCond .ne 9, 3) := by decide +kernel
theorem dX4_score_16 : decode cX4_score 16 = .ok (.aload_n 0, 1) := by decide +kernel
theorem dX4_score_17 : decode cX4_score 17 = .ok (.iconst 1, 1) := by decide +kernel
theorem dX4_score_18 : decode cX4_score 18 = .ok (.invokevirtual 85, 3) := by decide +kernel
theorem dX4_score_21 : decode cX4_score 21 = .ok (.ireturn, 1) := by decide +kernel
theorem dX4_score_22 : decode cX4_score 22 = .ok (.aload_n 0, 1) := by decide +kernel
theorem dX4_score_23 : decode cX4_score 23 = .ok (.getfield 31, 3) := by decide +kernel
theorem dX4_score_26 : decode cX4_score 26 = .ok (.iload_n 1, 1) := by decide +kernel
theorem dX4_score_27 : decode cX4_score 27 = .ok (.iaload, 1) := by decide +kernel
theorem dX4_score_28 : decode cX4_score 28 = .ok (.ifCond .ge 12, 3) := by decide +kernel
theorem dX4_score_31 : decode cX4_score 31 = .ok (.aload_n 0, 1) := by decide +kernel
theorem dX4_score_32 : decode cX4_score 32 = .ok (.iload_n 1, 1) := by decide +kernel
theorem dX4_score_33 : decode cX4_score 33 = .ok (.iload_n 2, 1) := by decide +kernel
theorem dX4_score_34 : decode cX4_score 34 = .ok (.invokevirtual 105, 3) := by decide +kernel
theorem dX4_score_37 : decode cX4_score 37 = .ok (.ifCond .le 9, 3) := by decide +kernel
theorem dX4_score_40 : decode cX4_score 40 = .ok (.aload_n 0, 1) := by decide +kernel
theorem dX4_score_41 : decode cX4_score 41 = .ok (.iconst 2, 1) := by decide +kernel
theorem dX4_score_42 : decode cX4_score 42 = .ok (.invokevirtual 85, 3) := by decide +kernel
theorem dX4_score_45 : decode cX4_score 45 = .ok (.ireturn, 1) := by decide +kernel
theorem dX4_score_46 : decode cX4_score 46 = .ok (.aload_n 0, 1) := by decide +kernel
theorem dX4_score_47 : decode cX4_score 47 = .ok (.iconst 0, 1) := by decide +kernel
theorem dX4_score_48 : decode cX4_score 48 = .ok (.putfield 57, 3) := by decide +kernel
theorem dX4_score_51 : decode cX4_score 51 = .ok (.aload_n 0, 1) := by decide +kernel
theorem dX4_score_52 : decode cX4_score 52 = .ok (.iload_n 1, 1) := by decide +kernel
theorem dX4_score_53 : decode cX4_score 53 = .ok (.iload_n 2, 1) := by decide +kernel
theorem dX4_score_54 : decode cX4_score 54 = .ok (.invokevirtual 114, 3) := by decide +kernel
theorem dX4_score_57 : decode cX4_score 57 = .ok (.ireturn, 1) := by decide +kernel
theorem dX4_night_0 : decode cX4_night 0 = .ok (.iload_n 1, 1) := by decide +kernel
theorem dX4_night_1 : decode cX4_night 1 = .ok (.iconst 0, 1) := by decide +kernel
theorem dX4_night_2 : decode cX4_night 2 = .ok (.bipush 50, 2) := by decide +kernel
theorem dX4_night_4 : decode cX4_night 4 = .ok (.invokestatic 81, 3) := by decide +kernel
theorem dX4_night_7 : decode cX4_night 7 = .ok (.ifCond .ne 9, 3) := by decide +kernel
theorem dX4_night_10 : decode cX4_night 10 = .ok (.aload_n 0, 1) := by decide +kernel
theorem dX4_night_11 : decode cX4_night 11 = .ok (.iconst 1, 1) := by decide +kernel
theorem dX4_night_12 : decode cX4_night 12 = .ok (.invokevirtual 85, 3) := by decide +kernel
theorem dX4_night_15 : decode cX4_night 15 = .ok (.ireturn, 1) := by decide +kernel
theorem dX4_night_16 : decode cX4_night 16 = .ok (.aload_n 0, 1) := by decide +kernel
theorem dX4_night_17 : decode cX4_night 17 = .ok (.iconst 0, 1) := by decide +kernel
theorem dX4_night_18 : decode cX4_night 18 = .ok (.putfield 57, 3) := by decide +kernel
theorem dX4_night_21 : decode cX4_night 21 = .ok (.iconst 0, 1) := by decide +kernel
theorem dX4_night_22 : decode cX4_night 22 = .ok (.istore_n 2, 1) := by decide +kernel
theorem dX4_night_23 : decode cX4_night 23 = .ok (.aload_n 0, 1) := by decide +kernel
theorem dX4_night_24 : decode cX4_night 24 = .ok (.invokevirtual 120, 3) := by decide +kernel
theorem dX4_night_27 : decode cX4_night 27 = .ok (.istore_n 3, 1) := by decide +kernel
theorem dX4_night_28 : decode cX4_night 28 = .ok (.iload_n 2, 1) := by decide +kernel
theorem dX4_night_29 : decode cX4_night 29 = .ok (.iload_n 1, 1) := by decide +kernel
theorem dX4_night_30 : decode cX4_night 30 = .ok (.if_icmp .ge 28, 3) := by decide +kernel
theorem dX4_night_33 : decode cX4_night 33 = .ok (.iload_n 3, 1) := by decide +kernel
theorem dX4_night_34 : decode cX4_night 34 = .ok (.ifCond .lt 24, 3) := by decide +kernel
theorem dX4_night_37 : decode cX4_night 37 = .ok (.aload_n 0, 1) := by decide +kernel
theorem dX4_night_38 : decode cX4_night 38 = .ok (.iload_n 3, 1) := by decide +kernel
theorem dX4_night_39 : decode cX4_night 39 = .ok (.aload_n 0, 1) := by decide +kernel
theorem dX4_night_40 : decode cX4_night 40 = .ok (.iload_n 3, 1) := by decide +kernel
theorem dX4_night_41 : decode cX4_night 41 = .ok (.invokevirtual 117, 3) := by decide +kernel
theorem dX4_night_44 : decode cX4_night 44 = .ok (.invokevirtual 108, 3) := by decide +kernel
theorem dX4_night_47 : decode cX4_night 47 = .ok (.iinc 2 1, 3) := by decide +kernel
theorem dX4_night_50 : decode cX4_night 50 = .ok (.aload_n 0, 1) := by decide +kernel
theorem dX4_night_51 : decode cX4_night 51 = .ok (.invokevirtual 120, 3) := by decide +kernel
theorem dX4_night_54 : decode cX4_night 54 = .ok (.istore_n 3, 1) := by decide +kernel
theorem dX4_night_55 : decode cX4_night 55 = .ok (.goto (-27), 3) := by decide +kernel
theorem dX4_night_58 : decode cX4_night 58 = .ok (.iload_n 2, 1) := by decide +kernel
theorem dX4_night_59 : decode cX4_night 59 = .ok (.ireturn, 1) := by decide +kernel
theorem dX4_worst_0 : decode cX4_worst 0 = .ok (.iconst (-1), 1) := by decide +kernel
theorem dX4_worst_1 : decode cX4_worst 1 = .ok (.istore_n 1, 1) := by decide +kernel
theorem dX4_worst_2 : decode cX4_worst 2 = .ok (.iconst 0, 1) := by decide +kernel
theorem dX4_worst_3 : decode cX4_worst 3 = .ok (.istore_n 2, 1) := by decide +kernel
theorem dX4_worst_4 : decode cX4_worst 4 = .ok (.iconst 0, 1) := by decide +kernel
theorem dX4_worst_5 : decode cX4_worst 5 = .ok (.istore_n 3, 1) := by decide +kernel
theorem dX4_worst_6 : decode cX4_worst 6 = .ok (.iload_n 3, 1) := by decide +kernel
theorem dX4_worst_7 : decode cX4_worst 7 = .ok (.aload_n 0, 1) := by decide +kernel
theorem dX4_worst_8 : decode cX4_worst 8 = .ok (.getfield 47, 3) := by decide +kernel
theorem dX4_worst_11 : decode cX4_worst 11 = .ok (.if_icmp .ge 69, 3) := by decide +kernel
theorem dX4_worst_14 : decode cX4_worst 14 = .ok (.aload_n 0, 1) := by decide +kernel
theorem dX4_worst_15 : decode cX4_worst 15 = .ok (.iload_n 3, 1) := by decide +kernel
theorem dX4_worst_16 : decode cX4_worst 16 = .ok (.aload_n 0, 1) := by decide +kernel
theorem dX4_worst_17 : decode cX4_worst 17 = .ok (.iload_n 3, 1) := by decide +kernel
theorem dX4_worst_18 : decode cX4_worst 18 = .ok (.invokevirtual 63, 3) := by decide +kernel
theorem dX4_worst_21 : decode cX4_worst 21 = .ok (.iconst 1, 1) := by decide +kernel
theorem dX4_worst_22 : decode cX4_worst 22 = .ok (.isub, 1) := by decide +kernel
theorem dX4_worst_23 : decode cX4_worst 23 = .ok (.invokevirtual 67, 3) := by decide +kernel
theorem dX4_worst_26 : decode cX4_worst 26 = .ok (.istore 4, 2) := by decide +kernel
theorem dX4_worst_28 : decode cX4_worst 28 = .ok (.iload 4, 2) := by decide +kernel
theorem dX4_worst_30 : decode cX4_worst 30 = .ok (.ifCond .ge 7, 3) := by decide +kernel
theorem dX4_worst_33 : decode cX4_worst 33 = .ok (.iconst 0, 1) := by decide +kernel
theorem dX4_worst_34 : decode cX4_worst 34 = .ok (.goto 17, 3) := by decide +kernel
theorem dX4_worst_37 : decode cX4_worst 37 = .ok (.aload_n 0, 1) := by decide +kernel
theorem dX4_worst_38 : decode cX4_worst 38 = .ok (.iload 4, 2) := by decide +kernel
theorem dX4_worst_40 : decode cX4_worst 40 = .ok (.iload_n 3, 1) := by decide +kernel
theorem dX4_worst_41 : decode cX4_worst 41 = .ok (.aload_n 0, 1) := by decide +kernel
theorem dX4_worst_42 : decode cX4_worst 42 = .ok (.getfield 34, 3) := by decide +kernel
theorem dX4_worst_45 : decode cX4_worst 45 = .ok (.iload 4, 2) := by decide +kernel
theorem dX4_worst_47 : decode cX4_worst 47 = .ok (.iaload, 1) := by decide +kernel
theorem dX4_worst_48 : decode cX4_worst 48 = .ok (.invokevirtual 77, 3) := by decide +kernel
theorem dX4_worst_51 : decode cX4_worst 51 = .ok (.istore 5, 2) := by decide +kernel
theorem dX4_worst_53 : decode cX4_worst 53 = .ok (.iload 5, 2) := by decide +kernel
theorem dX4_worst_55 : decode cX4_worst 55 = .ok (.iload_n 2, 1) := by decide +kernel
theorem dX4_worst_56 : decode cX4_worst 56 = .ok (.if_icmp .le 18, 3) := by decide +kernel
theorem dX4_worst_59 : decode cX4_worst 59 = .ok (.aload_n 0, 1) := by decide +kernel
theorem dX4_worst_60 : decode cX4_worst 60 = .ok (.iload 4, 2) := by decide +kernel
theorem dX4_worst_62 : decode cX4_worst 62 = .ok (.invokevirtual 117, 3) := by decide +kernel
theorem dX4_worst_65 : decode cX4_worst 65 = .ok (.ifCond .lt 9, 3) := by decide +kernel
theorem dX4_worst_68 : decode cX4_worst 68 = .ok (.iload 4, 2) := by decide +kernel
theorem dX4_worst_70 : decode cX4_worst 70 = .ok (.istore_n 1, 1) := by decide +kernel
theorem dX4_worst_71 : decode cX4_worst 71 = .ok (.iload 5, 2) := by decide +kernel
theorem dX4_worst_73 : decode cX4_worst 73 = .ok (.istore_n 2, 1) := by decide +kernel
theorem dX4_worst_74 : decode cX4_worst 74 = .ok (.iinc 3 1, 3) := by decide +kernel
theorem dX4_worst_77 : decode cX4_worst 77 = .ok (.goto (-71), 3) := by decide +kernel
theorem dX4_worst_80 : decode cX4_worst 80 = .ok (.iload_n 1, 1) := by decide +kernel
theorem dX4_worst_81 : decode cX4_worst 81 = .ok (.ireturn, 1) := by decide +kernel
theorem dX4_aside_0 : decode cX4_aside 0 = .ok (.iconst (-1), 1) := by decide +kernel
theorem dX4_aside_1 : decode cX4_aside 1 = .ok (.istore_n 2, 1) := by decide +kernel
theorem dX4_aside_2 : decode cX4_aside 2 = .ok (.aload_n 0, 1) := by decide +kernel
theorem dX4_aside_3 : decode cX4_aside 3 = .ok (.getfield 47, 3) := by decide +kernel
theorem dX4_aside_6 : decode cX4_aside 6 = .ok (.iconst 1, 1) := by decide +kernel
theorem dX4_aside_7 : decode cX4_aside 7 = .ok (.isub, 1) := by decide +kernel
theorem dX4_aside_8 : decode cX4_aside 8 = .ok (.istore_n 3, 1) := by decide +kernel
theorem dX4_aside_9 : decode cX4_aside 9 = .ok (.iload_n 3, 1) := by decide +kernel
theorem dX4_aside_10 : decode cX4_aside 10 = .ok (.ifCond .lt 74, 3) := by decide +kernel
theorem dX4_aside_13 : decode cX4_aside 13 = .ok (.iload_n 3, 1) := by decide +kernel
theorem dX4_aside_14 : decode cX4_aside 14 = .ok (.aload_n 0, 1) := by decide +kernel
theorem dX4_aside_15 : decode cX4_aside 15 = .ok (.getfield 31, 3) := by decide +kernel
theorem dX4_aside_18 : decode cX4_aside 18 = .ok (.iload_n 1, 1) := by decide +kernel
theorem dX4_aside_19 : decode cX4_aside 19 = .ok (.iaload, 1) := by decide +kernel
theorem dX4_aside_20 : decode cX4_aside 20 = .ok (.if_icmp .eq 29, 3) := by decide +kernel
theorem dX4_aside_23 : decode cX4_aside 23 = .ok (.aload_n 0, 1) := by decide +kernel
theorem dX4_aside_24 : decode cX4_aside 24 = .ok (.iload_n 1, 1) := by decide +kernel
theorem dX4_aside_25 : decode cX4_aside 25 = .ok (.iload_n 3, 1) := by decide +kernel
theorem dX4_aside_26 : decode cX4_aside 26 = .ok (.invokevirtual 105, 3) := by decide +kernel
theorem dX4_aside_29 : decode cX4_aside 29 = .ok (.ifCond .ne 20, 3) := by decide +kernel
theorem dX4_aside_32 : decode cX4_aside 32 = .ok (.aload_n 0, 1) := by decide +kernel
theorem dX4_aside_33 : decode cX4_aside 33 = .ok (.iload_n 1, 1) := by decide +kernel
theorem dX4_aside_34 : decode cX4_aside 34 = .ok (.iload_n 3, 1) := by decide +kernel
theorem dX4_aside_35 : decode cX4_aside 35 = .ok (.aload_n 0, 1) := by decide +kernel
theorem dX4_aside_36 : decode cX4_aside 36 = .ok (.getfield 51, 3) := by decide +kernel
theorem dX4_aside_39 : decode cX4_aside 39 = .ok (.invokevirtual 77, 3) := by decide +kernel
theorem dX4_aside_42 : decode cX4_aside 42 = .ok (.ifCond .ne 7, 3) := by decide +kernel
theorem dX4_aside_45 : decode cX4_aside 45 = .ok (.iconst 1, 1) := by decide +kernel
theorem dX4_aside_46 : decode cX4_aside 46 = .ok (.goto 4, 3) := by decide +kernel
theorem dX4_aside_49 : decode cX4_aside 49 = .ok (.iconst 0, 1) := by decide +kernel
theorem dX4_aside_50 : decode cX4_aside 50 = .ok (.istore 4, 2) := by decide +kernel
theorem dX4_aside_52 : decode cX4_aside 52 = .ok (.iload 4, 2) := by decide +kernel
theorem dX4_aside_54 : decode cX4_aside 54 = .ok (.ifCond .eq 24, 3) := by decide +kernel
theorem dX4_aside_57 : decode cX4_aside 57 = .ok (.iload_n 2, 1) := by decide +kernel
theorem dX4_aside_58 : decode cX4_aside 58 = .ok (.ifCond .lt 18, 3) := by decide +kernel
theorem dX4_aside_61 : decode cX4_aside 61 = .ok (.aload_n 0, 1) := by decide +kernel
theorem dX4_aside_62 : decode cX4_aside 62 = .ok (.iload_n 1, 1) := by decide +kernel
theorem dX4_aside_63 : decode cX4_aside 63 = .ok (.iload_n 3, 1) := by decide +kernel
theorem dX4_aside_64 : decode cX4_aside 64 = .ok (.invokevirtual 114, 3) := by decide +kernel
theorem dX4_aside_67 : decode cX4_aside 67 = .ok (.aload_n 0, 1) := by decide +kernel
theorem dX4_aside_68 : decode cX4_aside 68 = .ok (.iload_n 1, 1) := by decide +kernel
theorem dX4_aside_69 : decode cX4_aside 69 = .ok (.iload_n 2, 1) := by decide +kernel
theorem dX4_aside_70 : decode cX4_aside 70 = .ok (.invokevirtual 114, 3) := by decide +kernel
theorem dX4_aside_73 : decode cX4_aside 73 = .ok (.if_icmp .lt 5, 3) := by decide +kernel
theorem dX4_aside_76 : decode cX4_aside 76 = .ok (.iload_n 3, 1) := by decide +kernel
theorem dX4_aside_77 : decode cX4_aside 77 = .ok (.istore_n 2, 1) := by decide +kernel
theorem dX4_aside_78 : decode cX4_aside 78 = .ok (.iinc 3 (-1), 3) := by decide +kernel
theorem dX4_aside_81 : decode cX4_aside 81 = .ok (.goto (-72), 3) := by decide +kernel
theorem dX4_aside_84 : decode cX4_aside 84 = .ok (.iload_n 2, 1) := by decide +kernel
theorem dX4_aside_85 : decode cX4_aside 85 = .ok (.ireturn, 1) := by decide +kernel
theorem dX4_undo_0 : decode cX4_undo 0 = .ok (.aload_n 0, 1) := by decide +kernel
theorem dX4_undo_1 : decode cX4_undo 1 = .ok (.iconst 0, 1) := by decide +kernel
theorem dX4_undo_2 : decode cX4_undo 2 = .ok (.putfield 57, 3) := by decide +kernel
theorem dX4_undo_5 : decode cX4_undo 5 = .ok (.aload_n 0, 1) := by decide +kernel
theorem dX4_undo_6 : decode cX4_undo 6 = .ok (.getfield 92, 3) := by decide +kernel
theorem dX4_undo_9 : decode cX4_undo 9 = .ok (.ifCond .ne 5, 3) := by decide +kernel
theorem dX4_undo_12 : decode cX4_undo 12 = .ok (.iconst (-1), 1) := by decide +kernel
theorem dX4_undo_13 : decode cX4_undo 13 = .ok (.ireturn, 1) := by decide +kernel
theorem dX4_undo_14 : decode cX4_undo 14 = .ok (.aload_n 0, 1) := by decide +kernel
theorem dX4_undo_15 : decode cX4_undo 15 = .ok (.dup, 1) := by decide +kernel
theorem dX4_undo_16 : decode cX4_undo 16 = .ok (.getfield 92, 3) := by decide +kernel
theorem dX4_undo_19 : decode cX4_undo 19 = .ok (.iconst 1, 1) := by decide +kernel
theorem dX4_undo_20 : decode cX4_undo 20 = .ok (.isub, 1) := by decide +kernel
theorem dX4_undo_21 : decode cX4_undo 21 = .ok (.putfield 92, 3) := by decide +kernel
theorem dX4_undo_24 : decode cX4_undo 24 = .ok (.aload_n 0, 1) := by decide +kernel
theorem dX4_undo_25 : decode cX4_undo 25 = .ok (.dup, 1) := by decide +kernel
theorem dX4_undo_26 : decode cX4_undo 26 = .ok (.getfield 95, 3) := by decide +kernel
theorem dX4_undo_29 : decode cX4_undo 29 = .ok (.iconst 1, 1) := by decide +kernel
theorem dX4_undo_30 : decode cX4_undo 30 = .ok (.isub, 1) := by decide +kernel
theorem dX4_undo_31 : decode cX4_undo 31 = .ok (.putfield 95, 3) := by decide +kernel
theorem dX4_undo_34 : decode cX4_undo 34 = .ok (.aload_n 0, 1) := by decide +kernel
theorem dX4_undo_35 : decode cX4_undo 35 = .ok (.getfield 37, 3) := by decide +kernel
theorem dX4_undo_38 : decode cX4_undo 38 = .ok (.aload_n 0, 1) := by decide +kernel
theorem dX4_undo_39 : decode cX4_undo 39 = .ok (.getfield 92, 3) := by decide +kernel
theorem dX4_undo_42 : decode cX4_undo 42 = .ok (.iaload, 1) := by decide +kernel
theorem dX4_undo_43 : decode cX4_undo 43 = .ok (.istore_n 1, 1) := by decide +kernel
theorem dX4_undo_44 : decode cX4_undo 44 = .ok (.aload_n 0, 1) := by decide +kernel
theorem dX4_undo_45 : decode cX4_undo 45 = .ok (.getfield 31, 3) := by decide +kernel
theorem dX4_undo_48 : decode cX4_undo 48 = .ok (.iload_n 1, 1) := by decide +kernel
theorem dX4_undo_49 : decode cX4_undo 49 = .ok (.iconst (-1), 1) := by decide +kernel
theorem dX4_undo_50 : decode cX4_undo 50 = .ok (.iastore, 1) := by decide +kernel
theorem dX4_undo_51 : decode cX4_undo 51 = .ok (.aload_n 0, 1) := by decide +kernel
theorem dX4_undo_52 : decode cX4_undo 52 = .ok (.iload_n 1, 1) := by decide +kernel
theorem dX4_undo_53 : decode cX4_undo 53 = .ok (.aload_n 0, 1) := by decide +kernel
theorem dX4_undo_54 : decode cX4_undo 54 = .ok (.getfield 40, 3) := by decide +kernel
theorem dX4_undo_57 : decode cX4_undo 57 = .ok (.aload_n 0, 1) := by decide +kernel
theorem dX4_undo_58 : decode cX4_undo 58 = .ok (.getfield 92, 3) := by decide +kernel
theorem dX4_undo_61 : decode cX4_undo 61 = .ok (.iaload, 1) := by decide +kernel
theorem dX4_undo_62 : decode cX4_undo 62 = .ok (.invokevirtual 98, 3) := by decide +kernel
theorem dX4_undo_65 : decode cX4_undo 65 = .ok (.iload_n 1, 1) := by decide +kernel
theorem dX4_undo_66 : decode cX4_undo 66 = .ok (.ireturn, 1) := by decide +kernel
theorem dX4_where_0 : decode cX4_where 0 = .ok (.aload_n 0, 1) := by decide +kernel
theorem dX4_where_1 : decode cX4_where 1 = .ok (.iload_n 1, 1) := by decide +kernel
theorem dX4_where_2 : decode cX4_where 2 = .ok (.invokevirtual 102, 3) := by decide +kernel
theorem dX4_where_5 : decode cX4_where 5 = .ok (.ifCond .eq 13, 3) := by decide +kernel
theorem dX4_where_8 : decode cX4_where 8 = .ok (.iload_n 2, 1) := by decide +kernel
theorem dX4_where_9 : decode cX4_where 9 = .ok (.iconst 0, 1) := by decide +kernel
theorem dX4_where_10 : decode cX4_where 10 = .ok (.bipush 8, 2) := by decide +kernel
theorem dX4_where_12 : decode cX4_where 12 = .ok (.invokestatic 81, 3) := by decide +kernel
theorem dX4_where_15 : decode cX4_where 15 = .ok (.ifCond .ne 9, 3) := by decide +kernel
theorem dX4_where_18 : decode cX4_where 18 = .ok (.aload_n 0, 1) := by decide +kernel
theorem dX4_where_19 : decode cX4_where 19 = .ok (.iconst 1, 1) := by decide +kernel
theorem dX4_where_20 : decode cX4_where 20 = .ok (.invokevirtual 85, 3) := by decide +kernel
theorem dX4_where_23 : decode cX4_where 23 = .ok (.ireturn, 1) := by decide +kernel
theorem dX4_where_24 : decode cX4_where 24 = .ok (.aload_n 0, 1) := by decide +kernel
theorem dX4_where_25 : decode cX4_where 25 = .ok (.iconst 0, 1) := by decide +kernel
theorem dX4_where_26 : decode cX4_where 26 = .ok (.putfield 57, 3) := by decide +kernel
theorem dX4_where_29 : decode cX4_where 29 = .ok (.aload_n 0, 1) := by decide +kernel
theorem dX4_where_30 : decode cX4_where 30 = .ok (.getfield 31, 3) := by decide +kernel
theorem dX4_where_33 : decode cX4_where 33 = .ok (.iload_n 1, 1) := by decide +kernel
theorem dX4_where_34 : decode cX4_where 34 = .ok (.iaload, 1) := by decide +kernel
theorem dX4_where_35 : decode cX4_where 35 = .ok (.ifCond .lt 7, 3) := by decide +kernel
theorem dX4_where_38 : decode cX4_where 38 = .ok (.iconst 1, 1) := by decide +kernel
theorem dX4_where_39 : decode cX4_where 39 = .ok (.goto 4, 3) := by decide +kernel
theorem dX4_where_42 : decode cX4_where 42 = .ok (.iconst 0, 1) := by decide +kernel
theorem dX4_where_43 : decode cX4_where 43 = .ok (.istore_n 3, 1) := by decide +kernel
theorem dX4_where_44 : decode cX4_where 44 = .ok (.iload_n 2, 1) := by decide +kernel
theorem dX4_where_45 : decode cX4_where 45 = .ok (.tableswitch 147 0 7 #[47, 54, 61, 89, 119, 126, 133, 140], 47) := by decide +kernel
theorem dX4_where_92 : decode cX4_where 92 = .ok (.aload_n 0, 1) := by decide +kernel
theorem dX4_where_93 : decode cX4_where 93 = .ok (.getfield 31, 3) := by decide +kernel
theorem dX4_where_96 : decode cX4_where 96 = .ok (.iload_n 1, 1) := by decide +kernel
theorem dX4_where_97 : decode cX4_where 97 = .ok (.iaload, 1) := by decide +kernel
theorem dX4_where_98 : decode cX4_where 98 = .ok (.ireturn, 1) := by decide +kernel
theorem dX4_where_99 : decode cX4_where 99 = .ok (.aload_n 0, 1) := by decide +kernel
theorem dX4_where_100 : decode cX4_where 100 = .ok (.getfield 34, 3) := by decide +kernel
theorem dX4_where_103 : decode cX4_where 103 = .ok (.iload_n 1, 1) := by decide +kernel
theorem dX4_where_104 : decode cX4_where 104 = .ok (.iaload, 1) := by decide +kernel
theorem dX4_where_105 : decode cX4_where 105 = .ok (.ireturn, 1) := by decide +kernel
theorem dX4_where_106 : decode cX4_where 106 = .ok (.iload_n 3, 1) := by decide +kernel
theorem dX4_where_107 : decode cX4_where 107 = .ok (.ifCond .eq 25, 3) := by decide +kernel
theorem dX4_where_110 : decode cX4_where 110 = .ok (.aload_n 0, 1) := by decide +kernel
theorem dX4_where_111 : decode cX4_where 111 = .ok (.aload_n 0, 1) := by decide +kernel
theorem dX4_where_112 : decode cX4_where 112 = .ok (.getfield 31, 3) := by decide +kernel
theorem dX4_where_115 : decode cX4_where 115 = .ok (.iload_n 1, 1) := by decide +kernel
theorem dX4_where_116 : decode cX4_where 116 = .ok (.iaload, 1) := by decide +kernel
theorem dX4_where_117 : decode cX4_where 117 = .ok (.invokevirtual 63, 3) := by decide +kernel
theorem dX4_where_120 : decode cX4_where 120 = .ok (.iconst 1, 1) := by decide +kernel
theorem dX4_where_121 : decode cX4_where 121 = .ok (.isub, 1) := by decide +kernel
theorem dX4_where_122 : decode cX4_where 122 = .ok (.aload_n 0, 1) := by decide +kernel
theorem dX4_where_123 : decode cX4_where 123 = .ok (.getfield 34, 3) := by decide +kernel
theorem dX4_where_126 : decode cX4_where 126 = .ok (.iload_n 1, 1) := by decide +kernel
theorem dX4_where_127 : decode cX4_where 127 = .ok (.iaload, 1) := by decide +kernel
theorem dX4_where_128 : decode cX4_where 128 = .ok (.isub, 1) := by decide +kernel
theorem dX4_where_129 : decode cX4_where 129 = .ok (.goto 4, 3) := by decide +kernel
theorem dX4_where_132 : decode cX4_where 132 = .ok (.iconst 0, 1) := by decide +kernel
theorem dX4_where_133 : decode cX4_where 133 = .ok (.ireturn, 1) := by decide +kernel
theorem dX4_where_134 : decode cX4_where 134 = .ok (.iload_n 3, 1) := by decide +kernel
theorem dX4_where_135 : decode cX4_where 135 = .ok (.ifCond .eq 27, 3) := by decide +kernel
theorem dX4_where_138 : decode cX4_where 138 = .ok (.aload_n 0, 1) := by decide +kernel
theorem dX4_where_139 : decode cX4_where 139 = .ok (.iload_n 1, 1) := by decide +kernel
theorem dX4_where_140 : decode cX4_where 140 = .ok (.aload_n 0, 1) := by decide +kernel
theorem dX4_where_141 : decode cX4_where 141 = .ok (.getfield 31, 3) := by decide +kernel
theorem dX4_where_144 : decode cX4_where 144 = .ok (.iload_n 1, 1) := by decide +kernel
theorem dX4_where_145 : decode cX4_where 145 = .ok (.iaload, 1) := by decide +kernel
theorem dX4_where_146 : decode cX4_where 146 = .ok (.aload_n 0, 1) := by decide +kernel
theorem dX4_where_147 : decode cX4_where 147 = .ok (.getfield 34, 3) := by decide +kernel
theorem dX4_where_150 : decode cX4_where 150 = .ok (.iload_n 1, 1) := by decide +kernel
theorem dX4_where_151 : decode cX4_where 151 = .ok (.iaload, 1) := by decide +kernel
theorem dX4_where_152 : decode cX4_where 152 = .ok (.invokevirtual 77, 3) := by decide +kernel
theorem dX4_where_155 : decode cX4_where 155 = .ok (.ifCond .le 7, 3) := by decide +kernel
theorem dX4_where_158 : decode cX4_where 158 = .ok (.iconst 1, 1) := by decide +kernel
theorem dX4_where_159 : decode cX4_where 159 = .ok (.goto 4, 3) := by decide +kernel
theorem dX4_where_162 : decode cX4_where 162 = .ok (.iconst 0, 1) := by decide +kernel
theorem dX4_where_163 : decode cX4_where 163 = .ok (.ireturn, 1) := by decide +kernel
theorem dX4_where_164 : decode cX4_where 164 = .ok (.aload_n 0, 1) := by decide +kernel
theorem dX4_where_165 : decode cX4_where 165 = .ok (.getfield 16, 3) := by decide +kernel
theorem dX4_where_168 : decode cX4_where 168 = .ok (.iload_n 1, 1) := by decide +kernel
theorem dX4_where_169 : decode cX4_where 169 = .ok (.iaload, 1) := by decide +kernel
theorem dX4_where_170 : decode cX4_where 170 = .ok (.ireturn, 1) := by decide +kernel
theorem dX4_where_171 : decode cX4_where 171 = .ok (.aload_n 0, 1) := by decide +kernel
theorem dX4_where_172 : decode cX4_where 172 = .ok (.getfield 19, 3) := by decide +kernel
theorem dX4_where_175 : decode cX4_where 175 = .ok (.iload_n 1, 1) := by decide +kernel
theorem dX4_where_176 : decode cX4_where 176 = .ok (.iaload, 1) := by decide +kernel
theorem dX4_where_177 : decode cX4_where 177 = .ok (.ireturn, 1) := by decide +kernel
theorem dX4_where_178 : decode cX4_where 178 = .ok (.aload_n 0, 1) := by decide +kernel
theorem dX4_where_179 : decode cX4_where 179 = .ok (.getfield 22, 3) := by decide +kernel
theorem dX4_where_182 : decode cX4_where 182 = .ok (.iload_n 1, 1) := by decide +kernel
theorem dX4_where_183 : decode cX4_where 183 = .ok (.iaload, 1) := by decide +kernel
theorem dX4_where_184 : decode cX4_where 184 = .ok (.ireturn, 1) := by decide +kernel
theorem dX4_where_185 : decode cX4_where 185 = .ok (.aload_n 0, 1) := by decide +kernel
theorem dX4_where_186 : decode cX4_where 186 = .ok (.getfield 25, 3) := by decide +kernel
theorem dX4_where_189 : decode cX4_where 189 = .ok (.iload_n 1, 1) := by decide +kernel
theorem dX4_where_190 : decode cX4_where 190 = .ok (.iaload, 1) := by decide +kernel
theorem dX4_where_191 : decode cX4_where 191 = .ok (.ireturn, 1) := by decide +kernel
theorem dX4_where_192 : decode cX4_where 192 = .ok (.aload_n 0, 1) := by decide +kernel
theorem dX4_where_193 : decode cX4_where 193 = .ok (.getfield 28, 3) := by decide +kernel
theorem dX4_where_196 : decode cX4_where 196 = .ok (.iload_n 1, 1) := by decide +kernel
theorem dX4_where_197 : decode cX4_where 197 = .ok (.iaload, 1) := by decide +kernel
theorem dX4_where_198 : decode cX4_where 198 = .ok (.ireturn, 1) := by decide +kernel
theorem dX4_at_0 : decode cX4_at 0 = .ok (.aload_n 0, 1) := by decide +kernel
theorem dX4_at_1 : decode cX4_at 1 = .ok (.iload_n 1, 1) := by decide +kernel
theorem dX4_at_2 : decode cX4_at 2 = .ok (.invokevirtual 88, 3) := by decide +kernel
theorem dX4_at_5 : decode cX4_at 5 = .ok (.ifCond .eq 17, 3) := by decide +kernel
theorem dX4_at_8 : decode cX4_at 8 = .ok (.iload_n 2, 1) := by decide +kernel
theorem dX4_at_9 : decode cX4_at 9 = .ok (.iconst 0, 1) := by decide +kernel
theorem dX4_at_10 : decode cX4_at 10 = .ok (.aload_n 0, 1) := by decide +kernel
theorem dX4_at_11 : decode cX4_at 11 = .ok (.getfield 51, 3) := by decide +kernel
theorem dX4_at_14 : decode cX4_at 14 = .ok (.iconst 1, 1) := by decide +kernel
theorem dX4_at_15 : decode cX4_at 15 = .ok (.isub, 1) := by decide +kernel
theorem dX4_at_16 : decode cX4_at 16 = .ok (.invokestatic 81, 3) := by decide +kernel
theorem dX4_at_19 : decode cX4_at 19 = .ok (.ifCond .ne 9, 3) := by decide +kernel
theorem dX4_at_22 : decode cX4_at 22 = .ok (.aload_n 0, 1) := by decide +kernel
theorem dX4_at_23 : decode cX4_at 23 = .ok (.iconst 1, 1) := by decide +kernel
theorem dX4_at_24 : decode cX4_at 24 = .ok (.invokevirtual 85, 3) := by decide +kernel
theorem dX4_at_27 : decode cX4_at 27 = .ok (.ireturn, 1) := by decide +kernel
theorem dX4_at_28 : decode cX4_at 28 = .ok (.aload_n 0, 1) := by decide +kernel
theorem dX4_at_29 : decode cX4_at 29 = .ok (.iconst 0, 1) := by decide +kernel
theorem dX4_at_30 : decode cX4_at 30 = .ok (.putfield 57, 3) := by decide +kernel
theorem dX4_at_33 : decode cX4_at 33 = .ok (.aload_n 0, 1) := by decide +kernel
theorem dX4_at_34 : decode cX4_at 34 = .ok (.iload_n 1, 1) := by decide +kernel
theorem dX4_at_35 : decode cX4_at 35 = .ok (.iload_n 2, 1) := by decide +kernel
theorem dX4_at_36 : decode cX4_at 36 = .ok (.invokevirtual 67, 3) := by decide +kernel
theorem dX4_at_39 : decode cX4_at 39 = .ok (.ireturn, 1) := by decide +kernel
theorem dX4_count_0 : decode cX4_count 0 = .ok (.aload_n 0, 1) := by decide +kernel
theorem dX4_count_1 : decode cX4_count 1 = .ok (.iconst 0, 1) := by decide +kernel
theorem dX4_count_2 : decode cX4_count 2 = .ok (.putfield 57, 3) := by decide +kernel
theorem dX4_count_5 : decode cX4_count 5 = .ok (.iconst 0, 1) := by decide +kernel
theorem dX4_count_6 : decode cX4_count 6 = .ok (.istore_n 2, 1) := by decide +kernel
theorem dX4_count_7 : decode cX4_count 7 = .ok (.iconst 0, 1) := by decide +kernel
theorem dX4_count_8 : decode cX4_count 8 = .ok (.istore_n 3, 1) := by decide +kernel
theorem dX4_count_9 : decode cX4_count 9 = .ok (.iconst 0, 1) := by decide +kernel
theorem dX4_count_10 : decode cX4_count 10 = .ok (.istore 4, 2) := by decide +kernel
theorem dX4_count_12 : decode cX4_count 12 = .ok (.iload 4, 2) := by decide +kernel
theorem dX4_count_14 : decode cX4_count 14 = .ok (.aload_n 0, 1) := by decide +kernel
theorem dX4_count_15 : decode cX4_count 15 = .ok (.getfield 60, 3) := by decide +kernel
theorem dX4_count_18 : decode cX4_count 18 = .ok (.if_icmp .ge 68, 3) := by decide +kernel
theorem dX4_count_21 : decode cX4_count 21 = .ok (.iload_n 2, 1) := by decide +kernel
theorem dX4_count_22 : decode cX4_count 22 = .ok (.aload_n 0, 1) := by decide +kernel
theorem dX4_count_23 : decode cX4_count 23 = .ok (.getfield 31, 3) := by decide +kernel
theorem dX4_count_26 : decode cX4_count 26 = .ok (.iload 4, 2) := by decide +kernel
theorem dX4_count_28 : decode cX4_count 28 = .ok (.iaload, 1) := by decide +kernel
theorem dX4_count_29 : decode cX4_count 29 = .ok (.ifCond .lt 7, 3) := by decide +kernel
theorem dX4_count_32 : decode cX4_count 32 = .ok (.iconst 1, 1) := by decide +kernel
theorem dX4_count_33 : decode cX4_count 33 = .ok (.goto 4, 3) := by decide +kernel
theorem dX4_count_36 : decode cX4_count 36 = .ok (.iconst 0, 1) := by decide +kernel
theorem dX4_count_37 : decode cX4_count 37 = .ok (.iadd, 1) := by decide +kernel
theorem dX4_count_38 : decode cX4_count 38 = .ok (.istore_n 2, 1) := by decide +kernel
theorem dX4_count_39 : decode cX4_count 39 = .ok (.iload_n 3, 1) := by decide +kernel
theorem dX4_count_40 : decode cX4_count 40 = .ok (.aload_n 0, 1) := by decide +kernel
theorem dX4_count_41 : decode cX4_count 41 = .ok (.getfield 31, 3) := by decide +kernel
theorem dX4_count_44 : decode cX4_count 44 = .ok (.iload 4, 2) := by decide +kernel
theorem dX4_count_46 : decode cX4_count 46 = .ok (.iaload, 1) := by decide +kernel
theorem dX4_count_47 : decode cX4_count 47 = .ok (.ifCond .lt 30, 3) := by decide +kernel
theorem dX4_count_50 : decode cX4_count 50 = .ok (.aload_n 0, 1) := by decide +kernel
theorem dX4_count_51 : decode cX4_count 51 = .ok (.iload 4, 2) := by decide +kernel
theorem dX4_count_53 : decode cX4_count 53 = .ok (.aload_n 0, 1) := by decide +kernel
theorem dX4_count_54 : decode cX4_count 54 = .ok (.getfield 31, 3) := by decide +kernel
theorem dX4_count_57 : decode cX4_count 57 = .ok (.iload 4, 2) := by decide +kernel
theorem dX4_count_59 : decode cX4_count 59 = .ok (.iaload, 1) := by decide +kernel
theorem dX4_count_60 : decode cX4_count 60 = .ok (.aload_n 0, 1) := by decide +kernel
theorem dX4_count_61 : decode cX4_count 61 = .ok (.getfield 34, 3) := by decide +kernel
theorem dX4_count_64 : decode cX4_count 64 = .ok (.iload 4, 2) := by decide +kernel
theorem dX4_count_66 : decode cX4_count 66 = .ok (.iaload, 1) := by decide +kernel
theorem dX4_count_67 : decode cX4_count 67 = .ok (.invokevirtual 77, 3) := by decide +kernel
theorem dX4_count_70 : decode cX4_count 70 = .ok (.ifCond .le 7, 3) := by decide +kernel
theorem dX4_count_73 : decode cX4_count 73 = .ok (.iconst 1, 1) := by decide +kernel
theorem dX4_count_74 : decode cX4_count 74 = .ok (.goto 4, 3) := by decide +kernel
theorem dX4_count_77 : decode cX4_count 77 = .ok (.iconst 0, 1) := by decide +kernel
theorem dX4_count_78 : decode cX4_count 78 = .ok (.iadd, 1) := by decide +kernel
theorem dX4_count_79 : decode cX4_count 79 = .ok (.istore_n 3, 1) := by decide +kernel
theorem dX4_count_80 : decode cX4_count 80 = .ok (.iinc 4 1, 3) := by decide +kernel
theorem dX4_count_83 : decode cX4_count 83 = .ok (.goto (-71), 3) := by decide +kernel
theorem dX4_count_86 : decode cX4_count 86 = .ok (.iload_n 1, 1) := by decide +kernel
theorem dX4_count_87 : decode cX4_count 87 = .ok (.bipush 20, 2) := by decide +kernel
theorem dX4_count_89 : decode cX4_count 89 = .ok (.if_icmp .lt 85, 3) := by decide +kernel
theorem dX4_count_92 : decode cX4_count 92 = .ok (.iload_n 1, 1) := by decide +kernel
theorem dX4_count_93 : decode cX4_count 93 = .ok (.bipush 20, 2) := by decide +kernel
theorem dX4_count_95 : decode cX4_count 95 = .ok (.isub, 1) := by decide +kernel
theorem dX4_count_96 : decode cX4_count 96 = .ok (.bipush 20, 2) := by decide +kernel
theorem dX4_count_98 : decode cX4_count 98 = .ok (.irem, 1) := by decide +kernel
theorem dX4_count_99 : decode cX4_count 99 = .ok (.istore 4, 2) := by decide +kernel
theorem dX4_count_101 : decode cX4_count 101 = .ok (.iload_n 1, 1) := by decide +kernel
theorem dX4_count_102 : decode cX4_count 102 = .ok (.bipush 100, 2) := by decide +kernel
theorem dX4_count_104 : decode cX4_count 104 = .ok (.if_icmp .ge 12, 3) := by decide +kernel
theorem dX4_count_107 : decode cX4_count 107 = .ok (.aload_n 0, 1) := by decide +kernel
theorem dX4_count_108 : decode cX4_count 108 = .ok (.iload 4, 2) := by decide +kernel
theorem dX4_count_110 : decode cX4_count 110 = .ok (.invokevirtual 88, 3) := by decide +kernel
theorem dX4_count_113 : decode cX4_count 113 = .ok (.ifCond .ne 7, 3) := by decide +kernel
theorem dX4_count_116 : decode cX4_count 116 = .ok (.iconst (-1), 1) := by decide +kernel
theorem dX4_count_117 : decode cX4_count 117 = .ok (.goto 56, 3) := by decide +kernel
theorem dX4_count_120 : decode cX4_count 120 = .ok (.iload_n 1, 1) := by decide +kernel
theorem dX4_count_121 : decode cX4_count 121 = .ok (.bipush 40, 2) := by decide +kernel
theorem dX4_count_123 : decode cX4_count 123 = .ok (.if_icmp .ge 12, 3) := by decide +kernel
theorem dX4_count_126 : decode cX4_count 126 = .ok (.aload_n 0, 1) := by decide +kernel
theorem dX4_count_127 : decode cX4_count 127 = .ok (.iload 4, 2) := by decide +kernel
theorem dX4_count_129 : decode cX4_count 129 = .ok (.invokevirtual 63, 3) := by decide +kernel
theorem dX4_count_132 : decode cX4_count 132 = .ok (.goto 41, 3) := by decide +kernel
theorem dX4_count_135 : decode cX4_count 135 = .ok (.iload_n 1, 1) := by decide +kernel
theorem dX4_count_136 : decode cX4_count 136 = .ok (.bipush 60, 2) := by decide +kernel
theorem dX4_count_138 : decode cX4_count 138 = .ok (.if_icmp .ge 12, 3) := by decide +kernel
theorem dX4_count_141 : decode cX4_count 141 = .ok (.aload_n 0, 1) := by decide +kernel
theorem dX4_count_142 : decode cX4_count 142 = .ok (.iload 4, 2) := by decide +kernel
theorem dX4_count_144 : decode cX4_count 144 = .ok (.invokevirtual 70, 3) := by decide +kernel
theorem dX4_count_147 : decode cX4_count 147 = .ok (.goto 26, 3) := by decide +kernel
theorem dX4_count_150 : decode cX4_count 150 = .ok (.iload_n 1, 1) := by decide +kernel
theorem dX4_count_151 : decode cX4_count 151 = .ok (.bipush 80, 2) := by decide +kernel
theorem dX4_count_153 : decode cX4_count 153 = .ok (.if_icmp .ge 13, 3) := by decide +kernel
theorem dX4_count_156 : decode cX4_count 156 = .ok (.aload_n 0, 1) := by decide +kernel
theorem dX4_count_157 : decode cX4_count 157 = .ok (.getfield 7, 3) := by decide +kernel
theorem dX4_count_160 : decode cX4_count 160 = .ok (.iload 4, 2) := by decide +kernel
theorem dX4_count_162 : decode cX4_count 162 = .ok (.iaload, 1) := by decide +kernel
theorem dX4_count_163 : decode cX4_count 163 = .ok (.goto 10, 3) := by decide +kernel
theorem dX4_count_166 : decode cX4_count 166 = .ok (.aload_n 0, 1) := by decide +kernel
theorem dX4_count_167 : decode cX4_count 167 = .ok (.getfield 13, 3) := by decide +kernel
theorem dX4_count_170 : decode cX4_count 170 = .ok (.iload 4, 2) := by decide +kernel
theorem dX4_count_172 : decode cX4_count 172 = .ok (.iaload, 1) := by decide +kernel
theorem dX4_count_173 : decode cX4_count 173 = .ok (.ireturn, 1) := by decide +kernel
theorem dX4_count_174 : decode cX4_count 174 = .ok (.iload_n 1, 1) := by decide +kernel
theorem dX4_count_175 : decode cX4_count 175 = .ok (.tableswitch 79 0 7 #[45, 50, 55, 60, 65, 67, 72, 74], 45) := by decide +kernel
theorem dX4_count_220 : decode cX4_count 220 = .ok (.aload_n 0, 1) := by decide +kernel
theorem dX4_count_221 : decode cX4_count 221 = .ok (.getfield 47, 3) := by decide +kernel
theorem dX4_count_224 : decode cX4_count 224 = .ok (.ireturn, 1) := by decide +kernel
theorem dX4_count_225 : decode cX4_count 225 = .ok (.aload_n 0, 1) := by decide +kernel
theorem dX4_count_226 : decode cX4_count 226 = .ok (.getfield 51, 3) := by decide +kernel
theorem dX4_count_229 : decode cX4_count 229 = .ok (.ireturn, 1) := by decide +kernel
theorem dX4_count_230 : decode cX4_count 230 = .ok (.aload_n 0, 1) := by decide +kernel
theorem dX4_count_231 : decode cX4_count 231 = .ok (.getfield 54, 3) := by decide +kernel
theorem dX4_count_234 : decode cX4_count 234 = .ok (.ireturn, 1) := by decide +kernel
theorem dX4_count_235 : decode cX4_count 235 = .ok (.aload_n 0, 1) := by decide +kernel
theorem dX4_count_236 : decode cX4_count 236 = .ok (.getfield 60, 3) := by decide +kernel
theorem dX4_count_239 : decode cX4_count 239 = .ok (.ireturn, 1) := by decide +kernel
theorem dX4_count_240 : decode cX4_count 240 = .ok (.iload_n 2, 1) := by decide +kernel
theorem dX4_count_241 : decode cX4_count 241 = .ok (.ireturn, 1) := by decide +kernel
theorem dX4_count_242 : decode cX4_count 242 = .ok (.aload_n 0, 1) := by decide +kernel
theorem dX4_count_243 : decode cX4_count 243 = .ok (.getfield 95, 3) := by decide +kernel
theorem dX4_count_246 : decode cX4_count 246 = .ok (.ireturn, 1) := by decide +kernel
theorem dX4_count_247 : decode cX4_count 247 = .ok (.iload_n 3, 1) := by decide +kernel
theorem dX4_count_248 : decode cX4_count 248 = .ok (.ireturn, 1) := by decide +kernel
theorem dX4_count_249 : decode cX4_count 249 = .ok (.aload_n 0, 1) := by decide +kernel
theorem dX4_count_250 : decode cX4_count 250 = .ok (.getfield 92, 3) := by decide +kernel
theorem dX4_count_253 : decode cX4_count 253 = .ok (.ireturn, 1) := by decide +kernel
theorem dX4_count_254 : decode cX4_count 254 = .ok (.iconst (-1), 1) := by decide +kernel
theorem dX4_count_255 : decode cX4_count 255 = .ok (.ireturn, 1) := by decide +kernel
