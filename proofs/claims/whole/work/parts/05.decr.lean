/-! decode rows: the reference -/
theorem dX5_init_0 : decode cX5_init 0 = .ok (.aload_n 0, 1) := by decide +kernel
theorem dX5_init_1 : decode cX5_init 1 = .ok (.invokespecial 1, 3) := by decide +kernel
theorem dX5_init_4 : decode cX5_init 4 = .ok (.aload_n 0, 1) := by decide +kernel
theorem dX5_init_5 : decode cX5_init 5 = .ok (.bipush 8, 2) := by decide +kernel
theorem dX5_init_7 : decode cX5_init 7 = .ok (.newarray .int, 2) := by decide +kernel
theorem dX5_init_9 : decode cX5_init 9 = .ok (.putfield 7, 3) := by decide +kernel
theorem dX5_init_12 : decode cX5_init 12 = .ok (.aload_n 0, 1) := by decide +kernel
theorem dX5_init_13 : decode cX5_init 13 = .ok (.bipush 8, 2) := by decide +kernel
theorem dX5_init_15 : decode cX5_init 15 = .ok (.newarray .int, 2) := by decide +kernel
theorem dX5_init_17 : decode cX5_init 17 = .ok (.putfield 13, 3) := by decide +kernel
theorem dX5_init_20 : decode cX5_init 20 = .ok (.aload_n 0, 1) := by decide +kernel
theorem dX5_init_21 : decode cX5_init 21 = .ok (.bipush 8, 2) := by decide +kernel
theorem dX5_init_23 : decode cX5_init 23 = .ok (.newarray .int, 2) := by decide +kernel
theorem dX5_init_25 : decode cX5_init 25 = .ok (.putfield 16, 3) := by decide +kernel
theorem dX5_init_28 : decode cX5_init 28 = .ok (.aload_n 0, 1) := by decide +kernel
theorem dX5_init_29 : decode cX5_init 29 = .ok (.bipush 8, 2) := by decide +kernel
theorem dX5_init_31 : decode cX5_init 31 = .ok (.newarray .int, 2) := by decide +kernel
theorem dX5_init_33 : decode cX5_init 33 = .ok (.putfield 19, 3) := by decide +kernel
theorem dX5_init_36 : decode cX5_init 36 = .ok (.aload_n 0, 1) := by decide +kernel
theorem dX5_init_37 : decode cX5_init 37 = .ok (.bipush 8, 2) := by decide +kernel
theorem dX5_init_39 : decode cX5_init 39 = .ok (.newarray .int, 2) := by decide +kernel
theorem dX5_init_41 : decode cX5_init 41 = .ok (.putfield 22, 3) := by decide +kernel
theorem dX5_init_44 : decode cX5_init 44 = .ok (.aload_n 0, 1) := by decide +kernel
theorem dX5_init_45 : decode cX5_init 45 = .ok (.bipush 8, 2) := by decide +kernel
theorem dX5_init_47 : decode cX5_init 47 = .ok (.newarray .boolean, 2) := by decide +kernel
theorem dX5_init_49 : decode cX5_init 49 = .ok (.putfield 25, 3) := by decide +kernel
theorem dX5_init_52 : decode cX5_init 52 = .ok (.aload_n 0, 1) := by decide +kernel
theorem dX5_init_53 : decode cX5_init 53 = .ok (.bipush 8, 2) := by decide +kernel
theorem dX5_init_55 : decode cX5_init 55 = .ok (.newarray .int, 2) := by decide +kernel
theorem dX5_init_57 : decode cX5_init 57 = .ok (.putfield 29, 3) := by decide +kernel
theorem dX5_init_60 : decode cX5_init 60 = .ok (.aload_n 0, 1) := by decide +kernel
theorem dX5_init_61 : decode cX5_init 61 = .ok (.bipush 8, 2) := by decide +kernel
theorem dX5_init_63 : decode cX5_init 63 = .ok (.newarray .boolean, 2) := by decide +kernel
theorem dX5_init_65 : decode cX5_init 65 = .ok (.putfield 32, 3) := by decide +kernel
theorem dX5_init_68 : decode cX5_init 68 = .ok (.aload_n 0, 1) := by decide +kernel
theorem dX5_init_69 : decode cX5_init 69 = .ok (.bipush 8, 2) := by decide +kernel
theorem dX5_init_71 : decode cX5_init 71 = .ok (.newarray .int, 2) := by decide +kernel
theorem dX5_init_73 : decode cX5_init 73 = .ok (.putfield 35, 3) := by decide +kernel
theorem dX5_init_76 : decode cX5_init 76 = .ok (.aload_n 0, 1) := by decide +kernel
theorem dX5_init_77 : decode cX5_init 77 = .ok (.bipush 8, 2) := by decide +kernel
theorem dX5_init_79 : decode cX5_init 79 = .ok (.newarray .int, 2) := by decide +kernel
theorem dX5_init_81 : decode cX5_init 81 = .ok (.putfield 38, 3) := by decide +kernel
theorem dX5_init_84 : decode cX5_init 84 = .ok (.aload_n 0, 1) := by decide +kernel
theorem dX5_init_85 : decode cX5_init 85 = .ok (.bipush 8, 2) := by decide +kernel
theorem dX5_init_87 : decode cX5_init 87 = .ok (.newarray .int, 2) := by decide +kernel
theorem dX5_init_89 : decode cX5_init 89 = .ok (.putfield 41, 3) := by decide +kernel
theorem dX5_init_92 : decode cX5_init 92 = .ok (.aload_n 0, 1) := by decide +kernel
theorem dX5_init_93 : decode cX5_init 93 = .ok (.bipush 8, 2) := by decide +kernel
theorem dX5_init_95 : decode cX5_init 95 = .ok (.newarray .int, 2) := by decide +kernel
theorem dX5_init_97 : decode cX5_init 97 = .ok (.putfield 44, 3) := by decide +kernel
theorem dX5_init_100 : decode cX5_init 100 = .ok (.aload_n 0, 1) := by decide +kernel
theorem dX5_init_101 : decode cX5_init 101 = .ok (.bipush 8, 2) := by decide +kernel
theorem dX5_init_103 : decode cX5_init 103 = .ok (.newarray .int, 2) := by decide +kernel
theorem dX5_init_105 : decode cX5_init 105 = .ok (.putfield 47, 3) := by decide +kernel
theorem dX5_init_108 : decode cX5_init 108 = .ok (.aload_n 0, 1) := by decide +kernel
theorem dX5_init_109 : decode cX5_init 109 = .ok (.bipush 8, 2) := by decide +kernel
theorem dX5_init_111 : decode cX5_init 111 = .ok (.newarray .int, 2) := by decide +kernel
theorem dX5_init_113 : decode cX5_init 113 = .ok (.putfield 50, 3) := by decide +kernel
theorem dX5_init_116 : decode cX5_init 116 = .ok (.aload_n 0, 1) := by decide +kernel
theorem dX5_init_117 : decode cX5_init 117 = .ok (.bipush 8, 2) := by decide +kernel
theorem dX5_init_119 : decode cX5_init 119 = .ok (.newarray .int, 2) := by decide +kernel
theorem dX5_init_121 : decode cX5_init 121 = .ok (.putfield 53, 3) := by decide +kernel
theorem dX5_init_124 : decode cX5_init 124 = .ok (.aload_n 0, 1) := by decide +kernel
theorem dX5_init_125 : decode cX5_init 125 = .ok (.bipush 8, 2) := by decide +kernel
theorem dX5_init_127 : decode cX5_init 127 = .ok (.newarray .int, 2) := by decide +kernel
theorem dX5_init_129 : decode cX5_init 129 = .ok (.putfield 56, 3) := by decide +kernel
theorem dX5_init_132 : decode cX5_init 132 = .ok (.aload_n 0, 1) := by decide +kernel
theorem dX5_init_133 : decode cX5_init 133 = .ok (.bipush 12, 2) := by decide +kernel
theorem dX5_init_135 : decode cX5_init 135 = .ok (.newarray .int, 2) := by decide +kernel
theorem dX5_init_137 : decode cX5_init 137 = .ok (.putfield 59, 3) := by decide +kernel
theorem dX5_init_140 : decode cX5_init 140 = .ok (.aload_n 0, 1) := by decide +kernel
theorem dX5_init_141 : decode cX5_init 141 = .ok (.bipush 12, 2) := by decide +kernel
theorem dX5_init_143 : decode cX5_init 143 = .ok (.newarray .int, 2) := by decide +kernel
theorem dX5_init_145 : decode cX5_init 145 = .ok (.putfield 62, 3) := by decide +kernel
theorem dX5_init_148 : decode cX5_init 148 = .ok (.aload_n 0, 1) := by decide +kernel
theorem dX5_init_149 : decode cX5_init 149 = .ok (.bipush 12, 2) := by decide +kernel
theorem dX5_init_151 : decode cX5_init 151 = .ok (.newarray .int, 2) := by decide +kernel
theorem dX5_init_153 : decode cX5_init 153 = .ok (.putfield 65, 3) := by decide +kernel
theorem dX5_init_156 : decode cX5_init 156 = .ok (.aload_n 0, 1) := by decide +kernel
theorem dX5_init_157 : decode cX5_init 157 = .ok (.bipush 12, 2) := by decide +kernel
theorem dX5_init_159 : decode cX5_init 159 = .ok (.newarray .int, 2) := by decide +kernel
theorem dX5_init_161 : decode cX5_init 161 = .ok (.putfield 68, 3) := by decide +kernel
theorem dX5_init_164 : decode cX5_init 164 = .ok (.aload_n 0, 1) := by decide +kernel
theorem dX5_init_165 : decode cX5_init 165 = .ok (.bipush 12, 2) := by decide +kernel
theorem dX5_init_167 : decode cX5_init 167 = .ok (.newarray .int, 2) := by decide +kernel
theorem dX5_init_169 : decode cX5_init 169 = .ok (.putfield 71, 3) := by decide +kernel
theorem dX5_init_172 : decode cX5_init 172 = .ok (.aload_n 0, 1) := by decide +kernel
theorem dX5_init_173 : decode cX5_init 173 = .ok (.bipush 6, 2) := by decide +kernel
theorem dX5_init_175 : decode cX5_init 175 = .ok (.newarray .int, 2) := by decide +kernel
theorem dX5_init_177 : decode cX5_init 177 = .ok (.putfield 74, 3) := by decide +kernel
theorem dX5_init_180 : decode cX5_init 180 = .ok (.aload_n 0, 1) := by decide +kernel
theorem dX5_init_181 : decode cX5_init 181 = .ok (.iconst 0, 1) := by decide +kernel
theorem dX5_init_182 : decode cX5_init 182 = .ok (.putfield 77, 3) := by decide +kernel
theorem dX5_init_185 : decode cX5_init 185 = .ok (.return_, 1) := by decide +kernel
theorem dX5_thrown_0 : decode cX5_thrown 0 = .ok (.aload_n 0, 1) := by decide +kernel
theorem dX5_thrown_1 : decode cX5_thrown 1 = .ok (.getfield 77, 3) := by decide +kernel
theorem dX5_thrown_4 : decode cX5_thrown 4 = .ok (.ireturn, 1) := by decide +kernel
theorem dX5_in_0 : decode cX5_in 0 = .ok (.iload_n 0, 1) := by decide +kernel
theorem dX5_in_1 : decode cX5_in 1 = .ok (.iload_n 1, 1) := by decide +kernel
theorem dX5_in_2 : decode cX5_in 2 = .ok (.if_icmp .lt 12, 3) := by decide +kernel
theorem dX5_in_5 : decode cX5_in 5 = .ok (.iload_n 0, 1) := by decide +kernel
theorem dX5_in_6 : decode cX5_in 6 = .ok (.iload_n 2, 1) := by decide +kernel
theorem dX5_in_7 : decode cX5_in 7 = .ok (.if_icmp .gt 7, 3) := by decide +kernel
theorem dX5_in_10 : decode cX5_in 10 = .ok (.iconst 1, 1) := by decide +kernel
theorem dX5_in_11 : decode cX5_in 11 = .ok (.goto 4, 3) := by decide +kernel
theorem dX5_in_14 : decode cX5_in 14 = .ok (.iconst 0, 1) := by decide +kernel
theorem dX5_in_15 : decode cX5_in 15 = .ok (.ireturn, 1) := by decide +kernel
theorem dX5_isMast_0 : decode cX5_isMast 0 = .ok (.iload_n 1, 1) := by decide +kernel
theorem dX5_isMast_1 : decode cX5_isMast 1 = .ok (.iconst 0, 1) := by decide +kernel
theorem dX5_isMast_2 : decode cX5_isMast 2 = .ok (.aload_n 0, 1) := by decide +kernel
theorem dX5_isMast_3 : decode cX5_isMast 3 = .ok (.getfield 81, 3) := by decide +kernel
theorem dX5_isMast_6 : decode cX5_isMast 6 = .ok (.iconst 1, 1) := by decide +kernel
theorem dX5_isMast_7 : decode cX5_isMast 7 = .ok (.isub, 1) := by decide +kernel
theorem dX5_isMast_8 : decode cX5_isMast 8 = .ok (.invokestatic 84, 3) := by decide +kernel
theorem dX5_isMast_11 : decode cX5_isMast 11 = .ok (.ireturn, 1) := by decide +kernel
theorem dX5_isFarmer_0 : decode cX5_isFarmer 0 = .ok (.iload_n 0, 1) := by decide +kernel
theorem dX5_isFarmer_1 : decode cX5_isFarmer 1 = .ok (.iconst 0, 1) := by decide +kernel
theorem dX5_isFarmer_2 : decode cX5_isFarmer 2 = .ok (.iconst 5, 1) := by decide +kernel
theorem dX5_isFarmer_3 : decode cX5_isFarmer 3 = .ok (.invokestatic 84, 3) := by decide +kernel
theorem dX5_isFarmer_6 : decode cX5_isFarmer 6 = .ok (.ireturn, 1) := by decide +kernel
theorem dX5_isPhone_0 : decode cX5_isPhone 0 = .ok (.iload_n 1, 1) := by decide +kernel
theorem dX5_isPhone_1 : decode cX5_isPhone 1 = .ok (.iconst 0, 1) := by decide +kernel
theorem dX5_isPhone_2 : decode cX5_isPhone 2 = .ok (.aload_n 0, 1) := by decide +kernel
theorem dX5_isPhone_3 : decode cX5_isPhone 3 = .ok (.getfield 88, 3) := by decide +kernel
theorem dX5_isPhone_6 : decode cX5_isPhone 6 = .ok (.iconst 1, 1) := by decide +kernel
theorem dX5_isPhone_7 : decode cX5_isPhone 7 = .ok (.isub, 1) := by decide +kernel
theorem dX5_isPhone_8 : decode cX5_isPhone 8 = .ok (.invokestatic 84, 3) := by decide +kernel
theorem dX5_isPhone_11 : decode cX5_isPhone 11 = .ok (.ireturn, 1) := by decide +kernel
theorem dX5_isLeased_0 : decode cX5_isLeased 0 = .ok (.aload_n 0, 1) := by decide +kernel
theorem dX5_isLeased_1 : decode cX5_isLeased 1 = .ok (.getfield 35, 3) := by decide +kernel
theorem dX5_isLeased_4 : decode cX5_isLeased 4 = .ok (.iload_n 1, 1) := by decide +kernel
theorem dX5_isLeased_5 : decode cX5_isLeased 5 = .ok (.iaload, 1) := by decide +kernel
theorem dX5_isLeased_6 : decode cX5_isLeased 6 = .ok (.iconst (-1), 1) := by decide +kernel
theorem dX5_isLeased_7 : decode cX5_isLeased 7 = .ok (.if_icmp .eq 7, 3) := by decide +kernel
theorem dX5_isLeased_10 : decode cX5_isLeased 10 = .ok (.iconst 1, 1) := by decide +kernel
theorem dX5_isLeased_11 : decode cX5_isLeased 11 = .ok (.goto 4, 3) := by decide +kernel
theorem dX5_isLeased_14 : decode cX5_isLeased 14 = .ok (.iconst 0, 1) := by decide +kernel
theorem dX5_isLeased_15 : decode cX5_isLeased 15 = .ok (.ireturn, 1) := by decide +kernel
theorem dX5_isOn_0 : decode cX5_isOn 0 = .ok (.aload_n 0, 1) := by decide +kernel
theorem dX5_isOn_1 : decode cX5_isOn 1 = .ok (.iload_n 1, 1) := by decide +kernel
theorem dX5_isOn_2 : decode cX5_isOn 2 = .ok (.invokevirtual 91, 3) := by decide +kernel
theorem dX5_isOn_5 : decode cX5_isOn 5 = .ok (.ifCond .eq 16, 3) := by decide +kernel
theorem dX5_isOn_8 : decode cX5_isOn 8 = .ok (.aload_n 0, 1) := by decide +kernel
theorem dX5_isOn_9 : decode cX5_isOn 9 = .ok (.getfield 32, 3) := by decide +kernel
theorem dX5_isOn_12 : decode cX5_isOn 12 = .ok (.iload_n 1, 1) := by decide +kernel
theorem dX5_isOn_13 : decode cX5_isOn 13 = .ok (.baload, 1) := by decide +kernel
theorem dX5_isOn_14 : decode cX5_isOn 14 = .ok (.ifCond .ne 7, 3) := by decide +kernel
theorem dX5_isOn_17 : decode cX5_isOn 17 = .ok (.iconst 1, 1) := by decide +kernel
theorem dX5_isOn_18 : decode cX5_isOn 18 = .ok (.goto 4, 3) := by decide +kernel
theorem dX5_isOn_21 : decode cX5_isOn 21 = .ok (.iconst 0, 1) := by decide +kernel
theorem dX5_isOn_22 : decode cX5_isOn 22 = .ok (.ireturn, 1) := by decide +kernel
theorem dX5_carries_0 : decode cX5_carries 0 = .ok (.iconst 0, 1) := by decide +kernel
theorem dX5_carries_1 : decode cX5_carries 1 = .ok (.istore_n 2, 1) := by decide +kernel
theorem dX5_carries_2 : decode cX5_carries 2 = .ok (.iconst 0, 1) := by decide +kernel
theorem dX5_carries_3 : decode cX5_carries 3 = .ok (.istore_n 3, 1) := by decide +kernel
theorem dX5_carries_4 : decode cX5_carries 4 = .ok (.iload_n 3, 1) := by decide +kernel
theorem dX5_carries_5 : decode cX5_carries 5 = .ok (.aload_n 0, 1) := by decide +kernel
theorem dX5_carries_6 : decode cX5_carries 6 = .ok (.getfield 88, 3) := by decide +kernel
theorem dX5_carries_9 : decode cX5_carries 9 = .ok (.if_icmp .ge 27, 3) := by decide +kernel
theorem dX5_carries_12 : decode cX5_carries 12 = .ok (.iload_n 2, 1) := by decide +kernel
theorem dX5_carries_13 : decode cX5_carries 13 = .ok (.aload_n 0, 1) := by decide +kernel
theorem dX5_carries_14 : decode cX5_carries 14 = .ok (.getfield 62, 3) := by decide +kernel
theorem dX5_carries_17 : decode cX5_carries 17 = .ok (.iload_n 3, 1) := by decide +kernel
theorem dX5_carries_18 : decode cX5_carries 18 = .ok (.iaload, 1) := by decide +kernel
theorem dX5_carries_19 : decode cX5_carries 19 = .ok (.iload_n 1, 1) := by decide +kernel
theorem dX5_carries_20 : decode cX5_carries 20 = .ok (.if_icmp .ne 7, 3) := by decide +kernel
theorem dX5_carries_23 : decode cX5_carries 23 = .ok (.iconst 1, 1) := by decide +kernel
theorem dX5_carries_24 : decode cX5_carries 24 = .ok (.goto 4, 3) := by decide +kernel
theorem dX5_carries_27 : decode cX5_carries 27 = .ok (.iconst 0, 1) := by decide +kernel
theorem dX5_carries_28 : decode cX5_carries 28 = .ok (.iadd, 1) := by decide +kernel
theorem dX5_carries_29 : decode cX5_carries 29 = .ok (.istore_n 2, 1) := by decide +kernel
theorem dX5_carries_30 : decode cX5_carries 30 = .ok (.iinc 3 1, 3) := by decide +kernel
theorem dX5_carries_33 : decode cX5_carries 33 = .ok (.goto (-29), 3) := by decide +kernel
theorem dX5_carries_36 : decode cX5_carries 36 = .ok (.iload_n 2, 1) := by decide +kernel
theorem dX5_carries_37 : decode cX5_carries 37 = .ok (.ireturn, 1) := by decide +kernel
theorem dX5_apart_0 : decode cX5_apart 0 = .ok (.aload_n 0, 1) := by decide +kernel
theorem dX5_apart_1 : decode cX5_apart 1 = .ok (.getfield 7, 3) := by decide +kernel
theorem dX5_apart_4 : decode cX5_apart 4 = .ok (.iload_n 1, 1) := by decide +kernel
theorem dX5_apart_5 : decode cX5_apart 5 = .ok (.iaload, 1) := by decide +kernel
theorem dX5_apart_6 : decode cX5_apart 6 = .ok (.iload_n 2, 1) := by decide +kernel
theorem dX5_apart_7 : decode cX5_apart 7 = .ok (.isub, 1) := by decide +kernel
theorem dX5_apart_8 : decode cX5_apart 8 = .ok (.istore_n 3, 1) := by decide +kernel
theorem dX5_apart_9 : decode cX5_apart 9 = .ok (.iload_n 3, 1) := by decide +kernel
theorem dX5_apart_10 : decode cX5_apart 10 = .ok (.ifCond .ge 8, 3) := by decide +kernel
theorem dX5_apart_13 : decode cX5_apart 13 = .ok (.iload_n 3, 1) := by decide +kernel
theorem dX5_apart_14 : decode cX5_apart 14 = .ok (.ineg, 1) := by decide +kernel
theorem dX5_apart_15 : decode cX5_apart 15 = .ok (.goto 4, 3) := by decide +kernel
theorem dX5_apart_18 : decode cX5_apart 18 = .ok (.iload_n 3, 1) := by decide +kernel
theorem dX5_apart_19 : decode cX5_apart 19 = .ok (.ireturn, 1) := by decide +kernel
theorem dX5_covers_0 : decode cX5_covers 0 = .ok (.aload_n 0, 1) := by decide +kernel
theorem dX5_covers_1 : decode cX5_covers 1 = .ok (.iload_n 1, 1) := by decide +kernel
theorem dX5_covers_2 : decode cX5_covers 2 = .ok (.iload_n 2, 1) := by decide +kernel
theorem dX5_covers_3 : decode cX5_covers 3 = .ok (.invokevirtual 95, 3) := by decide +kernel
theorem dX5_covers_6 : decode cX5_covers 6 = .ok (.aload_n 0, 1) := by decide +kernel
theorem dX5_covers_7 : decode cX5_covers 7 = .ok (.getfield 13, 3) := by decide +kernel
theorem dX5_covers_10 : decode cX5_covers 10 = .ok (.iload_n 1, 1) := by decide +kernel
theorem dX5_covers_11 : decode cX5_covers 11 = .ok (.iaload, 1) := by decide +kernel
theorem dX5_covers_12 : decode cX5_covers 12 = .ok (.if_icmp .gt 7, 3) := by decide +kernel
theorem dX5_covers_15 : decode cX5_covers 15 = .ok (.iconst 1, 1) := by decide +kernel
theorem dX5_covers_16 : decode cX5_covers 16 = .ok (.goto 4, 3) := by decide +kernel
theorem dX5_covers_19 : decode cX5_covers 19 = .ok (.iconst 0, 1) := by decide +kernel
theorem dX5_covers_20 : decode cX5_covers 20 = .ok (.ireturn, 1) := by decide +kernel
theorem dX5_mast_0 : decode cX5_mast 0 = .ok (.iload_n 1, 1) := by decide +kernel
theorem dX5_mast_1 : decode cX5_mast 1 = .ok (.iconst 0, 1) := by decide +kernel
theorem dX5_mast_2 : decode cX5_mast 2 = .ok (.bipush 99, 2) := by decide +kernel
theorem dX5_mast_4 : decode cX5_mast 4 = .ok (.invokestatic 84, 3) := by decide +kernel
theorem dX5_mast_7 : decode cX5_mast 7 = .ok (.ifCond .eq 49, 3) := by decide +kernel
theorem dX5_mast_10 : decode cX5_mast 10 = .ok (.iload_n 2, 1) := by decide +kernel
theorem dX5_mast_11 : decode cX5_mast 11 = .ok (.iconst 1, 1) := by decide +kernel
theorem dX5_mast_12 : decode cX5_mast 12 = .ok (.bipush 40, 2) := by decide +kernel
theorem dX5_mast_14 : decode cX5_mast 14 = .ok (.invokestatic 84, 3) := by decide +kernel
theorem dX5_mast_17 : decode cX5_mast 17 = .ok (.ifCond .eq 39, 3) := by decide +kernel
theorem dX5_mast_20 : decode cX5_mast 20 = .ok (.iload_n 3, 1) := by decide +kernel
theorem dX5_mast_21 : decode cX5_mast 21 = .ok (.iconst 1, 1) := by decide +kernel
theorem dX5_mast_22 : decode cX5_mast 22 = .ok (.bipush 10, 2) := by decide +kernel
theorem dX5_mast_24 : decode cX5_mast 24 = .ok (.invokestatic 84, 3) := by decide +kernel
theorem dX5_mast_27 : decode cX5_mast 27 = .ok (.ifCond .eq 29, 3) := by decide +kernel
theorem dX5_mast_30 : decode cX5_mast 30 = .ok (.iload 4, 2) := by decide +kernel
theorem dX5_mast_32 : decode cX5_mast 32 = .ok (.iconst 0, 1) := by decide +kernel
theorem dX5_mast_33 : decode cX5_mast 33 = .ok (.bipush 10, 2) := by decide +kernel
theorem dX5_mast_35 : decode cX5_mast 35 = .ok (.invokestatic 84, 3) := by decide +kernel
theorem dX5_mast_38 : decode cX5_mast 38 = .ok (.ifCond .eq 18, 3) := by decide +kernel
theorem dX5_mast_41 : decode cX5_mast 41 = .ok (.iload 5, 2) := by decide +kernel
theorem dX5_mast_43 : decode cX5_mast 43 = .ok (.iconst 0, 1) := by decide +kernel
theorem dX5_mast_44 : decode cX5_mast 44 = .ok (.bipush 100, 2) := by decide +kernel
theorem dX5_mast_46 : decode cX5_mast 46 = .ok (.invokestatic 84, 3) := by decide +kernel
theorem dX5_mast_49 : decode cX5_mast 49 = .ok (.ifCond .eq 7, 3) := by decide +kernel
theorem dX5_mast_52 : decode cX5_mast 52 = .ok (.iconst 1, 1) := by decide +kernel
theorem dX5_mast_53 : decode cX5_mast 53 = .ok (.goto 4, 3) := by decide +kernel
theorem dX5_mast_56 : decode cX5_mast 56 = .ok (.iconst 0, 1) := by decide +kernel
theorem dX5_mast_57 : decode cX5_mast 57 = .ok (.istore 7, 2) := by decide +kernel
theorem dX5_mast_59 : decode cX5_mast 59 = .ok (.aload_n 0, 1) := by decide +kernel
theorem dX5_mast_60 : decode cX5_mast 60 = .ok (.iload 7, 2) := by decide +kernel
theorem dX5_mast_62 : decode cX5_mast 62 = .ok (.ifCond .ne 7, 3) := by decide +kernel
theorem dX5_mast_65 : decode cX5_mast 65 = .ok (.iconst 1, 1) := by decide +kernel
theorem dX5_mast_66 : decode cX5_mast 66 = .ok (.goto 17, 3) := by decide +kernel
theorem dX5_mast_69 : decode cX5_mast 69 = .ok (.aload_n 0, 1) := by decide +kernel
theorem dX5_mast_70 : decode cX5_mast 70 = .ok (.getfield 81, 3) := by decide +kernel
theorem dX5_mast_73 : decode cX5_mast 73 = .ok (.bipush 8, 2) := by decide +kernel
theorem dX5_mast_75 : decode cX5_mast 75 = .ok (.if_icmp .ne 7, 3) := by decide +kernel
theorem dX5_mast_78 : decode cX5_mast 78 = .ok (.iconst 2, 1) := by decide +kernel
theorem dX5_mast_79 : decode cX5_mast 79 = .ok (.goto 4, 3) := by decide +kernel
theorem dX5_mast_82 : decode cX5_mast 82 = .ok (.iconst 0, 1) := by decide +kernel
theorem dX5_mast_83 : decode cX5_mast 83 = .ok (.putfield 77, 3) := by decide +kernel
theorem dX5_mast_86 : decode cX5_mast 86 = .ok (.aload_n 0, 1) := by decide +kernel
theorem dX5_mast_87 : decode cX5_mast 87 = .ok (.getfield 77, 3) := by decide +kernel
theorem dX5_mast_90 : decode cX5_mast 90 = .ok (.ifCond .le 5, 3) := by decide +kernel
theorem dX5_mast_93 : decode cX5_mast 93 = .ok (.iconst 0, 1) := by decide +kernel
theorem dX5_mast_94 : decode cX5_mast 94 = .ok (.ireturn, 1) := by decide +kernel
theorem dX5_mast_95 : decode cX5_mast 95 = .ok (.aload_n 0, 1) := by decide +kernel
theorem dX5_mast_96 : decode cX5_mast 96 = .ok (.getfield 81, 3) := by decide +kernel
theorem dX5_mast_99 : decode cX5_mast 99 = .ok (.istore 8, 2) := by decide +kernel
theorem dX5_mast_101 : decode cX5_mast 101 = .ok (.aload_n 0, 1) := by decide +kernel
theorem dX5_mast_102 : decode cX5_mast 102 = .ok (.getfield 7, 3) := by decide +kernel
theorem dX5_mast_105 : decode cX5_mast 105 = .ok (.iload 8, 2) := by decide +kernel
theorem dX5_mast_107 : decode cX5_mast 107 = .ok (.iload_n 1, 1) := by decide +kernel
theorem dX5_mast_108 : decode cX5_mast 108 = .ok (.iastore, 1) := by decide +kernel
theorem dX5_mast_109 : decode cX5_mast 109 = .ok (.aload_n 0, 1) := by decide +kernel
theorem dX5_mast_110 : decode cX5_mast 110 = .ok (.getfield 13, 3) := by decide +kernel
theorem dX5_mast_113 : decode cX5_mast 113 = .ok (.iload 8, 2) := by decide +kernel
theorem dX5_mast_115 : decode cX5_mast 115 = .ok (.iload_n 2, 1) := by decide +kernel
theorem dX5_mast_116 : decode cX5_mast 116 = .ok (.iastore, 1) := by decide +kernel
theorem dX5_mast_117 : decode cX5_mast 117 = .ok (.aload_n 0, 1) := by decide +kernel
theorem dX5_mast_118 : decode cX5_mast 118 = .ok (.getfield 16, 3) := by decide +kernel
theorem dX5_mast_121 : decode cX5_mast 121 = .ok (.iload 8, 2) := by decide +kernel
theorem dX5_mast_123 : decode cX5_mast 123 = .ok (.iload_n 3, 1) := by decide +kernel
theorem dX5_mast_124 : decode cX5_mast 124 = .ok (.iastore, 1) := by decide +kernel
theorem dX5_mast_125 : decode cX5_mast 125 = .ok (.aload_n 0, 1) := by decide +kernel
theorem dX5_mast_126 : decode cX5_mast 126 = .ok (.getfield 19, 3) := by decide +kernel
theorem dX5_mast_129 : decode cX5_mast 129 = .ok (.iload 8, 2) := by decide +kernel
theorem dX5_mast_131 : decode cX5_mast 131 = .ok (.iload 4, 2) := by decide +kernel
theorem dX5_mast_133 : decode cX5_mast 133 = .ok (.iastore, 1) := by decide +kernel
theorem dX5_mast_134 : decode cX5_mast 134 = .ok (.aload_n 0, 1) := by decide +kernel
theorem dX5_mast_135 : decode cX5_mast 135 = .ok (.getfield 22, 3) := by decide +kernel
theorem dX5_mast_138 : decode cX5_mast 138 = .ok (.iload 8, 2) := by decide +kernel
theorem dX5_mast_140 : decode cX5_mast 140 = .ok (.iload 5, 2) := by decide +kernel
theorem dX5_mast_142 : decode cX5_mast 142 = .ok (.iastore, 1) := by decide +kernel
theorem dX5_mast_143 : decode cX5_mast 143 = .ok (.aload_n 0, 1) := by decide +kernel
theorem dX5_mast_144 : decode cX5_mast 144 = .ok (.getfield 25, 3) := by decide +kernel
theorem dX5_mast_147 : decode cX5_mast 147 = .ok (.iload 8, 2) := by decide +kernel
theorem dX5_mast_149 : decode cX5_mast 149 = .ok (.iload 6, 2) := by decide +kernel
theorem dX5_mast_151 : decode cX5_mast 151 = .ok (.bastore, 1) := by decide +kernel
theorem dX5_mast_152 : decode cX5_mast 152 = .ok (.aload_n 0, 1) := by decide +kernel
theorem dX5_mast_153 : decode cX5_mast 153 = .ok (.getfield 35, 3) := by decide +kernel
theorem dX5_mast_156 : decode cX5_mast 156 = .ok (.iload 8, 2) := by decide +kernel
theorem dX5_mast_158 : decode cX5_mast 158 = .ok (.iconst (-1), 1) := by decide +kernel
theorem dX5_mast_159 : decode cX5_mast 159 = .ok (.iastore, 1) := by decide +kernel
theorem dX5_mast_160 : decode cX5_mast 160 = .ok (.aload_n 0, 1) := by decide +kernel
theorem dX5_mast_161 : decode cX5_mast 161 = .ok (.dup, 1) := by decide +kernel
theorem dX5_mast_162 : decode cX5_mast 162 = .ok (.getfield 81, 3) := by decide +kernel
theorem dX5_mast_165 : decode cX5_mast 165 = .ok (.iconst 1, 1) := by decide +kernel
theorem dX5_mast_166 : decode cX5_mast 166 = .ok (.iadd, 1) := by decide +kernel
theorem dX5_mast_167 : decode cX5_mast 167 = .ok (.putfield 81, 3) := by decide +kernel
theorem dX5_mast_170 : decode cX5_mast 170 = .ok (.iload 8, 2) := by decide +kernel
theorem dX5_mast_172 : decode cX5_mast 172 = .ok (.ireturn, 1) := by decide +kernel
theorem dX5_lease_0 : decode cX5_lease 0 = .ok (.aload_n 0, 1) := by decide +kernel
theorem dX5_lease_1 : decode cX5_lease 1 = .ok (.iload_n 1, 1) := by decide +kernel
theorem dX5_lease_2 : decode cX5_lease 2 = .ok (.invokevirtual 99, 3) := by decide +kernel
theorem dX5_lease_5 : decode cX5_lease 5 = .ok (.ifCond .eq 26, 3) := by decide +kernel
theorem dX5_lease_8 : decode cX5_lease 8 = .ok (.iload_n 2, 1) := by decide +kernel
theorem dX5_lease_9 : decode cX5_lease 9 = .ok (.invokestatic 102, 3) := by decide +kernel
theorem dX5_lease_12 : decode cX5_lease 12 = .ok (.ifCond .eq 19, 3) := by decide +kernel
theorem dX5_lease_15 : decode cX5_lease 15 = .ok (.iload_n 3, 1) := by decide +kernel
theorem dX5_lease_16 : decode cX5_lease 16 = .ok (.iconst (-1), 1) := by decide +kernel
theorem dX5_lease_17 : decode cX5_lease 17 = .ok (.if_icmp .eq 10, 3) := by decide +kernel
theorem dX5_lease_20 : decode cX5_lease 20 = .ok (.iload_n 3, 1) := by decide +kernel
theorem dX5_lease_21 : decode cX5_lease 21 = .ok (.invokestatic 102, 3) := by decide +kernel
theorem dX5_lease_24 : decode cX5_lease 24 = .ok (.ifCond .eq 7, 3) := by decide +kernel
theorem dX5_lease_27 : decode cX5_lease 27 = .ok (.iconst 1, 1) := by decide +kernel
theorem dX5_lease_28 : decode cX5_lease 28 = .ok (.goto 4, 3) := by decide +kernel
theorem dX5_lease_31 : decode cX5_lease 31 = .ok (.iconst 0, 1) := by decide +kernel
theorem dX5_lease_32 : decode cX5_lease 32 = .ok (.istore 8, 2) := by decide +kernel
theorem dX5_lease_34 : decode cX5_lease 34 = .ok (.iload_n 2, 1) := by decide +kernel
theorem dX5_lease_35 : decode cX5_lease 35 = .ok (.iload_n 3, 1) := by decide +kernel
theorem dX5_lease_36 : decode cX5_lease 36 = .ok (.if_icmp .eq 68, 3) := by decide +kernel
theorem dX5_lease_39 : decode cX5_lease 39 = .ok (.iload 4, 2) := by decide +kernel
theorem dX5_lease_41 : decode cX5_lease 41 = .ok (.iload_n 3, 1) := by decide +kernel
theorem dX5_lease_42 : decode cX5_lease 42 = .ok (.iconst (-1), 1) := by decide +kernel
theorem dX5_lease_43 : decode cX5_lease 43 = .ok (.if_icmp .ne 8, 3) := by decide +kernel
theorem dX5_lease_46 : decode cX5_lease 46 = .ok (.bipush 10, 2) := by decide +kernel
theorem dX5_lease_48 : decode cX5_lease 48 = .ok (.goto 4, 3) := by decide +kernel
theorem dX5_lease_51 : decode cX5_lease 51 = .ok (.iconst 0, 1) := by decide +kernel
theorem dX5_lease_52 : decode cX5_lease 52 = .ok (.bipush 10, 2) := by decide +kernel
theorem dX5_lease_54 : decode cX5_lease 54 = .ok (.invokestatic 84, 3) := by decide +kernel
theorem dX5_lease_57 : decode cX5_lease 57 = .ok (.ifCond .eq 47, 3) := by decide +kernel
theorem dX5_lease_60 : decode cX5_lease 60 = .ok (.iload 5, 2) := by decide +kernel
theorem dX5_lease_62 : decode cX5_lease 62 = .ok (.aload_n 0, 1) := by decide +kernel
theorem dX5_lease_63 : decode cX5_lease 63 = .ok (.getfield 105, 3) := by decide +kernel
theorem dX5_lease_66 : decode cX5_lease 66 = .ok (.iconst 1, 1) := by decide +kernel
theorem dX5_lease_67 : decode cX5_lease 67 = .ok (.iadd, 1) := by decide +kernel
theorem dX5_lease_68 : decode cX5_lease 68 = .ok (.sipush 10000, 3) := by decide +kernel
theorem dX5_lease_71 : decode cX5_lease 71 = .ok (.invokestatic 84, 3) := by decide +kernel
theorem dX5_lease_74 : decode cX5_lease 74 = .ok (.ifCond .eq 30, 3) := by decide +kernel
theorem dX5_lease_77 : decode cX5_lease 77 = .ok (.iload 6, 2) := by decide +kernel
theorem dX5_lease_79 : decode cX5_lease 79 = .ok (.iconst 0, 1) := by decide +kernel
theorem dX5_lease_80 : decode cX5_lease 80 = .ok (.sipush 1000, 3) := by decide +kernel
theorem dX5_lease_83 : decode cX5_lease 83 = .ok (.invokestatic 84, 3) := by decide +kernel
theorem dX5_lease_86 : decode cX5_lease 86 = .ok (.ifCond .eq 18, 3) := by decide +kernel
theorem dX5_lease_89 : decode cX5_lease 89 = .ok (.iload 7, 2) := by decide +kernel
theorem dX5_lease_91 : decode cX5_lease 91 = .ok (.iconst 0, 1) := by decide +kernel
theorem dX5_lease_92 : decode cX5_lease 92 = .ok (.bipush 100, 2) := by decide +kernel
theorem dX5_lease_94 : decode cX5_lease 94 = .ok (.invokestatic 84, 3) := by decide +kernel
theorem dX5_lease_97 : decode cX5_lease 97 = .ok (.ifCond .eq 7, 3) := by decide +kernel
theorem dX5_lease_100 : decode cX5_lease 100 = .ok (.iconst 1, 1) := by decide +kernel
theorem dX5_lease_101 : decode cX5_lease 101 = .ok (.goto 4, 3) := by decide +kernel
theorem dX5_lease_104 : decode cX5_lease 104 = .ok (.iconst 0, 1) := by decide +kernel
theorem dX5_lease_105 : decode cX5_lease 105 = .ok (.istore 9, 2) := by decide +kernel
theorem dX5_lease_107 : decode cX5_lease 107 = .ok (.aload_n 0, 1) := by decide +kernel
theorem dX5_lease_108 : decode cX5_lease 108 = .ok (.iload 8, 2) := by decide +kernel
theorem dX5_lease_110 : decode cX5_lease 110 = .ok (.ifCond .ne 7, 3) := by decide +kernel
theorem dX5_lease_113 : decode cX5_lease 113 = .ok (.iconst 1, 1) := by decide +kernel
theorem dX5_lease_114 : decode cX5_lease 114 = .ok (.goto 25, 3) := by decide +kernel
theorem dX5_lease_117 : decode cX5_lease 117 = .ok (.iload 9, 2) := by decide +kernel
theorem dX5_lease_119 : decode cX5_lease 119 = .ok (.ifCond .ne 7, 3) := by decide +kernel
theorem dX5_lease_122 : decode cX5_lease 122 = .ok (.iconst 2, 1) := by decide +kernel
theorem dX5_lease_123 : decode cX5_lease 123 = .ok (.goto 16, 3) := by decide +kernel
theorem dX5_lease_126 : decode cX5_lease 126 = .ok (.aload_n 0, 1) := by decide +kernel
theorem dX5_lease_127 : decode cX5_lease 127 = .ok (.iload_n 1, 1) := by decide +kernel
theorem dX5_lease_128 : decode cX5_lease 128 = .ok (.invokevirtual 91, 3) := by decide +kernel
theorem dX5_lease_131 : decode cX5_lease 131 = .ok (.ifCond .eq 7, 3) := by decide +kernel
theorem dX5_lease_134 : decode cX5_lease 134 = .ok (.iconst 3, 1) := by decide +kernel
theorem dX5_lease_135 : decode cX5_lease 135 = .ok (.goto 4, 3) := by decide +kernel
theorem dX5_lease_138 : decode cX5_lease 138 = .ok (.iconst 0, 1) := by decide +kernel
theorem dX5_lease_139 : decode cX5_lease 139 = .ok (.putfield 77, 3) := by decide +kernel
theorem dX5_lease_142 : decode cX5_lease 142 = .ok (.aload_n 0, 1) := by decide +kernel
theorem dX5_lease_143 : decode cX5_lease 143 = .ok (.getfield 77, 3) := by decide +kernel
theorem dX5_lease_146 : decode cX5_lease 146 = .ok (.ifCond .ne 49, 3) := by decide +kernel
theorem dX5_lease_149 : decode cX5_lease 149 = .ok (.aload_n 0, 1) := by decide +kernel
theorem dX5_lease_150 : decode cX5_lease 150 = .ok (.getfield 35, 3) := by decide +kernel
theorem dX5_lease_153 : decode cX5_lease 153 = .ok (.iload_n 1, 1) := by decide +kernel
theorem dX5_lease_154 : decode cX5_lease 154 = .ok (.iload 5, 2) := by decide +kernel
theorem dX5_lease_156 : decode cX5_lease 156 = .ok (.iastore, 1) := by decide +kernel
theorem dX5_lease_157 : decode cX5_lease 157 = .ok (.aload_n 0, 1) := by decide +kernel
theorem dX5_lease_158 : decode cX5_lease 158 = .ok (.getfield 38, 3) := by decide +kernel
theorem dX5_lease_161 : decode cX5_lease 161 = .ok (.iload_n 1, 1) := by decide +kernel
theorem dX5_lease_162 : decode cX5_lease 162 = .ok (.iload_n 2, 1) := by decide +kernel
theorem dX5_lease_163 : decode cX5_lease 163 = .ok (.iastore, 1) := by decide +kernel
theorem dX5_lease_164 : decode cX5_lease 164 = .ok (.aload_n 0, 1) := by decide +kernel
theorem dX5_lease_165 : decode cX5_lease 165 = .ok (.getfield 41, 3) := by decide +kernel
theorem dX5_lease_168 : decode cX5_lease 168 = .ok (.iload_n 1, 1) := by decide +kernel
theorem dX5_lease_169 : decode cX5_lease 169 = .ok (.iload_n 3, 1) := by decide +kernel
theorem dX5_lease_170 : decode cX5_lease 170 = .ok (.iastore, 1) := by decide +kernel
theorem dX5_lease_171 : decode cX5_lease 171 = .ok (.aload_n 0, 1) := by decide +kernel
theorem dX5_lease_172 : decode cX5_lease 172 = .ok (.getfield 44, 3) := by decide +kernel
theorem dX5_lease_175 : decode cX5_lease 175 = .ok (.iload_n 1, 1) := by decide +kernel
theorem dX5_lease_176 : decode cX5_lease 176 = .ok (.iload 4, 2) := by decide +kernel
theorem dX5_lease_178 : decode cX5_lease 178 = .ok (.iastore, 1) := by decide +kernel
theorem dX5_lease_179 : decode cX5_lease 179 = .ok (.aload_n 0, 1) := by decide +kernel
theorem dX5_lease_180 : decode cX5_lease 180 = .ok (.getfield 47, 3) := by decide +kernel
theorem dX5_lease_183 : decode cX5_lease 183 = .ok (.iload_n 1, 1) := by decide +kernel
theorem dX5_lease_184 : decode cX5_lease 184 = .ok (.iload 6, 2) := by decide +kernel
theorem dX5_lease_186 : decode cX5_lease 186 = .ok (.iastore, 1) := by decide +kernel
theorem dX5_lease_187 : decode cX5_lease 187 = .ok (.aload_n 0, 1) := by decide +kernel
theorem dX5_lease_188 : decode cX5_lease 188 = .ok (.getfield 50, 3) := by decide +kernel
theorem dX5_lease_191 : decode cX5_lease 191 = .ok (.iload_n 1, 1) := by decide +kernel
theorem dX5_lease_192 : decode cX5_lease 192 = .ok (.iload 7, 2) := by decide +kernel
theorem dX5_lease_194 : decode cX5_lease 194 = .ok (.iastore, 1) := by decide +kernel
theorem dX5_lease_195 : decode cX5_lease 195 = .ok (.return_, 1) := by decide +kernel
theorem dX5_sun_0 : decode cX5_sun 0 = .ok (.aload_n 0, 1) := by decide +kernel
theorem dX5_sun_1 : decode cX5_sun 1 = .ok (.iload_n 1, 1) := by decide +kernel
theorem dX5_sun_2 : decode cX5_sun 2 = .ok (.iconst 0, 1) := by decide +kernel
theorem dX5_sun_3 : decode cX5_sun 3 = .ok (.bipush 10, 2) := by decide +kernel
theorem dX5_sun_5 : decode cX5_sun 5 = .ok (.invokestatic 84, 3) := by decide +kernel
theorem dX5_sun_8 : decode cX5_sun 8 = .ok (.ifCond .eq 7, 3) := by decide +kernel
theorem dX5_sun_11 : decode cX5_sun 11 = .ok (.iconst 0, 1) := by decide +kernel
theorem dX5_sun_12 : decode cX5_sun 12 = .ok (.goto 4, 3) := by decide +kernel
theorem dX5_sun_15 : decode cX5_sun 15 = .ok (.iconst 1, 1) := by decide +kernel
theorem dX5_sun_16 : decode cX5_sun 16 = .ok (.putfield 77, 3) := by decide +kernel
theorem dX5_sun_19 : decode cX5_sun 19 = .ok (.aload_n 0, 1) := by decide +kernel
theorem dX5_sun_20 : decode cX5_sun 20 = .ok (.getfield 77, 3) := by decide +kernel
theorem dX5_sun_23 : decode cX5_sun 23 = .ok (.ifCond .le 5, 3) := by decide +kernel
theorem dX5_sun_26 : decode cX5_sun 26 = .ok (.iconst 0, 1) := by decide +kernel
theorem dX5_sun_27 : decode cX5_sun 27 = .ok (.ireturn, 1) := by decide +kernel
theorem dX5_sun_28 : decode cX5_sun 28 = .ok (.aload_n 0, 1) := by decide +kernel
theorem dX5_sun_29 : decode cX5_sun 29 = .ok (.getfield 108, 3) := by decide +kernel
theorem dX5_sun_32 : decode cX5_sun 32 = .ok (.istore_n 2, 1) := by decide +kernel
theorem dX5_sun_33 : decode cX5_sun 33 = .ok (.aload_n 0, 1) := by decide +kernel
theorem dX5_sun_34 : decode cX5_sun 34 = .ok (.iload_n 1, 1) := by decide +kernel
theorem dX5_sun_35 : decode cX5_sun 35 = .ok (.putfield 108, 3) := by decide +kernel
theorem dX5_sun_38 : decode cX5_sun 38 = .ok (.iload_n 2, 1) := by decide +kernel
theorem dX5_sun_39 : decode cX5_sun 39 = .ok (.ireturn, 1) := by decide +kernel
theorem dX5_phone_0 : decode cX5_phone 0 = .ok (.aload_n 0, 1) := by decide +kernel
theorem dX5_phone_1 : decode cX5_phone 1 = .ok (.iload_n 1, 1) := by decide +kernel
theorem dX5_phone_2 : decode cX5_phone 2 = .ok (.iconst 0, 1) := by decide +kernel
theorem dX5_phone_3 : decode cX5_phone 3 = .ok (.bipush 99, 2) := by decide +kernel
theorem dX5_phone_5 : decode cX5_phone 5 = .ok (.invokestatic 84, 3) := by decide +kernel
theorem dX5_phone_8 : decode cX5_phone 8 = .ok (.ifCond .ne 7, 3) := by decide +kernel
theorem dX5_phone_11 : decode cX5_phone 11 = .ok (.iconst 1, 1) := by decide +kernel
theorem dX5_phone_12 : decode cX5_phone 12 = .ok (.goto 17, 3) := by decide +kernel
theorem dX5_phone_15 : decode cX5_phone 15 = .ok (.aload_n 0, 1) := by decide +kernel
theorem dX5_phone_16 : decode cX5_phone 16 = .ok (.getfield 88, 3) := by decide +kernel
theorem dX5_phone_19 : decode cX5_phone 19 = .ok (.bipush 12, 2) := by decide +kernel
theorem dX5_phone_21 : decode cX5_phone 21 = .ok (.if_icmp .ne 7, 3) := by decide +kernel
theorem dX5_phone_24 : decode cX5_phone 24 = .ok (.iconst 2, 1) := by decide +kernel
theorem dX5_phone_25 : decode cX5_phone 25 = .ok (.goto 4, 3) := by decide +kernel
theorem dX5_phone_28 : decode cX5_phone 28 = .ok (.iconst 0, 1) := by decide +kernel
theorem dX5_phone_29 : decode cX5_phone 29 = .ok (.putfield 77, 3) := by decide +kernel
theorem dX5_phone_32 : decode cX5_phone 32 = .ok (.aload_n 0, 1) := by decide +kernel
theorem dX5_phone_33 : decode cX5_phone 33 = .ok (.getfield 77, 3) := by decide +kernel
theorem dX5_phone_36 : decode cX5_phone 36 = .ok (.ifCond .le 5, 3) := by decide +kernel
theorem dX5_phone_39 : decode cX5_phone 39 = .ok (.iconst 0, 1) := by decide +kernel
theorem dX5_phone_40 : decode cX5_phone 40 = .ok (.ireturn, 1) := by decide +kernel
theorem dX5_phone_41 : decode cX5_phone 41 = .ok (.aload_n 0, 1) := by decide +kernel
theorem dX5_phone_42 : decode cX5_phone 42 = .ok (.getfield 59, 3) := by decide +kernel
theorem dX5_phone_45 : decode cX5_phone 45 = .ok (.aload_n 0, 1) := by decide +kernel
theorem dX5_phone_46 : decode cX5_phone 46 = .ok (.getfield 88, 3) := by decide +kernel
theorem dX5_phone_49 : decode cX5_phone 49 = .ok (.iload_n 1, 1) := by decide +kernel
theorem dX5_phone_50 : decode cX5_phone 50 = .ok (.iastore, 1) := by decide +kernel
theorem dX5_phone_51 : decode cX5_phone 51 = .ok (.aload_n 0, 1) := by decide +kernel
theorem dX5_phone_52 : decode cX5_phone 52 = .ok (.getfield 62, 3) := by decide +kernel
theorem dX5_phone_55 : decode cX5_phone 55 = .ok (.aload_n 0, 1) := by decide +kernel
theorem dX5_phone_56 : decode cX5_phone 56 = .ok (.getfield 88, 3) := by decide +kernel
theorem dX5_phone_59 : decode cX5_phone 59 = .ok (.iconst (-1), 1) := by decide +kernel
theorem dX5_phone_60 : decode cX5_phone 60 = .ok (.iastore, 1) := by decide +kernel
theorem dX5_phone_61 : decode cX5_phone 61 = .ok (.aload_n 0, 1) := by decide +kernel
theorem dX5_phone_62 : decode cX5_phone 62 = .ok (.dup, 1) := by decide +kernel
theorem dX5_phone_63 : decode cX5_phone 63 = .ok (.getfield 88, 3) := by decide +kernel
theorem dX5_phone_66 : decode cX5_phone 66 = .ok (.iconst 1, 1) := by decide +kernel
theorem dX5_phone_67 : decode cX5_phone 67 = .ok (.iadd, 1) := by decide +kernel
theorem dX5_phone_68 : decode cX5_phone 68 = .ok (.putfield 88, 3) := by decide +kernel
theorem dX5_phone_71 : decode cX5_phone 71 = .ok (.aload_n 0, 1) := by decide +kernel
theorem dX5_phone_72 : decode cX5_phone 72 = .ok (.getfield 88, 3) := by decide +kernel
theorem dX5_phone_75 : decode cX5_phone 75 = .ok (.iconst 1, 1) := by decide +kernel
theorem dX5_phone_76 : decode cX5_phone 76 = .ok (.isub, 1) := by decide +kernel
theorem dX5_phone_77 : decode cX5_phone 77 = .ok (.ireturn, 1) := by decide +kernel
theorem dX5_mastFor_0 : decode cX5_mastFor 0 = .ok (.iconst (-1), 1) := by decide +kernel
theorem dX5_mastFor_1 : decode cX5_mastFor 1 = .ok (.istore_n 2, 1) := by decide +kernel
theorem dX5_mastFor_2 : decode cX5_mastFor 2 = .ok (.iconst 0, 1) := by decide +kernel
theorem dX5_mastFor_3 : decode cX5_mastFor 3 = .ok (.istore_n 3, 1) := by decide +kernel
theorem dX5_mastFor_4 : decode cX5_mastFor 4 = .ok (.iload_n 3, 1) := by decide +kernel
theorem dX5_mastFor_5 : decode cX5_mastFor 5 = .ok (.aload_n 0, 1) := by decide +kernel
theorem dX5_mastFor_6 : decode cX5_mastFor 6 = .ok (.getfield 81, 3) := by decide +kernel
theorem dX5_mastFor_9 : decode cX5_mastFor 9 = .ok (.if_icmp .ge 78, 3) := by decide +kernel
theorem dX5_mastFor_12 : decode cX5_mastFor 12 = .ok (.aload_n 0, 1) := by decide +kernel
theorem dX5_mastFor_13 : decode cX5_mastFor 13 = .ok (.iload_n 3, 1) := by decide +kernel
theorem dX5_mastFor_14 : decode cX5_mastFor 14 = .ok (.invokevirtual 111, 3) := by decide +kernel
theorem dX5_mastFor_17 : decode cX5_mastFor 17 = .ok (.ifCond .eq 30, 3) := by decide +kernel
theorem dX5_mastFor_20 : decode cX5_mastFor 20 = .ok (.aload_n 0, 1) := by decide +kernel
theorem dX5_mastFor_21 : decode cX5_mastFor 21 = .ok (.iload_n 3, 1) := by decide +kernel
theorem dX5_mastFor_22 : decode cX5_mastFor 22 = .ok (.iload_n 1, 1) := by decide +kernel
theorem dX5_mastFor_23 : decode cX5_mastFor 23 = .ok (.invokevirtual 114, 3) := by decide +kernel
theorem dX5_mastFor_26 : decode cX5_mastFor 26 = .ok (.ifCond .eq 21, 3) := by decide +kernel
theorem dX5_mastFor_29 : decode cX5_mastFor 29 = .ok (.aload_n 0, 1) := by decide +kernel
theorem dX5_mastFor_30 : decode cX5_mastFor 30 = .ok (.iload_n 3, 1) := by decide +kernel
theorem dX5_mastFor_31 : decode cX5_mastFor 31 = .ok (.invokevirtual 118, 3) := by decide +kernel
theorem dX5_mastFor_34 : decode cX5_mastFor 34 = .ok (.aload_n 0, 1) := by decide +kernel
theorem dX5_mastFor_35 : decode cX5_mastFor 35 = .ok (.getfield 16, 3) := by decide +kernel
theorem dX5_mastFor_38 : decode cX5_mastFor 38 = .ok (.iload_n 3, 1) := by decide +kernel
theorem dX5_mastFor_39 : decode cX5_mastFor 39 = .ok (.iaload, 1) := by decide +kernel
theorem dX5_mastFor_40 : decode cX5_mastFor 40 = .ok (.if_icmp .ge 7, 3) := by decide +kernel
theorem dX5_mastFor_43 : decode cX5_mastFor 43 = .ok (.iconst 1, 1) := by decide +kernel
theorem dX5_mastFor_44 : decode cX5_mastFor 44 = .ok (.goto 4, 3) := by decide +kernel
theorem dX5_mastFor_47 : decode cX5_mastFor 47 = .ok (.iconst 0, 1) := by decide +kernel
theorem dX5_mastFor_48 : decode cX5_mastFor 48 = .ok (.istore 4, 2) := by decide +kernel
theorem dX5_mastFor_50 : decode cX5_mastFor 50 = .ok (.iload 4, 2) := by decide +kernel
theorem dX5_mastFor_52 : decode cX5_mastFor 52 = .ok (.ifCond .eq 27, 3) := by decide +kernel
theorem dX5_mastFor_55 : decode cX5_mastFor 55 = .ok (.iload_n 2, 1) := by decide +kernel
theorem dX5_mastFor_56 : decode cX5_mastFor 56 = .ok (.iconst (-1), 1) := by decide +kernel
theorem dX5_mastFor_57 : decode cX5_mastFor 57 = .ok (.if_icmp .eq 18, 3) := by decide +kernel
theorem dX5_mastFor_60 : decode cX5_mastFor 60 = .ok (.aload_n 0, 1) := by decide +kernel
theorem dX5_mastFor_61 : decode cX5_mastFor 61 = .ok (.iload_n 3, 1) := by decide +kernel
theorem dX5_mastFor_62 : decode cX5_mastFor 62 = .ok (.iload_n 1, 1) := by decide +kernel
theorem dX5_mastFor_63 : decode cX5_mastFor 63 = .ok (.invokevirtual 95, 3) := by decide +kernel
theorem dX5_mastFor_66 : decode cX5_mastFor 66 = .ok (.aload_n 0, 1) := by decide +kernel
theorem dX5_mastFor_67 : decode cX5_mastFor 67 = .ok (.iload_n 2, 1) := by decide +kernel
theorem dX5_mastFor_68 : decode cX5_mastFor 68 = .ok (.iload_n 1, 1) := by decide +kernel
theorem dX5_mastFor_69 : decode cX5_mastFor 69 = .ok (.invokevirtual 95, 3) := by decide +kernel
theorem dX5_mastFor_72 : decode cX5_mastFor 72 = .ok (.if_icmp .ge 7, 3) := by decide +kernel
theorem dX5_mastFor_75 : decode cX5_mastFor 75 = .ok (.iload_n 3, 1) := by decide +kernel
theorem dX5_mastFor_76 : decode cX5_mastFor 76 = .ok (.goto 4, 3) := by decide +kernel
theorem dX5_mastFor_79 : decode cX5_mastFor 79 = .ok (.iload_n 2, 1) := by decide +kernel
theorem dX5_mastFor_80 : decode cX5_mastFor 80 = .ok (.istore_n 2, 1) := by decide +kernel
theorem dX5_mastFor_81 : decode cX5_mastFor 81 = .ok (.iinc 3 1, 3) := by decide +kernel
theorem dX5_mastFor_84 : decode cX5_mastFor 84 = .ok (.goto (-80), 3) := by decide +kernel
theorem dX5_mastFor_87 : decode cX5_mastFor 87 = .ok (.iload_n 2, 1) := by decide +kernel
theorem dX5_mastFor_88 : decode cX5_mastFor 88 = .ok (.ireturn, 1) := by decide +kernel
theorem dX5_call_0 : decode cX5_call 0 = .ok (.aload_n 0, 1) := by decide +kernel
theorem dX5_call_1 : decode cX5_call 1 = .ok (.aload_n 0, 1) := by decide +kernel
theorem dX5_call_2 : decode cX5_call 2 = .ok (.iload_n 1, 1) := by decide +kernel
theorem dX5_call_3 : decode cX5_call 3 = .ok (.invokevirtual 122, 3) := by decide +kernel
theorem dX5_call_6 : decode cX5_call 6 = .ok (.ifCond .ne 7, 3) := by decide +kernel
theorem dX5_call_9 : decode cX5_call 9 = .ok (.iconst 1, 1) := by decide +kernel
theorem dX5_call_10 : decode cX5_call 10 = .ok (.goto 18, 3) := by decide +kernel
theorem dX5_call_13 : decode cX5_call 13 = .ok (.aload_n 0, 1) := by decide +kernel
theorem dX5_call_14 : decode cX5_call 14 = .ok (.getfield 62, 3) := by decide +kernel
theorem dX5_call_17 : decode cX5_call 17 = .ok (.iload_n 1, 1) := by decide +kernel
theorem dX5_call_18 : decode cX5_call 18 = .ok (.iaload, 1) := by decide +kernel
theorem dX5_call_19 : decode cX5_call 19 = .ok (.iconst (-1), 1) := by decide +kernel
theorem dX5_call_20 : decode cX5_call 20 = .ok (.if_icmp .eq 7, 3) := by decide +kernel
theorem dX5_call_23 : decode cX5_call 23 = .ok (.iconst 2, 1) := by decide +kernel
theorem dX5_call_24 : decode cX5_call 24 = .ok (.goto 4, 3) := by decide +kernel
theorem dX5_call_27 : decode cX5_call 27 = .ok (.iconst 0, 1) := by decide +kernel
theorem dX5_call_28 : decode cX5_call 28 = .ok (.putfield 77, 3) := by decide +kernel
theorem dX5_call_31 : decode cX5_call 31 = .ok (.aload_n 0, 1) := by decide +kernel
theorem dX5_call_32 : decode cX5_call 32 = .ok (.getfield 77, 3) := by decide +kernel
theorem dX5_call_35 : decode cX5_call 35 = .ok (.ifCond .le 5, 3) := by decide +kernel
theorem dX5_call_38 : decode cX5_call 38 = .ok (.iconst 0, 1) := by decide +kernel
theorem dX5_call_39 : decode cX5_call 39 = .ok (.ireturn, 1) := by decide +kernel
theorem dX5_call_40 : decode cX5_call 40 = .ok (.aload_n 0, 1) := by decide +kernel
theorem dX5_call_41 : decode cX5_call 41 = .ok (.getfield 62, 3) := by decide +kernel
theorem dX5_call_44 : decode cX5_call 44 = .ok (.iload_n 1, 1) := by decide +kernel
theorem dX5_call_45 : decode cX5_call 45 = .ok (.aload_n 0, 1) := by decide +kernel
theorem dX5_call_46 : decode cX5_call 46 = .ok (.aload_n 0, 1) := by decide +kernel
theorem dX5_call_47 : decode cX5_call 47 = .ok (.getfield 59, 3) := by decide +kernel
theorem dX5_call_50 : decode cX5_call 50 = .ok (.iload_n 1, 1) := by decide +kernel
theorem dX5_call_51 : decode cX5_call 51 = .ok (.iaload, 1) := by decide +kernel
theorem dX5_call_52 : decode cX5_call 52 = .ok (.invokevirtual 125, 3) := by decide +kernel
theorem dX5_call_55 : decode cX5_call 55 = .ok (.iastore, 1) := by decide +kernel
theorem dX5_call_56 : decode cX5_call 56 = .ok (.aload_n 0, 1) := by decide +kernel
theorem dX5_call_57 : decode cX5_call 57 = .ok (.getfield 65, 3) := by decide +kernel
theorem dX5_call_60 : decode cX5_call 60 = .ok (.iload_n 1, 1) := by decide +kernel
theorem dX5_call_61 : decode cX5_call 61 = .ok (.dup2, 1) := by decide +kernel
theorem dX5_call_62 : decode cX5_call 62 = .ok (.iaload, 1) := by decide +kernel
theorem dX5_call_63 : decode cX5_call 63 = .ok (.aload_n 0, 1) := by decide +kernel
theorem dX5_call_64 : decode cX5_call 64 = .ok (.getfield 62, 3) := by decide +kernel
theorem dX5_call_67 : decode cX5_call 67 = .ok (.iload_n 1, 1) := by decide +kernel
theorem dX5_call_68 : decode cX5_call 68 = .ok (.iaload, 1) := by decide +kernel
theorem dX5_call_69 : decode cX5_call 69 = .ok (.iconst (-1), 1) := by decide +kernel
theorem dX5_call_70 : decode cX5_call 70 = .ok (.if_icmp .ne 7, 3) := by decide +kernel
theorem dX5_call_73 : decode cX5_call 73 = .ok (.iconst 1, 1) := by decide +kernel
theorem dX5_call_74 : decode cX5_call 74 = .ok (.goto 4, 3) := by decide +kernel
theorem dX5_call_77 : decode cX5_call 77 = .ok (.iconst 0, 1) := by decide +kernel
theorem dX5_call_78 : decode cX5_call 78 = .ok (.iadd, 1) := by decide +kernel
theorem dX5_call_79 : decode cX5_call 79 = .ok (.iastore, 1) := by decide +kernel
theorem dX5_call_80 : decode cX5_call 80 = .ok (.aload_n 0, 1) := by decide +kernel
theorem dX5_call_81 : decode cX5_call 81 = .ok (.getfield 62, 3) := by decide +kernel
theorem dX5_call_84 : decode cX5_call 84 = .ok (.iload_n 1, 1) := by decide +kernel
theorem dX5_call_85 : decode cX5_call 85 = .ok (.iaload, 1) := by decide +kernel
theorem dX5_call_86 : decode cX5_call 86 = .ok (.ireturn, 1) := by decide +kernel
theorem dX5_end_0 : decode cX5_end 0 = .ok (.aload_n 0, 1) := by decide +kernel
theorem dX5_end_1 : decode cX5_end 1 = .ok (.aload_n 0, 1) := by decide +kernel
theorem dX5_end_2 : decode cX5_end 2 = .ok (.iload_n 1, 1) := by decide +kernel
theorem dX5_end_3 : decode cX5_end 3 = .ok (.invokevirtual 122, 3) := by decide +kernel
theorem dX5_end_6 : decode cX5_end 6 = .ok (.ifCond .ne 7, 3) := by decide +kernel
theorem dX5_end_9 : decode cX5_end 9 = .ok (.iconst 1, 1) := by decide +kernel
theorem dX5_end_10 : decode cX5_end 10 = .ok (.goto 18, 3) := by decide +kernel
theorem dX5_end_13 : decode cX5_end 13 = .ok (.aload_n 0, 1) := by decide +kernel
theorem dX5_end_14 : decode cX5_end 14 = .ok (.getfield 62, 3) := by decide +kernel
theorem dX5_end_17 : decode cX5_end 17 = .ok (.iload_n 1, 1) := by decide +kernel
theorem dX5_end_18 : decode cX5_end 18 = .ok (.iaload, 1) := by decide +kernel
theorem dX5_end_19 : decode cX5_end 19 = .ok (.iconst (-1), 1) := by decide +kernel
theorem dX5_end_20 : decode cX5_end 20 = .ok (.if_icmp .ne 7, 3) := by decide +kernel
theorem dX5_end_23 : decode cX5_end 23 = .ok (.iconst 2, 1) := by decide +kernel
theorem dX5_end_24 : decode cX5_end 24 = .ok (.goto 4, 3) := by decide +kernel
theorem dX5_end_27 : decode cX5_end 27 = .ok (.iconst 0, 1) := by decide +kernel
theorem dX5_end_28 : decode cX5_end 28 = .ok (.putfield 77, 3) := by decide +kernel
theorem dX5_end_31 : decode cX5_end 31 = .ok (.aload_n 0, 1) := by decide +kernel
theorem dX5_end_32 : decode cX5_end 32 = .ok (.getfield 77, 3) := by decide +kernel
theorem dX5_end_35 : decode cX5_end 35 = .ok (.ifCond .le 5, 3) := by decide +kernel
theorem dX5_end_38 : decode cX5_end 38 = .ok (.iconst 0, 1) := by decide +kernel
theorem dX5_end_39 : decode cX5_end 39 = .ok (.ireturn, 1) := by decide +kernel
theorem dX5_end_40 : decode cX5_end 40 = .ok (.aload_n 0, 1) := by decide +kernel
theorem dX5_end_41 : decode cX5_end 41 = .ok (.getfield 62, 3) := by decide +kernel
theorem dX5_end_44 : decode cX5_end 44 = .ok (.iload_n 1, 1) := by decide +kernel
theorem dX5_end_45 : decode cX5_end 45 = .ok (.iaload, 1) := by decide +kernel
theorem dX5_end_46 : decode cX5_end 46 = .ok (.istore_n 2, 1) := by decide +kernel
theorem dX5_end_47 : decode cX5_end 47 = .ok (.aload_n 0, 1) := by decide +kernel
theorem dX5_end_48 : decode cX5_end 48 = .ok (.getfield 62, 3) := by decide +kernel
theorem dX5_end_51 : decode cX5_end 51 = .ok (.iload_n 1, 1) := by decide +kernel
theorem dX5_end_52 : decode cX5_end 52 = .ok (.iconst (-1), 1) := by decide +kernel
theorem dX5_end_53 : decode cX5_end 53 = .ok (.iastore, 1) := by decide +kernel
theorem dX5_end_54 : decode cX5_end 54 = .ok (.iload_n 2, 1) := by decide +kernel
theorem dX5_end_55 : decode cX5_end 55 = .ok (.ireturn, 1) := by decide +kernel
theorem dX5_handOver_0 : decode cX5_handOver 0 = .ok (.aload_n 0, 1) := by decide +kernel
theorem dX5_handOver_1 : decode cX5_handOver 1 = .ok (.getfield 62, 3) := by decide +kernel
theorem dX5_handOver_4 : decode cX5_handOver 4 = .ok (.iload_n 1, 1) := by decide +kernel
theorem dX5_handOver_5 : decode cX5_handOver 5 = .ok (.iconst (-1), 1) := by decide +kernel
theorem dX5_handOver_6 : decode cX5_handOver 6 = .ok (.iastore, 1) := by decide +kernel
theorem dX5_handOver_7 : decode cX5_handOver 7 = .ok (.aload_n 0, 1) := by decide +kernel
theorem dX5_handOver_8 : decode cX5_handOver 8 = .ok (.getfield 62, 3) := by decide +kernel
theorem dX5_handOver_11 : decode cX5_handOver 11 = .ok (.iload_n 1, 1) := by decide +kernel
theorem dX5_handOver_12 : decode cX5_handOver 12 = .ok (.aload_n 0, 1) := by decide +kernel
theorem dX5_handOver_13 : decode cX5_handOver 13 = .ok (.aload_n 0, 1) := by decide +kernel
theorem dX5_handOver_14 : decode cX5_handOver 14 = .ok (.getfield 59, 3) := by decide +kernel
theorem dX5_handOver_17 : decode cX5_handOver 17 = .ok (.iload_n 1, 1) := by decide +kernel
theorem dX5_handOver_18 : decode cX5_handOver 18 = .ok (.iaload, 1) := by decide +kernel
theorem dX5_handOver_19 : decode cX5_handOver 19 = .ok (.invokevirtual 125, 3) := by decide +kernel
theorem dX5_handOver_22 : decode cX5_handOver 22 = .ok (.iastore, 1) := by decide +kernel
theorem dX5_handOver_23 : decode cX5_handOver 23 = .ok (.aload_n 0, 1) := by decide +kernel
theorem dX5_handOver_24 : decode cX5_handOver 24 = .ok (.getfield 62, 3) := by decide +kernel
theorem dX5_handOver_27 : decode cX5_handOver 27 = .ok (.iload_n 1, 1) := by decide +kernel
theorem dX5_handOver_28 : decode cX5_handOver 28 = .ok (.iaload, 1) := by decide +kernel
theorem dX5_handOver_29 : decode cX5_handOver 29 = .ok (.iconst (-1), 1) := by decide +kernel
theorem dX5_handOver_30 : decode cX5_handOver 30 = .ok (.if_icmp .ne 16, 3) := by decide +kernel
theorem dX5_handOver_33 : decode cX5_handOver 33 = .ok (.aload_n 0, 1) := by decide +kernel
theorem dX5_handOver_34 : decode cX5_handOver 34 = .ok (.getfield 68, 3) := by decide +kernel
theorem dX5_handOver_37 : decode cX5_handOver 37 = .ok (.iload_n 1, 1) := by decide +kernel
theorem dX5_handOver_38 : decode cX5_handOver 38 = .ok (.dup2, 1) := by decide +kernel
theorem dX5_handOver_39 : decode cX5_handOver 39 = .ok (.iaload, 1) := by decide +kernel
theorem dX5_handOver_40 : decode cX5_handOver 40 = .ok (.iconst 1, 1) := by decide +kernel
theorem dX5_handOver_41 : decode cX5_handOver 41 = .ok (.iadd, 1) := by decide +kernel
theorem dX5_handOver_42 : decode cX5_handOver 42 = .ok (.iastore, 1) := by decide +kernel
theorem dX5_handOver_43 : decode cX5_handOver 43 = .ok (.goto 13, 3) := by decide +kernel
theorem dX5_handOver_46 : decode cX5_handOver 46 = .ok (.aload_n 0, 1) := by decide +kernel
theorem dX5_handOver_47 : decode cX5_handOver 47 = .ok (.getfield 71, 3) := by decide +kernel
theorem dX5_handOver_50 : decode cX5_handOver 50 = .ok (.iload_n 1, 1) := by decide +kernel
theorem dX5_handOver_51 : decode cX5_handOver 51 = .ok (.dup2, 1) := by decide +kernel
theorem dX5_handOver_52 : decode cX5_handOver 52 = .ok (.iaload, 1) := by decide +kernel
theorem dX5_handOver_53 : decode cX5_handOver 53 = .ok (.iconst 1, 1) := by decide +kernel
theorem dX5_handOver_54 : decode cX5_handOver 54 = .ok (.iadd, 1) := by decide +kernel
theorem dX5_handOver_55 : decode cX5_handOver 55 = .ok (.iastore, 1) := by decide +kernel
theorem dX5_handOver_56 : decode cX5_handOver 56 = .ok (.return_, 1) := by decide +kernel
theorem dX5_move_0 : decode cX5_move 0 = .ok (.aload_n 0, 1) := by decide +kernel
theorem dX5_move_1 : decode cX5_move 1 = .ok (.aload_n 0, 1) := by decide +kernel
theorem dX5_move_2 : decode cX5_move 2 = .ok (.iload_n 1, 1) := by decide +kernel
theorem dX5_move_3 : decode cX5_move 3 = .ok (.invokevirtual 122, 3) := by decide +kernel
theorem dX5_move_6 : decode cX5_move 6 = .ok (.ifCond .ne 7, 3) := by decide +kernel
theorem dX5_move_9 : decode cX5_move 9 = .ok (.iconst 1, 1) := by decide +kernel
theorem dX5_move_10 : decode cX5_move 10 = .ok (.goto 18, 3) := by decide +kernel
theorem dX5_move_13 : decode cX5_move 13 = .ok (.iload_n 2, 1) := by decide +kernel
theorem dX5_move_14 : decode cX5_move 14 = .ok (.iconst 0, 1) := by decide +kernel
theorem dX5_move_15 : decode cX5_move 15 = .ok (.bipush 99, 2) := by decide +kernel
theorem dX5_move_17 : decode cX5_move 17 = .ok (.invokestatic 84, 3) := by decide +kernel
theorem dX5_move_20 : decode cX5_move 20 = .ok (.ifCond .ne 7, 3) := by decide +kernel
theorem dX5_move_23 : decode cX5_move 23 = .ok (.iconst 2, 1) := by decide +kernel
theorem dX5_move_24 : decode cX5_move 24 = .ok (.goto 4, 3) := by decide +kernel
theorem dX5_move_27 : decode cX5_move 27 = .ok (.iconst 0, 1) := by decide +kernel
theorem dX5_move_28 : decode cX5_move 28 = .ok (.putfield 77, 3) := by decide +kernel
theorem dX5_move_31 : decode cX5_move 31 = .ok (.aload_n 0, 1) := by decide +kernel
theorem dX5_move_32 : decode cX5_move 32 = .ok (.getfield 77, 3) := by decide +kernel
theorem dX5_move_35 : decode cX5_move 35 = .ok (.ifCond .le 5, 3) := by decide +kernel
theorem dX5_move_38 : decode cX5_move 38 = .ok (.iconst 0, 1) := by decide +kernel
theorem dX5_move_39 : decode cX5_move 39 = .ok (.ireturn, 1) := by decide +kernel
theorem dX5_move_40 : decode cX5_move 40 = .ok (.aload_n 0, 1) := by decide +kernel
theorem dX5_move_41 : decode cX5_move 41 = .ok (.getfield 59, 3) := by decide +kernel
theorem dX5_move_44 : decode cX5_move 44 = .ok (.iload_n 1, 1) := by decide +kernel
theorem dX5_move_45 : decode cX5_move 45 = .ok (.iload_n 2, 1) := by decide +kernel
theorem dX5_move_46 : decode cX5_move 46 = .ok (.iastore, 1) := by decide +kernel
theorem dX5_move_47 : decode cX5_move 47 = .ok (.aload_n 0, 1) := by decide +kernel
theorem dX5_move_48 : decode cX5_move 48 = .ok (.getfield 62, 3) := by decide +kernel
theorem dX5_move_51 : decode cX5_move 51 = .ok (.iload_n 1, 1) := by decide +kernel
theorem dX5_move_52 : decode cX5_move 52 = .ok (.iaload, 1) := by decide +kernel
theorem dX5_move_53 : decode cX5_move 53 = .ok (.iconst (-1), 1) := by decide +kernel
theorem dX5_move_54 : decode cX5_move 54 = .ok (.if_icmp .eq 22, 3) := by decide +kernel
theorem dX5_move_57 : decode cX5_move 57 = .ok (.aload_n 0, 1) := by decide +kernel
theorem dX5_move_58 : decode cX5_move 58 = .ok (.aload_n 0, 1) := by decide +kernel
theorem dX5_move_59 : decode cX5_move 59 = .ok (.getfield 62, 3) := by decide +kernel
theorem dX5_move_62 : decode cX5_move 62 = .ok (.iload_n 1, 1) := by decide +kernel
theorem dX5_move_63 : decode cX5_move 63 = .ok (.iaload, 1) := by decide +kernel
theorem dX5_move_64 : decode cX5_move 64 = .ok (.iload_n 2, 1) := by decide +kernel
theorem dX5_move_65 : decode cX5_move 65 = .ok (.invokevirtual 114, 3) := by decide +kernel
theorem dX5_move_68 : decode cX5_move 68 = .ok (.ifCond .ne 8, 3) := by decide +kernel
theorem dX5_move_71 : decode cX5_move 71 = .ok (.aload_n 0, 1) := by decide +kernel
theorem dX5_move_72 : decode cX5_move 72 = .ok (.iload_n 1, 1) := by decide +kernel
theorem dX5_move_73 : decode cX5_move 73 = .ok (.invokevirtual 128, 3) := by decide +kernel
theorem dX5_move_76 : decode cX5_move 76 = .ok (.aload_n 0, 1) := by decide +kernel
theorem dX5_move_77 : decode cX5_move 77 = .ok (.getfield 62, 3) := by decide +kernel
theorem dX5_move_80 : decode cX5_move 80 = .ok (.iload_n 1, 1) := by decide +kernel
theorem dX5_move_81 : decode cX5_move 81 = .ok (.iaload, 1) := by decide +kernel
theorem dX5_move_82 : decode cX5_move 82 = .ok (.ireturn, 1) := by decide +kernel
theorem dX5_payRent_0 : decode cX5_payRent 0 = .ok (.aload_n 0, 1) := by decide +kernel
theorem dX5_payRent_1 : decode cX5_payRent 1 = .ok (.getfield 47, 3) := by decide +kernel
theorem dX5_payRent_4 : decode cX5_payRent 4 = .ok (.iload_n 1, 1) := by decide +kernel
theorem dX5_payRent_5 : decode cX5_payRent 5 = .ok (.iaload, 1) := by decide +kernel
theorem dX5_payRent_6 : decode cX5_payRent 6 = .ok (.aload_n 0, 1) := by decide +kernel
theorem dX5_payRent_7 : decode cX5_payRent 7 = .ok (.getfield 50, 3) := by decide +kernel
theorem dX5_payRent_10 : decode cX5_payRent 10 = .ok (.iload_n 1, 1) := by decide +kernel
theorem dX5_payRent_11 : decode cX5_payRent 11 = .ok (.iaload, 1) := by decide +kernel
theorem dX5_payRent_12 : decode cX5_payRent 12 = .ok (.aload_n 0, 1) := by decide +kernel
theorem dX5_payRent_13 : decode cX5_payRent 13 = .ok (.iload_n 1, 1) := by decide +kernel
theorem dX5_payRent_14 : decode cX5_payRent 14 = .ok (.invokevirtual 111, 3) := by decide +kernel
theorem dX5_payRent_17 : decode cX5_payRent 17 = .ok (.ifCond .eq 11, 3) := by decide +kernel
theorem dX5_payRent_20 : decode cX5_payRent 20 = .ok (.aload_n 0, 1) := by decide +kernel
theorem dX5_payRent_21 : decode cX5_payRent 21 = .ok (.iload_n 1, 1) := by decide +kernel
theorem dX5_payRent_22 : decode cX5_payRent 22 = .ok (.invokevirtual 118, 3) := by decide +kernel
theorem dX5_payRent_25 : decode cX5_payRent 25 = .ok (.goto 4, 3) := by decide +kernel
theorem dX5_payRent_28 : decode cX5_payRent 28 = .ok (.iconst 0, 1) := by decide +kernel
theorem dX5_payRent_29 : decode cX5_payRent 29 = .ok (.imul, 1) := by decide +kernel
theorem dX5_payRent_30 : decode cX5_payRent 30 = .ok (.iadd, 1) := by decide +kernel
theorem dX5_payRent_31 : decode cX5_payRent 31 = .ok (.istore_n 2, 1) := by decide +kernel
theorem dX5_payRent_32 : decode cX5_payRent 32 = .ok (.iload_n 2, 1) := by decide +kernel
theorem dX5_payRent_33 : decode cX5_payRent 33 = .ok (.aload_n 0, 1) := by decide +kernel
theorem dX5_payRent_34 : decode cX5_payRent 34 = .ok (.getfield 44, 3) := by decide +kernel
theorem dX5_payRent_37 : decode cX5_payRent 37 = .ok (.iload_n 1, 1) := by decide +kernel
theorem dX5_payRent_38 : decode cX5_payRent 38 = .ok (.iaload, 1) := by decide +kernel
theorem dX5_payRent_39 : decode cX5_payRent 39 = .ok (.imul, 1) := by decide +kernel
theorem dX5_payRent_40 : decode cX5_payRent 40 = .ok (.bipush 10, 2) := by decide +kernel
theorem dX5_payRent_42 : decode cX5_payRent 42 = .ok (.idiv, 1) := by decide +kernel
theorem dX5_payRent_43 : decode cX5_payRent 43 = .ok (.istore_n 3, 1) := by decide +kernel
theorem dX5_payRent_44 : decode cX5_payRent 44 = .ok (.aload_n 0, 1) := by decide +kernel
theorem dX5_payRent_45 : decode cX5_payRent 45 = .ok (.getfield 74, 3) := by decide +kernel
theorem dX5_payRent_48 : decode cX5_payRent 48 = .ok (.aload_n 0, 1) := by decide +kernel
theorem dX5_payRent_49 : decode cX5_payRent 49 = .ok (.getfield 38, 3) := by decide +kernel
theorem dX5_payRent_52 : decode cX5_payRent 52 = .ok (.iload_n 1, 1) := by decide +kernel
theorem dX5_payRent_53 : decode cX5_payRent 53 = .ok (.iaload, 1) := by decide +kernel
theorem dX5_payRent_54 : decode cX5_payRent 54 = .ok (.dup2, 1) := by decide +kernel
theorem dX5_payRent_55 : decode cX5_payRent 55 = .ok (.iaload, 1) := by decide +kernel
theorem dX5_payRent_56 : decode cX5_payRent 56 = .ok (.iload_n 3, 1) := by decide +kernel
theorem dX5_payRent_57 : decode cX5_payRent 57 = .ok (.iadd, 1) := by decide +kernel
theorem dX5_payRent_58 : decode cX5_payRent 58 = .ok (.iastore, 1) := by decide +kernel
theorem dX5_payRent_59 : decode cX5_payRent 59 = .ok (.aload_n 0, 1) := by decide +kernel
theorem dX5_payRent_60 : decode cX5_payRent 60 = .ok (.getfield 41, 3) := by decide +kernel
theorem dX5_payRent_63 : decode cX5_payRent 63 = .ok (.iload_n 1, 1) := by decide +kernel
theorem dX5_payRent_64 : decode cX5_payRent 64 = .ok (.iaload, 1) := by decide +kernel
theorem dX5_payRent_65 : decode cX5_payRent 65 = .ok (.iconst (-1), 1) := by decide +kernel
theorem dX5_payRent_66 : decode cX5_payRent 66 = .ok (.if_icmp .eq 20, 3) := by decide +kernel
theorem dX5_payRent_69 : decode cX5_payRent 69 = .ok (.aload_n 0, 1) := by decide +kernel
theorem dX5_payRent_70 : decode cX5_payRent 70 = .ok (.getfield 74, 3) := by decide +kernel
theorem dX5_payRent_73 : decode cX5_payRent 73 = .ok (.aload_n 0, 1) := by decide +kernel
theorem dX5_payRent_74 : decode cX5_payRent 74 = .ok (.getfield 41, 3) := by decide +kernel
theorem dX5_payRent_77 : decode cX5_payRent 77 = .ok (.iload_n 1, 1) := by decide +kernel
theorem dX5_payRent_78 : decode cX5_payRent 78 = .ok (.iaload, 1) := by decide +kernel
theorem dX5_payRent_79 : decode cX5_payRent 79 = .ok (.dup2, 1) := by decide +kernel
theorem dX5_payRent_80 : decode cX5_payRent 80 = .ok (.iaload, 1) := by decide +kernel
theorem dX5_payRent_81 : decode cX5_payRent 81 = .ok (.iload_n 2, 1) := by decide +kernel
theorem dX5_payRent_82 : decode cX5_payRent 82 = .ok (.iload_n 3, 1) := by decide +kernel
theorem dX5_payRent_83 : decode cX5_payRent 83 = .ok (.isub, 1) := by decide +kernel
theorem dX5_payRent_84 : decode cX5_payRent 84 = .ok (.iadd, 1) := by decide +kernel
theorem dX5_payRent_85 : decode cX5_payRent 85 = .ok (.iastore, 1) := by decide +kernel
theorem dX5_payRent_86 : decode cX5_payRent 86 = .ok (.return_, 1) := by decide +kernel
theorem dX5_power_0 : decode cX5_power 0 = .ok (.aload_n 0, 1) := by decide +kernel
theorem dX5_power_1 : decode cX5_power 1 = .ok (.getfield 19, 3) := by decide +kernel
theorem dX5_power_4 : decode cX5_power 4 = .ok (.iload_n 1, 1) := by decide +kernel
theorem dX5_power_5 : decode cX5_power 5 = .ok (.iaload, 1) := by decide +kernel
theorem dX5_power_6 : decode cX5_power 6 = .ok (.aload_n 0, 1) := by decide +kernel
theorem dX5_power_7 : decode cX5_power 7 = .ok (.getfield 108, 3) := by decide +kernel
theorem dX5_power_10 : decode cX5_power 10 = .ok (.imul, 1) := by decide +kernel
theorem dX5_power_11 : decode cX5_power 11 = .ok (.aload_n 0, 1) := by decide +kernel
theorem dX5_power_12 : decode cX5_power 12 = .ok (.getfield 29, 3) := by decide +kernel
theorem dX5_power_15 : decode cX5_power 15 = .ok (.iload_n 1, 1) := by decide +kernel
theorem dX5_power_16 : decode cX5_power 16 = .ok (.iaload, 1) := by decide +kernel
theorem dX5_power_17 : decode cX5_power 17 = .ok (.iadd, 1) := by decide +kernel
theorem dX5_power_18 : decode cX5_power 18 = .ok (.istore_n 2, 1) := by decide +kernel
theorem dX5_power_19 : decode cX5_power 19 = .ok (.iconst 2, 1) := by decide +kernel
theorem dX5_power_20 : decode cX5_power 20 = .ok (.aload_n 0, 1) := by decide +kernel
theorem dX5_power_21 : decode cX5_power 21 = .ok (.iload_n 1, 1) := by decide +kernel
theorem dX5_power_22 : decode cX5_power 22 = .ok (.invokevirtual 118, 3) := by decide +kernel
theorem dX5_power_25 : decode cX5_power 25 = .ok (.iadd, 1) := by decide +kernel
theorem dX5_power_26 : decode cX5_power 26 = .ok (.istore_n 3, 1) := by decide +kernel
theorem dX5_power_27 : decode cX5_power 27 = .ok (.aload_n 0, 1) := by decide +kernel
theorem dX5_power_28 : decode cX5_power 28 = .ok (.getfield 32, 3) := by decide +kernel
theorem dX5_power_31 : decode cX5_power 31 = .ok (.iload_n 1, 1) := by decide +kernel
theorem dX5_power_32 : decode cX5_power 32 = .ok (.iload_n 2, 1) := by decide +kernel
theorem dX5_power_33 : decode cX5_power 33 = .ok (.iload_n 3, 1) := by decide +kernel
theorem dX5_power_34 : decode cX5_power 34 = .ok (.if_icmp .ge 16, 3) := by decide +kernel
theorem dX5_power_37 : decode cX5_power 37 = .ok (.aload_n 0, 1) := by decide +kernel
theorem dX5_power_38 : decode cX5_power 38 = .ok (.getfield 25, 3) := by decide +kernel
theorem dX5_power_41 : decode cX5_power 41 = .ok (.iload_n 1, 1) := by decide +kernel
theorem dX5_power_42 : decode cX5_power 42 = .ok (.baload, 1) := by decide +kernel
theorem dX5_power_43 : decode cX5_power 43 = .ok (.ifCond .ne 7, 3) := by decide +kernel
theorem dX5_power_46 : decode cX5_power 46 = .ok (.iconst 1, 1) := by decide +kernel
theorem dX5_power_47 : decode cX5_power 47 = .ok (.goto 4, 3) := by decide +kernel
theorem dX5_power_50 : decode cX5_power 50 = .ok (.iconst 0, 1) := by decide +kernel
theorem dX5_power_51 : decode cX5_power 51 = .ok (.bastore, 1) := by decide +kernel
theorem dX5_power_52 : decode cX5_power 52 = .ok (.aload_n 0, 1) := by decide +kernel
theorem dX5_power_53 : decode cX5_power 53 = .ok (.getfield 32, 3) := by decide +kernel
theorem dX5_power_56 : decode cX5_power 56 = .ok (.iload_n 1, 1) := by decide +kernel
theorem dX5_power_57 : decode cX5_power 57 = .ok (.baload, 1) := by decide +kernel
theorem dX5_power_58 : decode cX5_power 58 = .ok (.ifCond .eq 7, 3) := by decide +kernel
theorem dX5_power_61 : decode cX5_power 61 = .ok (.iload_n 2, 1) := by decide +kernel
theorem dX5_power_62 : decode cX5_power 62 = .ok (.goto 15, 3) := by decide +kernel
theorem dX5_power_65 : decode cX5_power 65 = .ok (.iload_n 2, 1) := by decide +kernel
theorem dX5_power_66 : decode cX5_power 66 = .ok (.iload_n 3, 1) := by decide +kernel
theorem dX5_power_67 : decode cX5_power 67 = .ok (.if_icmp .ge 7, 3) := by decide +kernel
theorem dX5_power_70 : decode cX5_power 70 = .ok (.iconst 0, 1) := by decide +kernel
theorem dX5_power_71 : decode cX5_power 71 = .ok (.goto 6, 3) := by decide +kernel
theorem dX5_power_74 : decode cX5_power 74 = .ok (.iload_n 2, 1) := by decide +kernel
theorem dX5_power_75 : decode cX5_power 75 = .ok (.iload_n 3, 1) := by decide +kernel
theorem dX5_power_76 : decode cX5_power 76 = .ok (.isub, 1) := by decide +kernel
theorem dX5_power_77 : decode cX5_power 77 = .ok (.istore 4, 2) := by decide +kernel
theorem dX5_power_79 : decode cX5_power 79 = .ok (.aload_n 0, 1) := by decide +kernel
theorem dX5_power_80 : decode cX5_power 80 = .ok (.getfield 53, 3) := by decide +kernel
theorem dX5_power_83 : decode cX5_power 83 = .ok (.iload_n 1, 1) := by decide +kernel
theorem dX5_power_84 : decode cX5_power 84 = .ok (.dup2, 1) := by decide +kernel
theorem dX5_power_85 : decode cX5_power 85 = .ok (.iaload, 1) := by decide +kernel
theorem dX5_power_86 : decode cX5_power 86 = .ok (.iload_n 2, 1) := by decide +kernel
theorem dX5_power_87 : decode cX5_power 87 = .ok (.iload_n 3, 1) := by decide +kernel
theorem dX5_power_88 : decode cX5_power 88 = .ok (.if_icmp .ge 18, 3) := by decide +kernel
theorem dX5_power_91 : decode cX5_power 91 = .ok (.aload_n 0, 1) := by decide +kernel
theorem dX5_power_92 : decode cX5_power 92 = .ok (.getfield 25, 3) := by decide +kernel
theorem dX5_power_95 : decode cX5_power 95 = .ok (.iload_n 1, 1) := by decide +kernel
theorem dX5_power_96 : decode cX5_power 96 = .ok (.baload, 1) := by decide +kernel
theorem dX5_power_97 : decode cX5_power 97 = .ok (.ifCond .eq 9, 3) := by decide +kernel
theorem dX5_power_100 : decode cX5_power 100 = .ok (.iload_n 3, 1) := by decide +kernel
theorem dX5_power_101 : decode cX5_power 101 = .ok (.iload_n 2, 1) := by decide +kernel
theorem dX5_power_102 : decode cX5_power 102 = .ok (.isub, 1) := by decide +kernel
theorem dX5_power_103 : decode cX5_power 103 = .ok (.goto 4, 3) := by decide +kernel
theorem dX5_power_106 : decode cX5_power 106 = .ok (.iconst 0, 1) := by decide +kernel
theorem dX5_power_107 : decode cX5_power 107 = .ok (.iadd, 1) := by decide +kernel
theorem dX5_power_108 : decode cX5_power 108 = .ok (.iastore, 1) := by decide +kernel
theorem dX5_power_109 : decode cX5_power 109 = .ok (.aload_n 0, 1) := by decide +kernel
theorem dX5_power_110 : decode cX5_power 110 = .ok (.getfield 29, 3) := by decide +kernel
theorem dX5_power_113 : decode cX5_power 113 = .ok (.iload_n 1, 1) := by decide +kernel
theorem dX5_power_114 : decode cX5_power 114 = .ok (.iload 4, 2) := by decide +kernel
theorem dX5_power_116 : decode cX5_power 116 = .ok (.aload_n 0, 1) := by decide +kernel
theorem dX5_power_117 : decode cX5_power 117 = .ok (.getfield 22, 3) := by decide +kernel
theorem dX5_power_120 : decode cX5_power 120 = .ok (.iload_n 1, 1) := by decide +kernel
theorem dX5_power_121 : decode cX5_power 121 = .ok (.iaload, 1) := by decide +kernel
theorem dX5_power_122 : decode cX5_power 122 = .ok (.if_icmp .le 12, 3) := by decide +kernel
theorem dX5_power_125 : decode cX5_power 125 = .ok (.aload_n 0, 1) := by decide +kernel
theorem dX5_power_126 : decode cX5_power 126 = .ok (.getfield 22, 3) := by decide +kernel
theorem dX5_power_129 : decode cX5_power 129 = .ok (.iload_n 1, 1) := by decide +kernel
theorem dX5_power_130 : decode cX5_power 130 = .ok (.iaload, 1) := by decide +kernel
theorem dX5_power_131 : decode cX5_power 131 = .ok (.goto 5, 3) := by decide +kernel
theorem dX5_power_134 : decode cX5_power 134 = .ok (.iload 4, 2) := by decide +kernel
theorem dX5_power_136 : decode cX5_power 136 = .ok (.iastore, 1) := by decide +kernel
theorem dX5_power_137 : decode cX5_power 137 = .ok (.return_, 1) := by decide +kernel
theorem dX5_hourGoesBy_0 : decode cX5_hourGoesBy 0 = .ok (.iconst 0, 1) := by decide +kernel
theorem dX5_hourGoesBy_1 : decode cX5_hourGoesBy 1 = .ok (.istore_n 1, 1) := by decide +kernel
theorem dX5_hourGoesBy_2 : decode cX5_hourGoesBy 2 = .ok (.iload_n 1, 1) := by decide +kernel
theorem dX5_hourGoesBy_3 : decode cX5_hourGoesBy 3 = .ok (.aload_n 0, 1) := by decide +kernel
theorem dX5_hourGoesBy_4 : decode cX5_hourGoesBy 4 = .ok (.getfield 81, 3) := by decide +kernel
theorem dX5_hourGoesBy_7 : decode cX5_hourGoesBy 7 = .ok (.if_icmp .ge 35, 3) := by decide +kernel
theorem dX5_hourGoesBy_10 : decode cX5_hourGoesBy 10 = .ok (.aload_n 0, 1) := by decide +kernel
theorem dX5_hourGoesBy_11 : decode cX5_hourGoesBy 11 = .ok (.getfield 56, 3) := by decide +kernel
theorem dX5_hourGoesBy_14 : decode cX5_hourGoesBy 14 = .ok (.iload_n 1, 1) := by decide +kernel
theorem dX5_hourGoesBy_15 : decode cX5_hourGoesBy 15 = .ok (.dup2, 1) := by decide +kernel
theorem dX5_hourGoesBy_16 : decode cX5_hourGoesBy 16 = .ok (.iaload, 1) := by decide +kernel
theorem dX5_hourGoesBy_17 : decode cX5_hourGoesBy 17 = .ok (.aload_n 0, 1) := by decide +kernel
theorem dX5_hourGoesBy_18 : decode cX5_hourGoesBy 18 = .ok (.iload_n 1, 1) := by decide +kernel
theorem dX5_hourGoesBy_19 : decode cX5_hourGoesBy 19 = .ok (.invokevirtual 111, 3) := by decide +kernel
theorem dX5_hourGoesBy_22 : decode cX5_hourGoesBy 22 = .ok (.ifCond .eq 11, 3) := by decide +kernel
theorem dX5_hourGoesBy_25 : decode cX5_hourGoesBy 25 = .ok (.aload_n 0, 1) := by decide +kernel
theorem dX5_hourGoesBy_26 : decode cX5_hourGoesBy 26 = .ok (.iload_n 1, 1) := by decide +kernel
theorem dX5_hourGoesBy_27 : decode cX5_hourGoesBy 27 = .ok (.invokevirtual 118, 3) := by decide +kernel
theorem dX5_hourGoesBy_30 : decode cX5_hourGoesBy 30 = .ok (.goto 4, 3) := by decide +kernel
theorem dX5_hourGoesBy_33 : decode cX5_hourGoesBy 33 = .ok (.iconst 0, 1) := by decide +kernel
theorem dX5_hourGoesBy_34 : decode cX5_hourGoesBy 34 = .ok (.iadd, 1) := by decide +kernel
theorem dX5_hourGoesBy_35 : decode cX5_hourGoesBy 35 = .ok (.iastore, 1) := by decide +kernel
theorem dX5_hourGoesBy_36 : decode cX5_hourGoesBy 36 = .ok (.iinc 1 1, 3) := by decide +kernel
theorem dX5_hourGoesBy_39 : decode cX5_hourGoesBy 39 = .ok (.goto (-37), 3) := by decide +kernel
theorem dX5_hourGoesBy_42 : decode cX5_hourGoesBy 42 = .ok (.iconst 0, 1) := by decide +kernel
theorem dX5_hourGoesBy_43 : decode cX5_hourGoesBy 43 = .ok (.istore_n 1, 1) := by decide +kernel
theorem dX5_hourGoesBy_44 : decode cX5_hourGoesBy 44 = .ok (.iload_n 1, 1) := by decide +kernel
theorem dX5_hourGoesBy_45 : decode cX5_hourGoesBy 45 = .ok (.aload_n 0, 1) := by decide +kernel
theorem dX5_hourGoesBy_46 : decode cX5_hourGoesBy 46 = .ok (.getfield 81, 3) := by decide +kernel
theorem dX5_hourGoesBy_49 : decode cX5_hourGoesBy 49 = .ok (.if_icmp .ge 22, 3) := by decide +kernel
theorem dX5_hourGoesBy_52 : decode cX5_hourGoesBy 52 = .ok (.aload_n 0, 1) := by decide +kernel
theorem dX5_hourGoesBy_53 : decode cX5_hourGoesBy 53 = .ok (.iload_n 1, 1) := by decide +kernel
theorem dX5_hourGoesBy_54 : decode cX5_hourGoesBy 54 = .ok (.invokevirtual 91, 3) := by decide +kernel
theorem dX5_hourGoesBy_57 : decode cX5_hourGoesBy 57 = .ok (.ifCond .eq 8, 3) := by decide +kernel
theorem dX5_hourGoesBy_60 : decode cX5_hourGoesBy 60 = .ok (.aload_n 0, 1) := by decide +kernel
theorem dX5_hourGoesBy_61 : decode cX5_hourGoesBy 61 = .ok (.iload_n 1, 1) := by decide +kernel
theorem dX5_hourGoesBy_62 : decode cX5_hourGoesBy 62 = .ok (.invokevirtual 132, 3) := by decide +kernel
theorem dX5_hourGoesBy_65 : decode cX5_hourGoesBy 65 = .ok (.iinc 1 1, 3) := by decide +kernel
theorem dX5_hourGoesBy_68 : decode cX5_hourGoesBy 68 = .ok (.goto (-24), 3) := by decide +kernel
theorem dX5_hourGoesBy_71 : decode cX5_hourGoesBy 71 = .ok (.iconst 0, 1) := by decide +kernel
theorem dX5_hourGoesBy_72 : decode cX5_hourGoesBy 72 = .ok (.istore_n 1, 1) := by decide +kernel
theorem dX5_hourGoesBy_73 : decode cX5_hourGoesBy 73 = .ok (.iload_n 1, 1) := by decide +kernel
theorem dX5_hourGoesBy_74 : decode cX5_hourGoesBy 74 = .ok (.aload_n 0, 1) := by decide +kernel
theorem dX5_hourGoesBy_75 : decode cX5_hourGoesBy 75 = .ok (.getfield 81, 3) := by decide +kernel
theorem dX5_hourGoesBy_78 : decode cX5_hourGoesBy 78 = .ok (.if_icmp .ge 32, 3) := by decide +kernel
theorem dX5_hourGoesBy_81 : decode cX5_hourGoesBy 81 = .ok (.aload_n 0, 1) := by decide +kernel
theorem dX5_hourGoesBy_82 : decode cX5_hourGoesBy 82 = .ok (.iload_n 1, 1) := by decide +kernel
theorem dX5_hourGoesBy_83 : decode cX5_hourGoesBy 83 = .ok (.invokevirtual 91, 3) := by decide +kernel
theorem dX5_hourGoesBy_86 : decode cX5_hourGoesBy 86 = .ok (.ifCond .eq 11, 3) := by decide +kernel
theorem dX5_hourGoesBy_89 : decode cX5_hourGoesBy 89 = .ok (.aload_n 0, 1) := by decide +kernel
theorem dX5_hourGoesBy_90 : decode cX5_hourGoesBy 90 = .ok (.iload_n 1, 1) := by decide +kernel
theorem dX5_hourGoesBy_91 : decode cX5_hourGoesBy 91 = .ok (.invokevirtual 135, 3) := by decide +kernel
theorem dX5_hourGoesBy_94 : decode cX5_hourGoesBy 94 = .ok (.goto 10, 3) := by decide +kernel
theorem dX5_hourGoesBy_97 : decode cX5_hourGoesBy 97 = .ok (.aload_n 0, 1) := by decide +kernel
theorem dX5_hourGoesBy_98 : decode cX5_hourGoesBy 98 = .ok (.getfield 32, 3) := by decide +kernel
theorem dX5_hourGoesBy_101 : decode cX5_hourGoesBy 101 = .ok (.iload_n 1, 1) := by decide +kernel
theorem dX5_hourGoesBy_102 : decode cX5_hourGoesBy 102 = .ok (.iconst 0, 1) := by decide +kernel
theorem dX5_hourGoesBy_103 : decode cX5_hourGoesBy 103 = .ok (.bastore, 1) := by decide +kernel
theorem dX5_hourGoesBy_104 : decode cX5_hourGoesBy 104 = .ok (.iinc 1 1, 3) := by decide +kernel
theorem dX5_hourGoesBy_107 : decode cX5_hourGoesBy 107 = .ok (.goto (-34), 3) := by decide +kernel
theorem dX5_hourGoesBy_110 : decode cX5_hourGoesBy 110 = .ok (.aload_n 0, 1) := by decide +kernel
theorem dX5_hourGoesBy_111 : decode cX5_hourGoesBy 111 = .ok (.dup, 1) := by decide +kernel
theorem dX5_hourGoesBy_112 : decode cX5_hourGoesBy 112 = .ok (.getfield 105, 3) := by decide +kernel
theorem dX5_hourGoesBy_115 : decode cX5_hourGoesBy 115 = .ok (.iconst 1, 1) := by decide +kernel
theorem dX5_hourGoesBy_116 : decode cX5_hourGoesBy 116 = .ok (.iadd, 1) := by decide +kernel
theorem dX5_hourGoesBy_117 : decode cX5_hourGoesBy 117 = .ok (.putfield 105, 3) := by decide +kernel
theorem dX5_hourGoesBy_120 : decode cX5_hourGoesBy 120 = .ok (.iconst 0, 1) := by decide +kernel
theorem dX5_hourGoesBy_121 : decode cX5_hourGoesBy 121 = .ok (.istore_n 1, 1) := by decide +kernel
theorem dX5_hourGoesBy_122 : decode cX5_hourGoesBy 122 = .ok (.iload_n 1, 1) := by decide +kernel
theorem dX5_hourGoesBy_123 : decode cX5_hourGoesBy 123 = .ok (.aload_n 0, 1) := by decide +kernel
theorem dX5_hourGoesBy_124 : decode cX5_hourGoesBy 124 = .ok (.getfield 81, 3) := by decide +kernel
theorem dX5_hourGoesBy_127 : decode cX5_hourGoesBy 127 = .ok (.if_icmp .ge 38, 3) := by decide +kernel
theorem dX5_hourGoesBy_130 : decode cX5_hourGoesBy 130 = .ok (.aload_n 0, 1) := by decide +kernel
theorem dX5_hourGoesBy_131 : decode cX5_hourGoesBy 131 = .ok (.getfield 35, 3) := by decide +kernel
theorem dX5_hourGoesBy_134 : decode cX5_hourGoesBy 134 = .ok (.iload_n 1, 1) := by decide +kernel
theorem dX5_hourGoesBy_135 : decode cX5_hourGoesBy 135 = .ok (.aload_n 0, 1) := by decide +kernel
theorem dX5_hourGoesBy_136 : decode cX5_hourGoesBy 136 = .ok (.getfield 35, 3) := by decide +kernel
theorem dX5_hourGoesBy_139 : decode cX5_hourGoesBy 139 = .ok (.iload_n 1, 1) := by decide +kernel
theorem dX5_hourGoesBy_140 : decode cX5_hourGoesBy 140 = .ok (.iaload, 1) := by decide +kernel
theorem dX5_hourGoesBy_141 : decode cX5_hourGoesBy 141 = .ok (.aload_n 0, 1) := by decide +kernel
theorem dX5_hourGoesBy_142 : decode cX5_hourGoesBy 142 = .ok (.getfield 105, 3) := by decide +kernel
theorem dX5_hourGoesBy_145 : decode cX5_hourGoesBy 145 = .ok (.if_icmp .ne 7, 3) := by decide +kernel
theorem dX5_hourGoesBy_148 : decode cX5_hourGoesBy 148 = .ok (.iconst (-1), 1) := by decide +kernel
theorem dX5_hourGoesBy_149 : decode cX5_hourGoesBy 149 = .ok (.goto 9, 3) := by decide +kernel
theorem dX5_hourGoesBy_152 : decode cX5_hourGoesBy 152 = .ok (.aload_n 0, 1) := by decide +kernel
theorem dX5_hourGoesBy_153 : decode cX5_hourGoesBy 153 = .ok (.getfield 35, 3) := by decide +kernel
theorem dX5_hourGoesBy_156 : decode cX5_hourGoesBy 156 = .ok (.iload_n 1, 1) := by decide +kernel
theorem dX5_hourGoesBy_157 : decode cX5_hourGoesBy 157 = .ok (.iaload, 1) := by decide +kernel
theorem dX5_hourGoesBy_158 : decode cX5_hourGoesBy 158 = .ok (.iastore, 1) := by decide +kernel
theorem dX5_hourGoesBy_159 : decode cX5_hourGoesBy 159 = .ok (.iinc 1 1, 3) := by decide +kernel
theorem dX5_hourGoesBy_162 : decode cX5_hourGoesBy 162 = .ok (.goto (-40), 3) := by decide +kernel
theorem dX5_hourGoesBy_165 : decode cX5_hourGoesBy 165 = .ok (.iconst 0, 1) := by decide +kernel
theorem dX5_hourGoesBy_166 : decode cX5_hourGoesBy 166 = .ok (.istore_n 1, 1) := by decide +kernel
theorem dX5_hourGoesBy_167 : decode cX5_hourGoesBy 167 = .ok (.iload_n 1, 1) := by decide +kernel
theorem dX5_hourGoesBy_168 : decode cX5_hourGoesBy 168 = .ok (.aload_n 0, 1) := by decide +kernel
theorem dX5_hourGoesBy_169 : decode cX5_hourGoesBy 169 = .ok (.getfield 88, 3) := by decide +kernel
theorem dX5_hourGoesBy_172 : decode cX5_hourGoesBy 172 = .ok (.if_icmp .ge 37, 3) := by decide +kernel
theorem dX5_hourGoesBy_175 : decode cX5_hourGoesBy 175 = .ok (.aload_n 0, 1) := by decide +kernel
theorem dX5_hourGoesBy_176 : decode cX5_hourGoesBy 176 = .ok (.getfield 62, 3) := by decide +kernel
theorem dX5_hourGoesBy_179 : decode cX5_hourGoesBy 179 = .ok (.iload_n 1, 1) := by decide +kernel
theorem dX5_hourGoesBy_180 : decode cX5_hourGoesBy 180 = .ok (.iaload, 1) := by decide +kernel
theorem dX5_hourGoesBy_181 : decode cX5_hourGoesBy 181 = .ok (.iconst (-1), 1) := by decide +kernel
theorem dX5_hourGoesBy_182 : decode cX5_hourGoesBy 182 = .ok (.if_icmp .eq 21, 3) := by decide +kernel
theorem dX5_hourGoesBy_185 : decode cX5_hourGoesBy 185 = .ok (.aload_n 0, 1) := by decide +kernel
theorem dX5_hourGoesBy_186 : decode cX5_hourGoesBy 186 = .ok (.aload_n 0, 1) := by decide +kernel
theorem dX5_hourGoesBy_187 : decode cX5_hourGoesBy 187 = .ok (.getfield 62, 3) := by decide +kernel
theorem dX5_hourGoesBy_190 : decode cX5_hourGoesBy 190 = .ok (.iload_n 1, 1) := by decide +kernel
theorem dX5_hourGoesBy_191 : decode cX5_hourGoesBy 191 = .ok (.iaload, 1) := by decide +kernel
theorem dX5_hourGoesBy_192 : decode cX5_hourGoesBy 192 = .ok (.invokevirtual 111, 3) := by decide +kernel
theorem dX5_hourGoesBy_195 : decode cX5_hourGoesBy 195 = .ok (.ifCond .ne 8, 3) := by decide +kernel
theorem dX5_hourGoesBy_198 : decode cX5_hourGoesBy 198 = .ok (.aload_n 0, 1) := by decide +kernel
theorem dX5_hourGoesBy_199 : decode cX5_hourGoesBy 199 = .ok (.iload_n 1, 1) := by decide +kernel
theorem dX5_hourGoesBy_200 : decode cX5_hourGoesBy 200 = .ok (.invokevirtual 128, 3) := by decide +kernel
theorem dX5_hourGoesBy_203 : decode cX5_hourGoesBy 203 = .ok (.iinc 1 1, 3) := by decide +kernel
theorem dX5_hourGoesBy_206 : decode cX5_hourGoesBy 206 = .ok (.goto (-39), 3) := by decide +kernel
theorem dX5_hourGoesBy_209 : decode cX5_hourGoesBy 209 = .ok (.return_, 1) := by decide +kernel
theorem dX5_pass_0 : decode cX5_pass 0 = .ok (.aload_n 0, 1) := by decide +kernel
theorem dX5_pass_1 : decode cX5_pass 1 = .ok (.iload_n 1, 1) := by decide +kernel
theorem dX5_pass_2 : decode cX5_pass 2 = .ok (.iconst 1, 1) := by decide +kernel
theorem dX5_pass_3 : decode cX5_pass 3 = .ok (.bipush 100, 2) := by decide +kernel
theorem dX5_pass_5 : decode cX5_pass 5 = .ok (.invokestatic 84, 3) := by decide +kernel
theorem dX5_pass_8 : decode cX5_pass 8 = .ok (.ifCond .ne 7, 3) := by decide +kernel
theorem dX5_pass_11 : decode cX5_pass 11 = .ok (.iconst 1, 1) := by decide +kernel
theorem dX5_pass_12 : decode cX5_pass 12 = .ok (.goto 20, 3) := by decide +kernel
theorem dX5_pass_15 : decode cX5_pass 15 = .ok (.aload_n 0, 1) := by decide +kernel
theorem dX5_pass_16 : decode cX5_pass 16 = .ok (.getfield 105, 3) := by decide +kernel
theorem dX5_pass_19 : decode cX5_pass 19 = .ok (.iload_n 1, 1) := by decide +kernel
theorem dX5_pass_20 : decode cX5_pass 20 = .ok (.iadd, 1) := by decide +kernel
theorem dX5_pass_21 : decode cX5_pass 21 = .ok (.sipush 10000, 3) := by decide +kernel
theorem dX5_pass_24 : decode cX5_pass 24 = .ok (.if_icmp .le 7, 3) := by decide +kernel
theorem dX5_pass_27 : decode cX5_pass 27 = .ok (.iconst 2, 1) := by decide +kernel
theorem dX5_pass_28 : decode cX5_pass 28 = .ok (.goto 4, 3) := by decide +kernel
theorem dX5_pass_31 : decode cX5_pass 31 = .ok (.iconst 0, 1) := by decide +kernel
theorem dX5_pass_32 : decode cX5_pass 32 = .ok (.putfield 77, 3) := by decide +kernel
theorem dX5_pass_35 : decode cX5_pass 35 = .ok (.iconst 0, 1) := by decide +kernel
theorem dX5_pass_36 : decode cX5_pass 36 = .ok (.istore_n 2, 1) := by decide +kernel
theorem dX5_pass_37 : decode cX5_pass 37 = .ok (.iload_n 2, 1) := by decide +kernel
theorem dX5_pass_38 : decode cX5_pass 38 = .ok (.iload_n 1, 1) := by decide +kernel
theorem dX5_pass_39 : decode cX5_pass 39 = .ok (.if_icmp .ge 20, 3) := by decide +kernel
theorem dX5_pass_42 : decode cX5_pass 42 = .ok (.aload_n 0, 1) := by decide +kernel
theorem dX5_pass_43 : decode cX5_pass 43 = .ok (.getfield 77, 3) := by decide +kernel
theorem dX5_pass_46 : decode cX5_pass 46 = .ok (.ifCond .ne 13, 3) := by decide +kernel
theorem dX5_pass_49 : decode cX5_pass 49 = .ok (.aload_n 0, 1) := by decide +kernel
theorem dX5_pass_50 : decode cX5_pass 50 = .ok (.invokevirtual 138, 3) := by decide +kernel
theorem dX5_pass_53 : decode cX5_pass 53 = .ok (.iinc 2 1, 3) := by decide +kernel
theorem dX5_pass_56 : decode cX5_pass 56 = .ok (.goto (-19), 3) := by decide +kernel
theorem dX5_pass_59 : decode cX5_pass 59 = .ok (.aload_n 0, 1) := by decide +kernel
theorem dX5_pass_60 : decode cX5_pass 60 = .ok (.getfield 77, 3) := by decide +kernel
theorem dX5_pass_63 : decode cX5_pass 63 = .ok (.ifCond .ne 10, 3) := by decide +kernel
theorem dX5_pass_66 : decode cX5_pass 66 = .ok (.aload_n 0, 1) := by decide +kernel
theorem dX5_pass_67 : decode cX5_pass 67 = .ok (.getfield 105, 3) := by decide +kernel
theorem dX5_pass_70 : decode cX5_pass 70 = .ok (.goto 4, 3) := by decide +kernel
theorem dX5_pass_73 : decode cX5_pass 73 = .ok (.iconst 0, 1) := by decide +kernel
theorem dX5_pass_74 : decode cX5_pass 74 = .ok (.ireturn, 1) := by decide +kernel
theorem dX5_ofMast_0 : decode cX5_ofMast 0 = .ok (.aload_n 0, 1) := by decide +kernel
theorem dX5_ofMast_1 : decode cX5_ofMast 1 = .ok (.aload_n 0, 1) := by decide +kernel
theorem dX5_ofMast_2 : decode cX5_ofMast 2 = .ok (.iload_n 1, 1) := by decide +kernel
theorem dX5_ofMast_3 : decode cX5_ofMast 3 = .ok (.invokevirtual 99, 3) := by decide +kernel
theorem dX5_ofMast_6 : decode cX5_ofMast 6 = .ok (.ifCond .ne 7, 3) := by decide +kernel
theorem dX5_ofMast_9 : decode cX5_ofMast 9 = .ok (.iconst 1, 1) := by decide +kernel
theorem dX5_ofMast_10 : decode cX5_ofMast 10 = .ok (.goto 17, 3) := by decide +kernel
theorem dX5_ofMast_13 : decode cX5_ofMast 13 = .ok (.iload_n 2, 1) := by decide +kernel
theorem dX5_ofMast_14 : decode cX5_ofMast 14 = .ok (.iconst 0, 1) := by decide +kernel
theorem dX5_ofMast_15 : decode cX5_ofMast 15 = .ok (.iconst 5, 1) := by decide +kernel
theorem dX5_ofMast_16 : decode cX5_ofMast 16 = .ok (.invokestatic 84, 3) := by decide +kernel
theorem dX5_ofMast_19 : decode cX5_ofMast 19 = .ok (.ifCond .ne 7, 3) := by decide +kernel
theorem dX5_ofMast_22 : decode cX5_ofMast 22 = .ok (.iconst 2, 1) := by decide +kernel
theorem dX5_ofMast_23 : decode cX5_ofMast 23 = .ok (.goto 4, 3) := by decide +kernel
theorem dX5_ofMast_26 : decode cX5_ofMast 26 = .ok (.iconst 0, 1) := by decide +kernel
theorem dX5_ofMast_27 : decode cX5_ofMast 27 = .ok (.putfield 77, 3) := by decide +kernel
theorem dX5_ofMast_30 : decode cX5_ofMast 30 = .ok (.aload_n 0, 1) := by decide +kernel
theorem dX5_ofMast_31 : decode cX5_ofMast 31 = .ok (.getfield 77, 3) := by decide +kernel
theorem dX5_ofMast_34 : decode cX5_ofMast 34 = .ok (.ifCond .le 5, 3) := by decide +kernel
theorem dX5_ofMast_37 : decode cX5_ofMast 37 = .ok (.iconst 0, 1) := by decide +kernel
theorem dX5_ofMast_38 : decode cX5_ofMast 38 = .ok (.ireturn, 1) := by decide +kernel
theorem dX5_ofMast_39 : decode cX5_ofMast 39 = .ok (.iload_n 2, 1) := by decide +kernel
theorem dX5_ofMast_40 : decode cX5_ofMast 40 = .ok (.tableswitch 77 0 4 #[36, 50, 56, 63, 70], 36) := by decide +kernel
theorem dX5_ofMast_76 : decode cX5_ofMast 76 = .ok (.aload_n 0, 1) := by decide +kernel
theorem dX5_ofMast_77 : decode cX5_ofMast 77 = .ok (.iload_n 1, 1) := by decide +kernel
theorem dX5_ofMast_78 : decode cX5_ofMast 78 = .ok (.invokevirtual 111, 3) := by decide +kernel
theorem dX5_ofMast_81 : decode cX5_ofMast 81 = .ok (.ifCond .eq 7, 3) := by decide +kernel
theorem dX5_ofMast_84 : decode cX5_ofMast 84 = .ok (.iconst 1, 1) := by decide +kernel
theorem dX5_ofMast_85 : decode cX5_ofMast 85 = .ok (.goto 4, 3) := by decide +kernel
theorem dX5_ofMast_88 : decode cX5_ofMast 88 = .ok (.iconst 0, 1) := by decide +kernel
theorem dX5_ofMast_89 : decode cX5_ofMast 89 = .ok (.ireturn, 1) := by decide +kernel
theorem dX5_ofMast_90 : decode cX5_ofMast 90 = .ok (.aload_n 0, 1) := by decide +kernel
theorem dX5_ofMast_91 : decode cX5_ofMast 91 = .ok (.iload_n 1, 1) := by decide +kernel
theorem dX5_ofMast_92 : decode cX5_ofMast 92 = .ok (.invokevirtual 118, 3) := by decide +kernel
theorem dX5_ofMast_95 : decode cX5_ofMast 95 = .ok (.ireturn, 1) := by decide +kernel
theorem dX5_ofMast_96 : decode cX5_ofMast 96 = .ok (.aload_n 0, 1) := by decide +kernel
theorem dX5_ofMast_97 : decode cX5_ofMast 97 = .ok (.getfield 29, 3) := by decide +kernel
theorem dX5_ofMast_100 : decode cX5_ofMast 100 = .ok (.iload_n 1, 1) := by decide +kernel
theorem dX5_ofMast_101 : decode cX5_ofMast 101 = .ok (.iaload, 1) := by decide +kernel
theorem dX5_ofMast_102 : decode cX5_ofMast 102 = .ok (.ireturn, 1) := by decide +kernel
theorem dX5_ofMast_103 : decode cX5_ofMast 103 = .ok (.aload_n 0, 1) := by decide +kernel
theorem dX5_ofMast_104 : decode cX5_ofMast 104 = .ok (.getfield 53, 3) := by decide +kernel
theorem dX5_ofMast_107 : decode cX5_ofMast 107 = .ok (.iload_n 1, 1) := by decide +kernel
theorem dX5_ofMast_108 : decode cX5_ofMast 108 = .ok (.iaload, 1) := by decide +kernel
theorem dX5_ofMast_109 : decode cX5_ofMast 109 = .ok (.ireturn, 1) := by decide +kernel
theorem dX5_ofMast_110 : decode cX5_ofMast 110 = .ok (.aload_n 0, 1) := by decide +kernel
theorem dX5_ofMast_111 : decode cX5_ofMast 111 = .ok (.getfield 56, 3) := by decide +kernel
theorem dX5_ofMast_114 : decode cX5_ofMast 114 = .ok (.iload_n 1, 1) := by decide +kernel
theorem dX5_ofMast_115 : decode cX5_ofMast 115 = .ok (.iaload, 1) := by decide +kernel
theorem dX5_ofMast_116 : decode cX5_ofMast 116 = .ok (.ireturn, 1) := by decide +kernel
theorem dX5_ofMast_117 : decode cX5_ofMast 117 = .ok (.aload_n 0, 1) := by decide +kernel
theorem dX5_ofMast_118 : decode cX5_ofMast 118 = .ok (.getfield 35, 3) := by decide +kernel
theorem dX5_ofMast_121 : decode cX5_ofMast 121 = .ok (.iload_n 1, 1) := by decide +kernel
theorem dX5_ofMast_122 : decode cX5_ofMast 122 = .ok (.iaload, 1) := by decide +kernel
theorem dX5_ofMast_123 : decode cX5_ofMast 123 = .ok (.ireturn, 1) := by decide +kernel
theorem dX5_trafficAnew_0 : decode cX5_trafficAnew 0 = .ok (.aload_n 0, 1) := by decide +kernel
theorem dX5_trafficAnew_1 : decode cX5_trafficAnew 1 = .ok (.aload_n 0, 1) := by decide +kernel
theorem dX5_trafficAnew_2 : decode cX5_trafficAnew 2 = .ok (.iload_n 1, 1) := by decide +kernel
theorem dX5_trafficAnew_3 : decode cX5_trafficAnew 3 = .ok (.invokevirtual 99, 3) := by decide +kernel
theorem dX5_trafficAnew_6 : decode cX5_trafficAnew 6 = .ok (.ifCond .eq 7, 3) := by decide +kernel
theorem dX5_trafficAnew_9 : decode cX5_trafficAnew 9 = .ok (.iconst 0, 1) := by decide +kernel
theorem dX5_trafficAnew_10 : decode cX5_trafficAnew 10 = .ok (.goto 4, 3) := by decide +kernel
theorem dX5_trafficAnew_13 : decode cX5_trafficAnew 13 = .ok (.iconst 1, 1) := by decide +kernel
theorem dX5_trafficAnew_14 : decode cX5_trafficAnew 14 = .ok (.putfield 77, 3) := by decide +kernel
theorem dX5_trafficAnew_17 : decode cX5_trafficAnew 17 = .ok (.aload_n 0, 1) := by decide +kernel
theorem dX5_trafficAnew_18 : decode cX5_trafficAnew 18 = .ok (.getfield 77, 3) := by decide +kernel
theorem dX5_trafficAnew_21 : decode cX5_trafficAnew 21 = .ok (.ifCond .ne 12, 3) := by decide +kernel
theorem dX5_trafficAnew_24 : decode cX5_trafficAnew 24 = .ok (.aload_n 0, 1) := by decide +kernel
theorem dX5_trafficAnew_25 : decode cX5_trafficAnew 25 = .ok (.getfield 56, 3) := by decide +kernel
theorem dX5_trafficAnew_28 : decode cX5_trafficAnew 28 = .ok (.iload_n 1, 1) := by decide +kernel
theorem dX5_trafficAnew_29 : decode cX5_trafficAnew 29 = .ok (.iaload, 1) := by decide +kernel
theorem dX5_trafficAnew_30 : decode cX5_trafficAnew 30 = .ok (.goto 4, 3) := by decide +kernel
theorem dX5_trafficAnew_33 : decode cX5_trafficAnew 33 = .ok (.iconst 0, 1) := by decide +kernel
theorem dX5_trafficAnew_34 : decode cX5_trafficAnew 34 = .ok (.ireturn, 1) := by decide +kernel
theorem dX5_ofPhone_0 : decode cX5_ofPhone 0 = .ok (.aload_n 0, 1) := by decide +kernel
theorem dX5_ofPhone_1 : decode cX5_ofPhone 1 = .ok (.aload_n 0, 1) := by decide +kernel
theorem dX5_ofPhone_2 : decode cX5_ofPhone 2 = .ok (.iload_n 1, 1) := by decide +kernel
theorem dX5_ofPhone_3 : decode cX5_ofPhone 3 = .ok (.invokevirtual 122, 3) := by decide +kernel
theorem dX5_ofPhone_6 : decode cX5_ofPhone 6 = .ok (.ifCond .ne 7, 3) := by decide +kernel
theorem dX5_ofPhone_9 : decode cX5_ofPhone 9 = .ok (.iconst 1, 1) := by decide +kernel
theorem dX5_ofPhone_10 : decode cX5_ofPhone 10 = .ok (.goto 17, 3) := by decide +kernel
theorem dX5_ofPhone_13 : decode cX5_ofPhone 13 = .ok (.iload_n 2, 1) := by decide +kernel
theorem dX5_ofPhone_14 : decode cX5_ofPhone 14 = .ok (.iconst 0, 1) := by decide +kernel
theorem dX5_ofPhone_15 : decode cX5_ofPhone 15 = .ok (.iconst 4, 1) := by decide +kernel
theorem dX5_ofPhone_16 : decode cX5_ofPhone 16 = .ok (.invokestatic 84, 3) := by decide +kernel
theorem dX5_ofPhone_19 : decode cX5_ofPhone 19 = .ok (.ifCond .ne 7, 3) := by decide +kernel
theorem dX5_ofPhone_22 : decode cX5_ofPhone 22 = .ok (.iconst 2, 1) := by decide +kernel
theorem dX5_ofPhone_23 : decode cX5_ofPhone 23 = .ok (.goto 4, 3) := by decide +kernel
theorem dX5_ofPhone_26 : decode cX5_ofPhone 26 = .ok (.iconst 0, 1) := by decide +kernel
theorem dX5_ofPhone_27 : decode cX5_ofPhone 27 = .ok (.putfield 77, 3) := by decide +kernel
theorem dX5_ofPhone_30 : decode cX5_ofPhone 30 = .ok (.aload_n 0, 1) := by decide +kernel
theorem dX5_ofPhone_31 : decode cX5_ofPhone 31 = .ok (.getfield 77, 3) := by decide +kernel
theorem dX5_ofPhone_34 : decode cX5_ofPhone 34 = .ok (.ifCond .le 5, 3) := by decide +kernel
theorem dX5_ofPhone_37 : decode cX5_ofPhone 37 = .ok (.iconst 0, 1) := by decide +kernel
theorem dX5_ofPhone_38 : decode cX5_ofPhone 38 = .ok (.ireturn, 1) := by decide +kernel
theorem dX5_ofPhone_39 : decode cX5_ofPhone 39 = .ok (.iload_n 2, 1) := by decide +kernel
theorem dX5_ofPhone_40 : decode cX5_ofPhone 40 = .ok (.ifCond .ne 12, 3) := by decide +kernel
theorem dX5_ofPhone_43 : decode cX5_ofPhone 43 = .ok (.aload_n 0, 1) := by decide +kernel
theorem dX5_ofPhone_44 : decode cX5_ofPhone 44 = .ok (.getfield 59, 3) := by decide +kernel
theorem dX5_ofPhone_47 : decode cX5_ofPhone 47 = .ok (.iload_n 1, 1) := by decide +kernel
theorem dX5_ofPhone_48 : decode cX5_ofPhone 48 = .ok (.iaload, 1) := by decide +kernel
theorem dX5_ofPhone_49 : decode cX5_ofPhone 49 = .ok (.goto 51, 3) := by decide +kernel
theorem dX5_ofPhone_52 : decode cX5_ofPhone 52 = .ok (.iload_n 2, 1) := by decide +kernel
theorem dX5_ofPhone_53 : decode cX5_ofPhone 53 = .ok (.iconst 1, 1) := by decide +kernel
theorem dX5_ofPhone_54 : decode cX5_ofPhone 54 = .ok (.if_icmp .ne 12, 3) := by decide +kernel
theorem dX5_ofPhone_57 : decode cX5_ofPhone 57 = .ok (.aload_n 0, 1) := by decide +kernel
theorem dX5_ofPhone_58 : decode cX5_ofPhone 58 = .ok (.getfield 62, 3) := by decide +kernel
theorem dX5_ofPhone_61 : decode cX5_ofPhone 61 = .ok (.iload_n 1, 1) := by decide +kernel
theorem dX5_ofPhone_62 : decode cX5_ofPhone 62 = .ok (.iaload, 1) := by decide +kernel
theorem dX5_ofPhone_63 : decode cX5_ofPhone 63 = .ok (.goto 37, 3) := by decide +kernel
theorem dX5_ofPhone_66 : decode cX5_ofPhone 66 = .ok (.iload_n 2, 1) := by decide +kernel
theorem dX5_ofPhone_67 : decode cX5_ofPhone 67 = .ok (.iconst 2, 1) := by decide +kernel
theorem dX5_ofPhone_68 : decode cX5_ofPhone 68 = .ok (.if_icmp .ne 12, 3) := by decide +kernel
theorem dX5_ofPhone_71 : decode cX5_ofPhone 71 = .ok (.aload_n 0, 1) := by decide +kernel
theorem dX5_ofPhone_72 : decode cX5_ofPhone 72 = .ok (.getfield 65, 3) := by decide +kernel
theorem dX5_ofPhone_75 : decode cX5_ofPhone 75 = .ok (.iload_n 1, 1) := by decide +kernel
theorem dX5_ofPhone_76 : decode cX5_ofPhone 76 = .ok (.iaload, 1) := by decide +kernel
theorem dX5_ofPhone_77 : decode cX5_ofPhone 77 = .ok (.goto 23, 3) := by decide +kernel
theorem dX5_ofPhone_80 : decode cX5_ofPhone 80 = .ok (.iload_n 2, 1) := by decide +kernel
theorem dX5_ofPhone_81 : decode cX5_ofPhone 81 = .ok (.iconst 3, 1) := by decide +kernel
theorem dX5_ofPhone_82 : decode cX5_ofPhone 82 = .ok (.if_icmp .ne 12, 3) := by decide +kernel
theorem dX5_ofPhone_85 : decode cX5_ofPhone 85 = .ok (.aload_n 0, 1) := by decide +kernel
theorem dX5_ofPhone_86 : decode cX5_ofPhone 86 = .ok (.getfield 68, 3) := by decide +kernel
theorem dX5_ofPhone_89 : decode cX5_ofPhone 89 = .ok (.iload_n 1, 1) := by decide +kernel
theorem dX5_ofPhone_90 : decode cX5_ofPhone 90 = .ok (.iaload, 1) := by decide +kernel
theorem dX5_ofPhone_91 : decode cX5_ofPhone 91 = .ok (.goto 9, 3) := by decide +kernel
theorem dX5_ofPhone_94 : decode cX5_ofPhone 94 = .ok (.aload_n 0, 1) := by decide +kernel
theorem dX5_ofPhone_95 : decode cX5_ofPhone 95 = .ok (.getfield 71, 3) := by decide +kernel
theorem dX5_ofPhone_98 : decode cX5_ofPhone 98 = .ok (.iload_n 1, 1) := by decide +kernel
theorem dX5_ofPhone_99 : decode cX5_ofPhone 99 = .ok (.iaload, 1) := by decide +kernel
theorem dX5_ofPhone_100 : decode cX5_ofPhone 100 = .ok (.ireturn, 1) := by decide +kernel
theorem dX5_strength_0 : decode cX5_strength 0 = .ok (.aload_n 0, 1) := by decide +kernel
theorem dX5_strength_1 : decode cX5_strength 1 = .ok (.aload_n 0, 1) := by decide +kernel
theorem dX5_strength_2 : decode cX5_strength 2 = .ok (.iload_n 1, 1) := by decide +kernel
theorem dX5_strength_3 : decode cX5_strength 3 = .ok (.invokevirtual 122, 3) := by decide +kernel
theorem dX5_strength_6 : decode cX5_strength 6 = .ok (.ifCond .eq 7, 3) := by decide +kernel
theorem dX5_strength_9 : decode cX5_strength 9 = .ok (.iconst 0, 1) := by decide +kernel
theorem dX5_strength_10 : decode cX5_strength 10 = .ok (.goto 4, 3) := by decide +kernel
theorem dX5_strength_13 : decode cX5_strength 13 = .ok (.iconst 1, 1) := by decide +kernel
theorem dX5_strength_14 : decode cX5_strength 14 = .ok (.putfield 77, 3) := by decide +kernel
theorem dX5_strength_17 : decode cX5_strength 17 = .ok (.aload_n 0, 1) := by decide +kernel
theorem dX5_strength_18 : decode cX5_strength 18 = .ok (.getfield 77, 3) := by decide +kernel
theorem dX5_strength_21 : decode cX5_strength 21 = .ok (.ifCond .gt 13, 3) := by decide +kernel
theorem dX5_strength_24 : decode cX5_strength 24 = .ok (.aload_n 0, 1) := by decide +kernel
theorem dX5_strength_25 : decode cX5_strength 25 = .ok (.getfield 62, 3) := by decide +kernel
theorem dX5_strength_28 : decode cX5_strength 28 = .ok (.iload_n 1, 1) := by decide +kernel
theorem dX5_strength_29 : decode cX5_strength 29 = .ok (.iaload, 1) := by decide +kernel
theorem dX5_strength_30 : decode cX5_strength 30 = .ok (.iconst (-1), 1) := by decide +kernel
theorem dX5_strength_31 : decode cX5_strength 31 = .ok (.if_icmp .ne 5, 3) := by decide +kernel
theorem dX5_strength_34 : decode cX5_strength 34 = .ok (.fconst 0, 1) := by decide +kernel
theorem dX5_strength_35 : decode cX5_strength 35 = .ok (.freturn, 1) := by decide +kernel
theorem dX5_strength_36 : decode cX5_strength 36 = .ok (.aload_n 0, 1) := by decide +kernel
theorem dX5_strength_37 : decode cX5_strength 37 = .ok (.getfield 62, 3) := by decide +kernel
theorem dX5_strength_40 : decode cX5_strength 40 = .ok (.iload_n 1, 1) := by decide +kernel
theorem dX5_strength_41 : decode cX5_strength 41 = .ok (.iaload, 1) := by decide +kernel
theorem dX5_strength_42 : decode cX5_strength 42 = .ok (.istore_n 2, 1) := by decide +kernel
theorem dX5_strength_43 : decode cX5_strength 43 = .ok (.fconst 1, 1) := by decide +kernel
theorem dX5_strength_44 : decode cX5_strength 44 = .ok (.aload_n 0, 1) := by decide +kernel
theorem dX5_strength_45 : decode cX5_strength 45 = .ok (.iload_n 2, 1) := by decide +kernel
theorem dX5_strength_46 : decode cX5_strength 46 = .ok (.aload_n 0, 1) := by decide +kernel
theorem dX5_strength_47 : decode cX5_strength 47 = .ok (.getfield 59, 3) := by decide +kernel
theorem dX5_strength_50 : decode cX5_strength 50 = .ok (.iload_n 1, 1) := by decide +kernel
theorem dX5_strength_51 : decode cX5_strength 51 = .ok (.iaload, 1) := by decide +kernel
theorem dX5_strength_52 : decode cX5_strength 52 = .ok (.invokevirtual 95, 3) := by decide +kernel
theorem dX5_strength_55 : decode cX5_strength 55 = .ok (.i2f, 1) := by decide +kernel
theorem dX5_strength_56 : decode cX5_strength 56 = .ok (.aload_n 0, 1) := by decide +kernel
theorem dX5_strength_57 : decode cX5_strength 57 = .ok (.getfield 13, 3) := by decide +kernel
theorem dX5_strength_60 : decode cX5_strength 60 = .ok (.iload_n 2, 1) := by decide +kernel
theorem dX5_strength_61 : decode cX5_strength 61 = .ok (.iaload, 1) := by decide +kernel
theorem dX5_strength_62 : decode cX5_strength 62 = .ok (.i2f, 1) := by decide +kernel
theorem dX5_strength_63 : decode cX5_strength 63 = .ok (.fdiv, 1) := by decide +kernel
theorem dX5_strength_64 : decode cX5_strength 64 = .ok (.fsub, 1) := by decide +kernel
theorem dX5_strength_65 : decode cX5_strength 65 = .ok (.freturn, 1) := by decide +kernel
theorem dX5_paid_0 : decode cX5_paid 0 = .ok (.aload_n 0, 1) := by decide +kernel
theorem dX5_paid_1 : decode cX5_paid 1 = .ok (.iload_n 1, 1) := by decide +kernel
theorem dX5_paid_2 : decode cX5_paid 2 = .ok (.invokestatic 102, 3) := by decide +kernel
theorem dX5_paid_5 : decode cX5_paid 5 = .ok (.ifCond .eq 7, 3) := by decide +kernel
theorem dX5_paid_8 : decode cX5_paid 8 = .ok (.iconst 0, 1) := by decide +kernel
theorem dX5_paid_9 : decode cX5_paid 9 = .ok (.goto 4, 3) := by decide +kernel
theorem dX5_paid_12 : decode cX5_paid 12 = .ok (.iconst 1, 1) := by decide +kernel
theorem dX5_paid_13 : decode cX5_paid 13 = .ok (.putfield 77, 3) := by decide +kernel
theorem dX5_paid_16 : decode cX5_paid 16 = .ok (.aload_n 0, 1) := by decide +kernel
theorem dX5_paid_17 : decode cX5_paid 17 = .ok (.getfield 77, 3) := by decide +kernel
theorem dX5_paid_20 : decode cX5_paid 20 = .ok (.ifCond .ne 12, 3) := by decide +kernel
theorem dX5_paid_23 : decode cX5_paid 23 = .ok (.aload_n 0, 1) := by decide +kernel
theorem dX5_paid_24 : decode cX5_paid 24 = .ok (.getfield 74, 3) := by decide +kernel
theorem dX5_paid_27 : decode cX5_paid 27 = .ok (.iload_n 1, 1) := by decide +kernel
theorem dX5_paid_28 : decode cX5_paid 28 = .ok (.iaload, 1) := by decide +kernel
theorem dX5_paid_29 : decode cX5_paid 29 = .ok (.goto 4, 3) := by decide +kernel
theorem dX5_paid_32 : decode cX5_paid 32 = .ok (.iconst 0, 1) := by decide +kernel
theorem dX5_paid_33 : decode cX5_paid 33 = .ok (.ireturn, 1) := by decide +kernel
theorem dX5_holes_0 : decode cX5_holes 0 = .ok (.aload_n 0, 1) := by decide +kernel
theorem dX5_holes_1 : decode cX5_holes 1 = .ok (.iconst 0, 1) := by decide +kernel
theorem dX5_holes_2 : decode cX5_holes 2 = .ok (.putfield 77, 3) := by decide +kernel
theorem dX5_holes_5 : decode cX5_holes 5 = .ok (.iconst 0, 1) := by decide +kernel
theorem dX5_holes_6 : decode cX5_holes 6 = .ok (.istore_n 1, 1) := by decide +kernel
theorem dX5_holes_7 : decode cX5_holes 7 = .ok (.iconst 0, 1) := by decide +kernel
theorem dX5_holes_8 : decode cX5_holes 8 = .ok (.istore_n 2, 1) := by decide +kernel
theorem dX5_holes_9 : decode cX5_holes 9 = .ok (.iload_n 2, 1) := by decide +kernel
theorem dX5_holes_10 : decode cX5_holes 10 = .ok (.bipush 100, 2) := by decide +kernel
theorem dX5_holes_12 : decode cX5_holes 12 = .ok (.if_icmp .ge 70, 3) := by decide +kernel
theorem dX5_holes_15 : decode cX5_holes 15 = .ok (.iconst 0, 1) := by decide +kernel
theorem dX5_holes_16 : decode cX5_holes 16 = .ok (.istore_n 3, 1) := by decide +kernel
theorem dX5_holes_17 : decode cX5_holes 17 = .ok (.iconst 0, 1) := by decide +kernel
theorem dX5_holes_18 : decode cX5_holes 18 = .ok (.istore 4, 2) := by decide +kernel
theorem dX5_holes_20 : decode cX5_holes 20 = .ok (.iload 4, 2) := by decide +kernel
theorem dX5_holes_22 : decode cX5_holes 22 = .ok (.aload_n 0, 1) := by decide +kernel
theorem dX5_holes_23 : decode cX5_holes 23 = .ok (.getfield 81, 3) := by decide +kernel
theorem dX5_holes_26 : decode cX5_holes 26 = .ok (.if_icmp .ge 38, 3) := by decide +kernel
theorem dX5_holes_29 : decode cX5_holes 29 = .ok (.iload_n 3, 1) := by decide +kernel
theorem dX5_holes_30 : decode cX5_holes 30 = .ok (.ifCond .ne 22, 3) := by decide +kernel
theorem dX5_holes_33 : decode cX5_holes 33 = .ok (.aload_n 0, 1) := by decide +kernel
theorem dX5_holes_34 : decode cX5_holes 34 = .ok (.iload 4, 2) := by decide +kernel
theorem dX5_holes_36 : decode cX5_holes 36 = .ok (.invokevirtual 111, 3) := by decide +kernel
theorem dX5_holes_39 : decode cX5_holes 39 = .ok (.ifCond .eq 17, 3) := by decide +kernel
theorem dX5_holes_42 : decode cX5_holes 42 = .ok (.aload_n 0, 1) := by decide +kernel
theorem dX5_holes_43 : decode cX5_holes 43 = .ok (.iload 4, 2) := by decide +kernel
theorem dX5_holes_45 : decode cX5_holes 45 = .ok (.iload_n 2, 1) := by decide +kernel
theorem dX5_holes_46 : decode cX5_holes 46 = .ok (.invokevirtual 114, 3) := by decide +kernel
theorem dX5_holes_49 : decode cX5_holes 49 = .ok (.ifCond .eq 7, 3) := by decide +kernel
theorem dX5_holes_52 : decode cX5_holes 52 = .ok (.iconst 1, 1) := by decide +kernel
theorem dX5_holes_53 : decode cX5_holes 53 = .ok (.goto 4, 3) := by decide +kernel
theorem dX5_holes_56 : decode cX5_holes 56 = .ok (.iconst 0, 1) := by decide +kernel
theorem dX5_holes_57 : decode cX5_holes 57 = .ok (.istore_n 3, 1) := by decide +kernel
theorem dX5_holes_58 : decode cX5_holes 58 = .ok (.iinc 4 1, 3) := by decide +kernel
theorem dX5_holes_61 : decode cX5_holes 61 = .ok (.goto (-41), 3) := by decide +kernel
theorem dX5_holes_64 : decode cX5_holes 64 = .ok (.iload_n 1, 1) := by decide +kernel
theorem dX5_holes_65 : decode cX5_holes 65 = .ok (.iload_n 3, 1) := by decide +kernel
theorem dX5_holes_66 : decode cX5_holes 66 = .ok (.ifCond .eq 7, 3) := by decide +kernel
theorem dX5_holes_69 : decode cX5_holes 69 = .ok (.iconst 0, 1) := by decide +kernel
theorem dX5_holes_70 : decode cX5_holes 70 = .ok (.goto 4, 3) := by decide +kernel
theorem dX5_holes_73 : decode cX5_holes 73 = .ok (.iconst 1, 1) := by decide +kernel
theorem dX5_holes_74 : decode cX5_holes 74 = .ok (.iadd, 1) := by decide +kernel
theorem dX5_holes_75 : decode cX5_holes 75 = .ok (.istore_n 1, 1) := by decide +kernel
theorem dX5_holes_76 : decode cX5_holes 76 = .ok (.iinc 2 1, 3) := by decide +kernel
theorem dX5_holes_79 : decode cX5_holes 79 = .ok (.goto (-70), 3) := by decide +kernel
theorem dX5_holes_82 : decode cX5_holes 82 = .ok (.iload_n 1, 1) := by decide +kernel
theorem dX5_holes_83 : decode cX5_holes 83 = .ok (.ireturn, 1) := by decide +kernel
