theorem dX12_init_0 : decode cX12_init 0 = .ok (.aload_n 0, 1) := by decide +kernel
theorem dX12_init_1 : decode cX12_init 1 = .ok (.invokespecial 1, 3) := by decide +kernel
theorem dX12_init_4 : decode cX12_init 4 = .ok (.aload_n 0, 1) := by decide +kernel
theorem dX12_init_5 : decode cX12_init 5 = .ok (.bipush 7, 2) := by decide +kernel
theorem dX12_init_7 : decode cX12_init 7 = .ok (.newarray .int, 2) := by decide +kernel
theorem dX12_init_9 : decode cX12_init 9 = .ok (.putfield 7, 3) := by decide +kernel
theorem dX12_init_12 : decode cX12_init 12 = .ok (.aload_n 0, 1) := by decide +kernel
theorem dX12_init_13 : decode cX12_init 13 = .ok (.bipush 8, 2) := by decide +kernel
theorem dX12_init_15 : decode cX12_init 15 = .ok (.newarray .int, 2) := by decide +kernel
theorem dX12_init_17 : decode cX12_init 17 = .ok (.putfield 13, 3) := by decide +kernel
theorem dX12_init_20 : decode cX12_init 20 = .ok (.aload_n 0, 1) := by decide +kernel
theorem dX12_init_21 : decode cX12_init 21 = .ok (.bipush 8, 2) := by decide +kernel
theorem dX12_init_23 : decode cX12_init 23 = .ok (.newarray .int, 2) := by decide +kernel
theorem dX12_init_25 : decode cX12_init 25 = .ok (.putfield 16, 3) := by decide +kernel
theorem dX12_init_28 : decode cX12_init 28 = .ok (.aload_n 0, 1) := by decide +kernel
theorem dX12_init_29 : decode cX12_init 29 = .ok (.bipush 8, 2) := by decide +kernel
theorem dX12_init_31 : decode cX12_init 31 = .ok (.newarray .int, 2) := by decide +kernel
theorem dX12_init_33 : decode cX12_init 33 = .ok (.putfield 19, 3) := by decide +kernel
theorem dX12_init_36 : decode cX12_init 36 = .ok (.aload_n 0, 1) := by decide +kernel
theorem dX12_init_37 : decode cX12_init 37 = .ok (.bipush 8, 2) := by decide +kernel
theorem dX12_init_39 : decode cX12_init 39 = .ok (.newarray .int, 2) := by decide +kernel
theorem dX12_init_41 : decode cX12_init 41 = .ok (.putfield 22, 3) := by decide +kernel
theorem dX12_init_44 : decode cX12_init 44 = .ok (.aload_n 0, 1) := by decide +kernel
theorem dX12_init_45 : decode cX12_init 45 = .ok (.bipush 49, 2) := by decide +kernel
theorem dX12_init_47 : decode cX12_init 47 = .ok (.newarray .int, 2) := by decide +kernel
theorem dX12_init_49 : decode cX12_init 49 = .ok (.putfield 25, 3) := by decide +kernel
theorem dX12_init_52 : decode cX12_init 52 = .ok (.aload_n 0, 1) := by decide +kernel
theorem dX12_init_53 : decode cX12_init 53 = .ok (.bipush 49, 2) := by decide +kernel
theorem dX12_init_55 : decode cX12_init 55 = .ok (.newarray .int, 2) := by decide +kernel
theorem dX12_init_57 : decode cX12_init 57 = .ok (.putfield 28, 3) := by decide +kernel
theorem dX12_init_60 : decode cX12_init 60 = .ok (.aload_n 0, 1) := by decide +kernel
theorem dX12_init_61 : decode cX12_init 61 = .ok (.bipush 49, 2) := by decide +kernel
theorem dX12_init_63 : decode cX12_init 63 = .ok (.newarray .int, 2) := by decide +kernel
theorem dX12_init_65 : decode cX12_init 65 = .ok (.putfield 31, 3) := by decide +kernel
theorem dX12_init_68 : decode cX12_init 68 = .ok (.aload_n 0, 1) := by decide +kernel
theorem dX12_init_69 : decode cX12_init 69 = .ok (.bipush 6, 2) := by decide +kernel
theorem dX12_init_71 : decode cX12_init 71 = .ok (.newarray .int, 2) := by decide +kernel
theorem dX12_init_73 : decode cX12_init 73 = .ok (.putfield 34, 3) := by decide +kernel
theorem dX12_init_76 : decode cX12_init 76 = .ok (.aload_n 0, 1) := by decide +kernel
theorem dX12_init_77 : decode cX12_init 77 = .ok (.bipush 6, 2) := by decide +kernel
theorem dX12_init_79 : decode cX12_init 79 = .ok (.newarray .int, 2) := by decide +kernel
theorem dX12_init_81 : decode cX12_init 81 = .ok (.putfield 37, 3) := by decide +kernel
theorem dX12_init_84 : decode cX12_init 84 = .ok (.aload_n 0, 1) := by decide +kernel
theorem dX12_init_85 : decode cX12_init 85 = .ok (.bipush 6, 2) := by decide +kernel
theorem dX12_init_87 : decode cX12_init 87 = .ok (.newarray .int, 2) := by decide +kernel
theorem dX12_init_89 : decode cX12_init 89 = .ok (.putfield 40, 3) := by decide +kernel
theorem dX12_init_92 : decode cX12_init 92 = .ok (.aload_n 0, 1) := by decide +kernel
theorem dX12_init_93 : decode cX12_init 93 = .ok (.bipush 6, 2) := by decide +kernel
theorem dX12_init_95 : decode cX12_init 95 = .ok (.newarray .int, 2) := by decide +kernel
theorem dX12_init_97 : decode cX12_init 97 = .ok (.putfield 43, 3) := by decide +kernel
theorem dX12_init_100 : decode cX12_init 100 = .ok (.aload_n 0, 1) := by decide +kernel
theorem dX12_init_101 : decode cX12_init 101 = .ok (.bipush 80, 2) := by decide +kernel
theorem dX12_init_103 : decode cX12_init 103 = .ok (.newarray .int, 2) := by decide +kernel
theorem dX12_init_105 : decode cX12_init 105 = .ok (.putfield 46, 3) := by decide +kernel
theorem dX12_init_108 : decode cX12_init 108 = .ok (.aload_n 0, 1) := by decide +kernel
theorem dX12_init_109 : decode cX12_init 109 = .ok (.bipush 40, 2) := by decide +kernel
theorem dX12_init_111 : decode cX12_init 111 = .ok (.newarray .int, 2) := by decide +kernel
theorem dX12_init_113 : decode cX12_init 113 = .ok (.putfield 49, 3) := by decide +kernel
theorem dX12_init_116 : decode cX12_init 116 = .ok (.aload_n 0, 1) := by decide +kernel
theorem dX12_init_117 : decode cX12_init 117 = .ok (.bipush 40, 2) := by decide +kernel
theorem dX12_init_119 : decode cX12_init 119 = .ok (.newarray .int, 2) := by decide +kernel
theorem dX12_init_121 : decode cX12_init 121 = .ok (.putfield 52, 3) := by decide +kernel
theorem dX12_init_124 : decode cX12_init 124 = .ok (.aload_n 0, 1) := by decide +kernel
theorem dX12_init_125 : decode cX12_init 125 = .ok (.sipush 640, 3) := by decide +kernel
theorem dX12_init_128 : decode cX12_init 128 = .ok (.newarray .int, 2) := by decide +kernel
theorem dX12_init_130 : decode cX12_init 130 = .ok (.putfield 55, 3) := by decide +kernel
theorem dX12_init_133 : decode cX12_init 133 = .ok (.aload_n 0, 1) := by decide +kernel
theorem dX12_init_134 : decode cX12_init 134 = .ok (.sipush 440, 3) := by decide +kernel
theorem dX12_init_137 : decode cX12_init 137 = .ok (.newarray .int, 2) := by decide +kernel
theorem dX12_init_139 : decode cX12_init 139 = .ok (.putfield 58, 3) := by decide +kernel
theorem dX12_init_142 : decode cX12_init 142 = .ok (.aload_n 0, 1) := by decide +kernel
theorem dX12_init_143 : decode cX12_init 143 = .ok (.bipush 49, 2) := by decide +kernel
theorem dX12_init_145 : decode cX12_init 145 = .ok (.newarray .int, 2) := by decide +kernel
theorem dX12_init_147 : decode cX12_init 147 = .ok (.putfield 61, 3) := by decide +kernel
theorem dX12_init_150 : decode cX12_init 150 = .ok (.aload_n 0, 1) := by decide +kernel
theorem dX12_init_151 : decode cX12_init 151 = .ok (.bipush 49, 2) := by decide +kernel
theorem dX12_init_153 : decode cX12_init 153 = .ok (.newarray .int, 2) := by decide +kernel
theorem dX12_init_155 : decode cX12_init 155 = .ok (.putfield 64, 3) := by decide +kernel
theorem dX12_init_158 : decode cX12_init 158 = .ok (.aload_n 0, 1) := by decide +kernel
theorem dX12_init_159 : decode cX12_init 159 = .ok (.bipush 6, 2) := by decide +kernel
theorem dX12_init_161 : decode cX12_init 161 = .ok (.newarray .int, 2) := by decide +kernel
theorem dX12_init_163 : decode cX12_init 163 = .ok (.putfield 67, 3) := by decide +kernel
theorem dX12_init_166 : decode cX12_init 166 = .ok (.aload_n 0, 1) := by decide +kernel
theorem dX12_init_167 : decode cX12_init 167 = .ok (.bipush 49, 2) := by decide +kernel
theorem dX12_init_169 : decode cX12_init 169 = .ok (.newarray .int, 2) := by decide +kernel
theorem dX12_init_171 : decode cX12_init 171 = .ok (.putfield 70, 3) := by decide +kernel
theorem dX12_init_174 : decode cX12_init 174 = .ok (.aload_n 0, 1) := by decide +kernel
theorem dX12_init_175 : decode cX12_init 175 = .ok (.bipush 12, 2) := by decide +kernel
theorem dX12_init_177 : decode cX12_init 177 = .ok (.newarray .int, 2) := by decide +kernel
theorem dX12_init_179 : decode cX12_init 179 = .ok (.putfield 73, 3) := by decide +kernel
theorem dX12_init_182 : decode cX12_init 182 = .ok (.return_, 1) := by decide +kernel
theorem dX12_no_0 : decode cX12_no 0 = .ok (.aload_n 0, 1) := by decide +kernel
theorem dX12_no_1 : decode cX12_no 1 = .ok (.getfield 7, 3) := by decide +kernel
theorem dX12_no_4 : decode cX12_no 4 = .ok (.iload_n 1, 1) := by decide +kernel
theorem dX12_no_5 : decode cX12_no 5 = .ok (.ineg, 1) := by decide +kernel
theorem dX12_no_6 : decode cX12_no 6 = .ok (.dup2, 1) := by decide +kernel
theorem dX12_no_7 : decode cX12_no 7 = .ok (.iaload, 1) := by decide +kernel
theorem dX12_no_8 : decode cX12_no 8 = .ok (.iconst 1, 1) := by decide +kernel
theorem dX12_no_9 : decode cX12_no 9 = .ok (.iadd, 1) := by decide +kernel
theorem dX12_no_10 : decode cX12_no 10 = .ok (.iastore, 1) := by decide +kernel
theorem dX12_no_11 : decode cX12_no 11 = .ok (.iload_n 1, 1) := by decide +kernel
theorem dX12_no_12 : decode cX12_no 12 = .ok (.ireturn, 1) := by decide +kernel
theorem dX12_lower_0 : decode cX12_lower 0 = .ok (.aload_n 0, 1) := by decide +kernel
theorem dX12_lower_1 : decode cX12_lower 1 = .ok (.getfield 7, 3) := by decide +kernel
theorem dX12_lower_4 : decode cX12_lower 4 = .ok (.iload_n 1, 1) := by decide +kernel
theorem dX12_lower_5 : decode cX12_lower 5 = .ok (.ineg, 1) := by decide +kernel
theorem dX12_lower_6 : decode cX12_lower 6 = .ok (.dup2, 1) := by decide +kernel
theorem dX12_lower_7 : decode cX12_lower 7 = .ok (.iaload, 1) := by decide +kernel
theorem dX12_lower_8 : decode cX12_lower 8 = .ok (.iconst 1, 1) := by decide +kernel
theorem dX12_lower_9 : decode cX12_lower 9 = .ok (.iadd, 1) := by decide +kernel
theorem dX12_lower_10 : decode cX12_lower 10 = .ok (.iastore, 1) := by decide +kernel
theorem dX12_lower_11 : decode cX12_lower 11 = .ok (.ldc 76, 2) := by decide +kernel
theorem dX12_lower_13 : decode cX12_lower 13 = .ok (.iload_n 1, 1) := by decide +kernel
theorem dX12_lower_14 : decode cX12_lower 14 = .ok (.isub, 1) := by decide +kernel
theorem dX12_lower_15 : decode cX12_lower 15 = .ok (.ireturn, 1) := by decide +kernel
theorem dX12_isIn_0 : decode cX12_isIn 0 = .ok (.iload_n 0, 1) := by decide +kernel
theorem dX12_isIn_1 : decode cX12_isIn 1 = .ok (.iload_n 1, 1) := by decide +kernel
theorem dX12_isIn_2 : decode cX12_isIn 2 = .ok (.if_icmp .lt 12, 3) := by decide +kernel
theorem dX12_isIn_5 : decode cX12_isIn 5 = .ok (.iload_n 0, 1) := by decide +kernel
theorem dX12_isIn_6 : decode cX12_isIn 6 = .ok (.iload_n 2, 1) := by decide +kernel
theorem dX12_isIn_7 : decode cX12_isIn 7 = .ok (.if_icmp .gt 7, 3) := by decide +kernel
theorem dX12_isIn_10 : decode cX12_isIn 10 = .ok (.iconst 1, 1) := by decide +kernel
theorem dX12_isIn_11 : decode cX12_isIn 11 = .ok (.goto 4, 3) := by decide +kernel
theorem dX12_isIn_14 : decode cX12_isIn 14 = .ok (.iconst 0, 1) := by decide +kernel
theorem dX12_isIn_15 : decode cX12_isIn 15 = .ok (.ireturn, 1) := by decide +kernel
theorem dX12_bound_0 : decode cX12_bound 0 = .ok (.iload_n 0, 1) := by decide +kernel
theorem dX12_bound_1 : decode cX12_bound 1 = .ok (.iload_n 1, 1) := by decide +kernel
theorem dX12_bound_2 : decode cX12_bound 2 = .ok (.if_icmp .ge 8, 3) := by decide +kernel
theorem dX12_bound_5 : decode cX12_bound 5 = .ok (.bipush (-4), 2) := by decide +kernel
theorem dX12_bound_7 : decode cX12_bound 7 = .ok (.goto 14, 3) := by decide +kernel
theorem dX12_bound_10 : decode cX12_bound 10 = .ok (.iload_n 0, 1) := by decide +kernel
theorem dX12_bound_11 : decode cX12_bound 11 = .ok (.iload_n 2, 1) := by decide +kernel
theorem dX12_bound_12 : decode cX12_bound 12 = .ok (.if_icmp .le 8, 3) := by decide +kernel
theorem dX12_bound_15 : decode cX12_bound 15 = .ok (.bipush (-6), 2) := by decide +kernel
theorem dX12_bound_17 : decode cX12_bound 17 = .ok (.goto 4, 3) := by decide +kernel
theorem dX12_bound_20 : decode cX12_bound 20 = .ok (.iconst 0, 1) := by decide +kernel
theorem dX12_bound_21 : decode cX12_bound 21 = .ok (.ireturn, 1) := by decide +kernel
theorem dX12_feed_0 : decode cX12_feed 0 = .ok (.iload_n 1, 1) := by decide +kernel
theorem dX12_feed_1 : decode cX12_feed 1 = .ok (.iconst 0, 1) := by decide +kernel
theorem dX12_feed_2 : decode cX12_feed 2 = .ok (.sipush 255, 3) := by decide +kernel
theorem dX12_feed_5 : decode cX12_feed 5 = .ok (.invokestatic 77, 3) := by decide +kernel
theorem dX12_feed_8 : decode cX12_feed 8 = .ok (.istore_n 2, 1) := by decide +kernel
theorem dX12_feed_9 : decode cX12_feed 9 = .ok (.iload_n 2, 1) := by decide +kernel
theorem dX12_feed_10 : decode cX12_feed 10 = .ok (.ifCond .ne 15, 3) := by decide +kernel
theorem dX12_feed_13 : decode cX12_feed 13 = .ok (.aload_n 0, 1) := by decide +kernel
theorem dX12_feed_14 : decode cX12_feed 14 = .ok (.getfield 81, 3) := by decide +kernel
theorem dX12_feed_17 : decode cX12_feed 17 = .ok (.bipush 80, 2) := by decide +kernel
theorem dX12_feed_19 : decode cX12_feed 19 = .ok (.if_icmp .ne 6, 3) := by decide +kernel
theorem dX12_feed_22 : decode cX12_feed 22 = .ok (.bipush (-6), 2) := by decide +kernel
theorem dX12_feed_24 : decode cX12_feed 24 = .ok (.istore_n 2, 1) := by decide +kernel
theorem dX12_feed_25 : decode cX12_feed 25 = .ok (.iload_n 2, 1) := by decide +kernel
theorem dX12_feed_26 : decode cX12_feed 26 = .ok (.ifCond .eq 9, 3) := by decide +kernel
theorem dX12_feed_29 : decode cX12_feed 29 = .ok (.aload_n 0, 1) := by decide +kernel
theorem dX12_feed_30 : decode cX12_feed 30 = .ok (.iload_n 2, 1) := by decide +kernel
theorem dX12_feed_31 : decode cX12_feed 31 = .ok (.invokevirtual 85, 3) := by decide +kernel
theorem dX12_feed_34 : decode cX12_feed 34 = .ok (.ireturn, 1) := by decide +kernel
theorem dX12_feed_35 : decode cX12_feed 35 = .ok (.aload_n 0, 1) := by decide +kernel
theorem dX12_feed_36 : decode cX12_feed 36 = .ok (.getfield 46, 3) := by decide +kernel
theorem dX12_feed_39 : decode cX12_feed 39 = .ok (.aload_n 0, 1) := by decide +kernel
theorem dX12_feed_40 : decode cX12_feed 40 = .ok (.getfield 81, 3) := by decide +kernel
theorem dX12_feed_43 : decode cX12_feed 43 = .ok (.iload_n 1, 1) := by decide +kernel
theorem dX12_feed_44 : decode cX12_feed 44 = .ok (.iastore, 1) := by decide +kernel
theorem dX12_feed_45 : decode cX12_feed 45 = .ok (.aload_n 0, 1) := by decide +kernel
theorem dX12_feed_46 : decode cX12_feed 46 = .ok (.dup, 1) := by decide +kernel
theorem dX12_feed_47 : decode cX12_feed 47 = .ok (.getfield 81, 3) := by decide +kernel
theorem dX12_feed_50 : decode cX12_feed 50 = .ok (.iconst 1, 1) := by decide +kernel
theorem dX12_feed_51 : decode cX12_feed 51 = .ok (.iadd, 1) := by decide +kernel
theorem dX12_feed_52 : decode cX12_feed 52 = .ok (.putfield 81, 3) := by decide +kernel
theorem dX12_feed_55 : decode cX12_feed 55 = .ok (.aload_n 0, 1) := by decide +kernel
theorem dX12_feed_56 : decode cX12_feed 56 = .ok (.getfield 81, 3) := by decide +kernel
theorem dX12_feed_59 : decode cX12_feed 59 = .ok (.ireturn, 1) := by decide +kernel
theorem dX12_next_0 : decode cX12_next 0 = .ok (.aload_n 0, 1) := by decide +kernel
theorem dX12_next_1 : decode cX12_next 1 = .ok (.getfield 89, 3) := by decide +kernel
theorem dX12_next_4 : decode cX12_next 4 = .ok (.aload_n 0, 1) := by decide +kernel
theorem dX12_next_5 : decode cX12_next 5 = .ok (.getfield 81, 3) := by decide +kernel
theorem dX12_next_8 : decode cX12_next 8 = .ok (.if_icmp .ge 15, 3) := by decide +kernel
theorem dX12_next_11 : decode cX12_next 11 = .ok (.aload_n 0, 1) := by decide +kernel
theorem dX12_next_12 : decode cX12_next 12 = .ok (.getfield 46, 3) := by decide +kernel
theorem dX12_next_15 : decode cX12_next 15 = .ok (.aload_n 0, 1) := by decide +kernel
theorem dX12_next_16 : decode cX12_next 16 = .ok (.getfield 89, 3) := by decide +kernel
theorem dX12_next_19 : decode cX12_next 19 = .ok (.iaload, 1) := by decide +kernel
theorem dX12_next_20 : decode cX12_next 20 = .ok (.goto 4, 3) := by decide +kernel
theorem dX12_next_23 : decode cX12_next 23 = .ok (.iconst (-1), 1) := by decide +kernel
theorem dX12_next_24 : decode cX12_next 24 = .ok (.ireturn, 1) := by decide +kernel
theorem dX12_readsOnes_0 : decode cX12_readsOnes 0 = .ok (.iconst 0, 1) := by decide +kernel
theorem dX12_readsOnes_1 : decode cX12_readsOnes 1 = .ok (.istore_n 3, 1) := by decide +kernel
theorem dX12_readsOnes_2 : decode cX12_readsOnes 2 = .ok (.iload_n 3, 1) := by decide +kernel
theorem dX12_readsOnes_3 : decode cX12_readsOnes 3 = .ok (.iload_n 2, 1) := by decide +kernel
theorem dX12_readsOnes_4 : decode cX12_readsOnes 4 = .ok (.if_icmp .ge 50, 3) := by decide +kernel
theorem dX12_readsOnes_7 : decode cX12_readsOnes 7 = .ok (.aload_n 0, 1) := by decide +kernel
theorem dX12_readsOnes_8 : decode cX12_readsOnes 8 = .ok (.invokevirtual 92, 3) := by decide +kernel
theorem dX12_readsOnes_11 : decode cX12_readsOnes 11 = .ok (.bipush 48, 2) := by decide +kernel
theorem dX12_readsOnes_13 : decode cX12_readsOnes 13 = .ok (.bipush 57, 2) := by decide +kernel
theorem dX12_readsOnes_15 : decode cX12_readsOnes 15 = .ok (.invokestatic 96, 3) := by decide +kernel
theorem dX12_readsOnes_18 : decode cX12_readsOnes 18 = .ok (.ifCond .ne 5, 3) := by decide +kernel
theorem dX12_readsOnes_21 : decode cX12_readsOnes 21 = .ok (.iconst 0, 1) := by decide +kernel
theorem dX12_readsOnes_22 : decode cX12_readsOnes 22 = .ok (.ireturn, 1) := by decide +kernel
theorem dX12_readsOnes_23 : decode cX12_readsOnes 23 = .ok (.aload_n 0, 1) := by decide +kernel
theorem dX12_readsOnes_24 : decode cX12_readsOnes 24 = .ok (.getfield 55, 3) := by decide +kernel
theorem dX12_readsOnes_27 : decode cX12_readsOnes 27 = .ok (.iload_n 1, 1) := by decide +kernel
theorem dX12_readsOnes_28 : decode cX12_readsOnes 28 = .ok (.iload_n 3, 1) := by decide +kernel
theorem dX12_readsOnes_29 : decode cX12_readsOnes 29 = .ok (.iadd, 1) := by decide +kernel
theorem dX12_readsOnes_30 : decode cX12_readsOnes 30 = .ok (.aload_n 0, 1) := by decide +kernel
theorem dX12_readsOnes_31 : decode cX12_readsOnes 31 = .ok (.invokevirtual 92, 3) := by decide +kernel
theorem dX12_readsOnes_34 : decode cX12_readsOnes 34 = .ok (.bipush 48, 2) := by decide +kernel
theorem dX12_readsOnes_36 : decode cX12_readsOnes 36 = .ok (.isub, 1) := by decide +kernel
theorem dX12_readsOnes_37 : decode cX12_readsOnes 37 = .ok (.iastore, 1) := by decide +kernel
theorem dX12_readsOnes_38 : decode cX12_readsOnes 38 = .ok (.aload_n 0, 1) := by decide +kernel
theorem dX12_readsOnes_39 : decode cX12_readsOnes 39 = .ok (.dup, 1) := by decide +kernel
theorem dX12_readsOnes_40 : decode cX12_readsOnes 40 = .ok (.getfield 89, 3) := by decide +kernel
theorem dX12_readsOnes_43 : decode cX12_readsOnes 43 = .ok (.iconst 1, 1) := by decide +kernel
theorem dX12_readsOnes_44 : decode cX12_readsOnes 44 = .ok (.iadd, 1) := by decide +kernel
theorem dX12_readsOnes_45 : decode cX12_readsOnes 45 = .ok (.putfield 89, 3) := by decide +kernel
theorem dX12_readsOnes_48 : decode cX12_readsOnes 48 = .ok (.iinc 3 1, 3) := by decide +kernel
theorem dX12_readsOnes_51 : decode cX12_readsOnes 51 = .ok (.goto (-49), 3) := by decide +kernel
theorem dX12_readsOnes_54 : decode cX12_readsOnes 54 = .ok (.iconst 1, 1) := by decide +kernel
theorem dX12_readsOnes_55 : decode cX12_readsOnes 55 = .ok (.ireturn, 1) := by decide +kernel
theorem dX12_wayOf_0 : decode cX12_wayOf 0 = .ok (.iload_n 0, 1) := by decide +kernel
theorem dX12_wayOf_1 : decode cX12_wayOf 1 = .ok (.lookupswitch 51 #[(101, 45), (110, 43), (115, 47), (119, 49)], 43) := by decide +kernel
theorem dX12_wayOf_44 : decode cX12_wayOf 44 = .ok (.iconst 0, 1) := by decide +kernel
theorem dX12_wayOf_45 : decode cX12_wayOf 45 = .ok (.ireturn, 1) := by decide +kernel
theorem dX12_wayOf_46 : decode cX12_wayOf 46 = .ok (.iconst 1, 1) := by decide +kernel
theorem dX12_wayOf_47 : decode cX12_wayOf 47 = .ok (.ireturn, 1) := by decide +kernel
theorem dX12_wayOf_48 : decode cX12_wayOf 48 = .ok (.iconst 2, 1) := by decide +kernel
theorem dX12_wayOf_49 : decode cX12_wayOf 49 = .ok (.ireturn, 1) := by decide +kernel
theorem dX12_wayOf_50 : decode cX12_wayOf 50 = .ok (.iconst 3, 1) := by decide +kernel
theorem dX12_wayOf_51 : decode cX12_wayOf 51 = .ok (.ireturn, 1) := by decide +kernel
theorem dX12_wayOf_52 : decode cX12_wayOf 52 = .ok (.iconst (-1), 1) := by decide +kernel
theorem dX12_wayOf_53 : decode cX12_wayOf 53 = .ok (.ireturn, 1) := by decide +kernel
theorem dX12_readsStretch_0 : decode cX12_readsStretch 0 = .ok (.aload_n 0, 1) := by decide +kernel
theorem dX12_readsStretch_1 : decode cX12_readsStretch 1 = .ok (.iload_n 1, 1) := by decide +kernel
theorem dX12_readsStretch_2 : decode cX12_readsStretch 2 = .ok (.iconst 2, 1) := by decide +kernel
theorem dX12_readsStretch_3 : decode cX12_readsStretch 3 = .ok (.invokevirtual 100, 3) := by decide +kernel
theorem dX12_readsStretch_6 : decode cX12_readsStretch 6 = .ok (.ifCond .ne 5, 3) := by decide +kernel
theorem dX12_readsStretch_9 : decode cX12_readsStretch 9 = .ok (.iconst 0, 1) := by decide +kernel
theorem dX12_readsStretch_10 : decode cX12_readsStretch 10 = .ok (.ireturn, 1) := by decide +kernel
theorem dX12_readsStretch_11 : decode cX12_readsStretch 11 = .ok (.iconst 0, 1) := by decide +kernel
theorem dX12_readsStretch_12 : decode cX12_readsStretch 12 = .ok (.istore_n 2, 1) := by decide +kernel
theorem dX12_readsStretch_13 : decode cX12_readsStretch 13 = .ok (.iload_n 2, 1) := by decide +kernel
theorem dX12_readsStretch_14 : decode cX12_readsStretch 14 = .ok (.bipush 9, 2) := by decide +kernel
theorem dX12_readsStretch_16 : decode cX12_readsStretch 16 = .ok (.if_icmp .ge 46, 3) := by decide +kernel
theorem dX12_readsStretch_19 : decode cX12_readsStretch 19 = .ok (.aload_n 0, 1) := by decide +kernel
theorem dX12_readsStretch_20 : decode cX12_readsStretch 20 = .ok (.invokevirtual 92, 3) := by decide +kernel
theorem dX12_readsStretch_23 : decode cX12_readsStretch 23 = .ok (.invokestatic 104, 3) := by decide +kernel
theorem dX12_readsStretch_26 : decode cX12_readsStretch 26 = .ok (.ifCond .lt 36, 3) := by decide +kernel
theorem dX12_readsStretch_29 : decode cX12_readsStretch 29 = .ok (.aload_n 0, 1) := by decide +kernel
theorem dX12_readsStretch_30 : decode cX12_readsStretch 30 = .ok (.getfield 55, 3) := by decide +kernel
theorem dX12_readsStretch_33 : decode cX12_readsStretch 33 = .ok (.iload_n 1, 1) := by decide +kernel
theorem dX12_readsStretch_34 : decode cX12_readsStretch 34 = .ok (.iconst 3, 1) := by decide +kernel
theorem dX12_readsStretch_35 : decode cX12_readsStretch 35 = .ok (.iadd, 1) := by decide +kernel
theorem dX12_readsStretch_36 : decode cX12_readsStretch 36 = .ok (.iload_n 2, 1) := by decide +kernel
theorem dX12_readsStretch_37 : decode cX12_readsStretch 37 = .ok (.iadd, 1) := by decide +kernel
theorem dX12_readsStretch_38 : decode cX12_readsStretch 38 = .ok (.aload_n 0, 1) := by decide +kernel
theorem dX12_readsStretch_39 : decode cX12_readsStretch 39 = .ok (.invokevirtual 92, 3) := by decide +kernel
theorem dX12_readsStretch_42 : decode cX12_readsStretch 42 = .ok (.invokestatic 104, 3) := by decide +kernel
theorem dX12_readsStretch_45 : decode cX12_readsStretch 45 = .ok (.iastore, 1) := by decide +kernel
theorem dX12_readsStretch_46 : decode cX12_readsStretch 46 = .ok (.aload_n 0, 1) := by decide +kernel
theorem dX12_readsStretch_47 : decode cX12_readsStretch 47 = .ok (.dup, 1) := by decide +kernel
theorem dX12_readsStretch_48 : decode cX12_readsStretch 48 = .ok (.getfield 89, 3) := by decide +kernel
theorem dX12_readsStretch_51 : decode cX12_readsStretch 51 = .ok (.iconst 1, 1) := by decide +kernel
theorem dX12_readsStretch_52 : decode cX12_readsStretch 52 = .ok (.iadd, 1) := by decide +kernel
theorem dX12_readsStretch_53 : decode cX12_readsStretch 53 = .ok (.putfield 89, 3) := by decide +kernel
theorem dX12_readsStretch_56 : decode cX12_readsStretch 56 = .ok (.iinc 2 1, 3) := by decide +kernel
theorem dX12_readsStretch_59 : decode cX12_readsStretch 59 = .ok (.goto (-46), 3) := by decide +kernel
theorem dX12_readsStretch_62 : decode cX12_readsStretch 62 = .ok (.aload_n 0, 1) := by decide +kernel
theorem dX12_readsStretch_63 : decode cX12_readsStretch 63 = .ok (.getfield 55, 3) := by decide +kernel
theorem dX12_readsStretch_66 : decode cX12_readsStretch 66 = .ok (.iload_n 1, 1) := by decide +kernel
theorem dX12_readsStretch_67 : decode cX12_readsStretch 67 = .ok (.iconst 2, 1) := by decide +kernel
theorem dX12_readsStretch_68 : decode cX12_readsStretch 68 = .ok (.iadd, 1) := by decide +kernel
theorem dX12_readsStretch_69 : decode cX12_readsStretch 69 = .ok (.iload_n 2, 1) := by decide +kernel
theorem dX12_readsStretch_70 : decode cX12_readsStretch 70 = .ok (.iastore, 1) := by decide +kernel
theorem dX12_readsStretch_71 : decode cX12_readsStretch 71 = .ok (.iload_n 2, 1) := by decide +kernel
theorem dX12_readsStretch_72 : decode cX12_readsStretch 72 = .ok (.ifCond .le 7, 3) := by decide +kernel
theorem dX12_readsStretch_75 : decode cX12_readsStretch 75 = .ok (.iconst 1, 1) := by decide +kernel
theorem dX12_readsStretch_76 : decode cX12_readsStretch 76 = .ok (.goto 4, 3) := by decide +kernel
theorem dX12_readsStretch_79 : decode cX12_readsStretch 79 = .ok (.iconst 0, 1) := by decide +kernel
theorem dX12_readsStretch_80 : decode cX12_readsStretch 80 = .ok (.ireturn, 1) := by decide +kernel
theorem dX12_statement_0 : decode cX12_statement 0 = .ok (.aload_n 0, 1) := by decide +kernel
theorem dX12_statement_1 : decode cX12_statement 1 = .ok (.invokevirtual 92, 3) := by decide +kernel
theorem dX12_statement_4 : decode cX12_statement 4 = .ok (.istore_n 1, 1) := by decide +kernel
theorem dX12_statement_5 : decode cX12_statement 5 = .ok (.iload_n 1, 1) := by decide +kernel
theorem dX12_statement_6 : decode cX12_statement 6 = .ok (.bipush 99, 2) := by decide +kernel
theorem dX12_statement_8 : decode cX12_statement 8 = .ok (.if_icmp .eq 17, 3) := by decide +kernel
theorem dX12_statement_11 : decode cX12_statement 11 = .ok (.iload_n 1, 1) := by decide +kernel
theorem dX12_statement_12 : decode cX12_statement 12 = .ok (.bipush 114, 2) := by decide +kernel
theorem dX12_statement_14 : decode cX12_statement 14 = .ok (.if_icmp .eq 11, 3) := by decide +kernel
theorem dX12_statement_17 : decode cX12_statement 17 = .ok (.iload_n 1, 1) := by decide +kernel
theorem dX12_statement_18 : decode cX12_statement 18 = .ok (.bipush 116, 2) := by decide +kernel
theorem dX12_statement_20 : decode cX12_statement 20 = .ok (.if_icmp .eq 5, 3) := by decide +kernel
theorem dX12_statement_23 : decode cX12_statement 23 = .ok (.iconst 0, 1) := by decide +kernel
theorem dX12_statement_24 : decode cX12_statement 24 = .ok (.ireturn, 1) := by decide +kernel
theorem dX12_statement_25 : decode cX12_statement 25 = .ok (.aload_n 0, 1) := by decide +kernel
theorem dX12_statement_26 : decode cX12_statement 26 = .ok (.getfield 49, 3) := by decide +kernel
theorem dX12_statement_29 : decode cX12_statement 29 = .ok (.aload_n 0, 1) := by decide +kernel
theorem dX12_statement_30 : decode cX12_statement 30 = .ok (.getfield 107, 3) := by decide +kernel
theorem dX12_statement_33 : decode cX12_statement 33 = .ok (.iload_n 1, 1) := by decide +kernel
theorem dX12_statement_34 : decode cX12_statement 34 = .ok (.iastore, 1) := by decide +kernel
theorem dX12_statement_35 : decode cX12_statement 35 = .ok (.aload_n 0, 1) := by decide +kernel
theorem dX12_statement_36 : decode cX12_statement 36 = .ok (.getfield 52, 3) := by decide +kernel
theorem dX12_statement_39 : decode cX12_statement 39 = .ok (.aload_n 0, 1) := by decide +kernel
theorem dX12_statement_40 : decode cX12_statement 40 = .ok (.getfield 107, 3) := by decide +kernel
theorem dX12_statement_43 : decode cX12_statement 43 = .ok (.aload_n 0, 1) := by decide +kernel
theorem dX12_statement_44 : decode cX12_statement 44 = .ok (.getfield 89, 3) := by decide +kernel
theorem dX12_statement_47 : decode cX12_statement 47 = .ok (.iastore, 1) := by decide +kernel
theorem dX12_statement_48 : decode cX12_statement 48 = .ok (.aload_n 0, 1) := by decide +kernel
theorem dX12_statement_49 : decode cX12_statement 49 = .ok (.dup, 1) := by decide +kernel
theorem dX12_statement_50 : decode cX12_statement 50 = .ok (.getfield 89, 3) := by decide +kernel
theorem dX12_statement_53 : decode cX12_statement 53 = .ok (.iconst 1, 1) := by decide +kernel
theorem dX12_statement_54 : decode cX12_statement 54 = .ok (.iadd, 1) := by decide +kernel
theorem dX12_statement_55 : decode cX12_statement 55 = .ok (.putfield 89, 3) := by decide +kernel
theorem dX12_statement_58 : decode cX12_statement 58 = .ok (.bipush 16, 2) := by decide +kernel
theorem dX12_statement_60 : decode cX12_statement 60 = .ok (.aload_n 0, 1) := by decide +kernel
theorem dX12_statement_61 : decode cX12_statement 61 = .ok (.getfield 107, 3) := by decide +kernel
theorem dX12_statement_64 : decode cX12_statement 64 = .ok (.imul, 1) := by decide +kernel
theorem dX12_statement_65 : decode cX12_statement 65 = .ok (.istore_n 2, 1) := by decide +kernel
theorem dX12_statement_66 : decode cX12_statement 66 = .ok (.iload_n 1, 1) := by decide +kernel
theorem dX12_statement_67 : decode cX12_statement 67 = .ok (.bipush 99, 2) := by decide +kernel
theorem dX12_statement_69 : decode cX12_statement 69 = .ok (.if_icmp .ne 14, 3) := by decide +kernel
theorem dX12_statement_72 : decode cX12_statement 72 = .ok (.aload_n 0, 1) := by decide +kernel
theorem dX12_statement_73 : decode cX12_statement 73 = .ok (.iload_n 2, 1) := by decide +kernel
theorem dX12_statement_74 : decode cX12_statement 74 = .ok (.invokevirtual 110, 3) := by decide +kernel
theorem dX12_statement_77 : decode cX12_statement 77 = .ok (.ifCond .eq 35, 3) := by decide +kernel
theorem dX12_statement_80 : decode cX12_statement 80 = .ok (.goto 23, 3) := by decide +kernel
theorem dX12_statement_83 : decode cX12_statement 83 = .ok (.aload_n 0, 1) := by decide +kernel
theorem dX12_statement_84 : decode cX12_statement 84 = .ok (.iload_n 2, 1) := by decide +kernel
theorem dX12_statement_85 : decode cX12_statement 85 = .ok (.iload_n 1, 1) := by decide +kernel
theorem dX12_statement_86 : decode cX12_statement 86 = .ok (.bipush 114, 2) := by decide +kernel
theorem dX12_statement_88 : decode cX12_statement 88 = .ok (.if_icmp .ne 8, 3) := by decide +kernel
theorem dX12_statement_91 : decode cX12_statement 91 = .ok (.bipush 6, 2) := by decide +kernel
theorem dX12_statement_93 : decode cX12_statement 93 = .ok (.goto 4, 3) := by decide +kernel
theorem dX12_statement_96 : decode cX12_statement 96 = .ok (.iconst 1, 1) := by decide +kernel
theorem dX12_statement_97 : decode cX12_statement 97 = .ok (.invokevirtual 100, 3) := by decide +kernel
theorem dX12_statement_100 : decode cX12_statement 100 = .ok (.ifCond .eq 12, 3) := by decide +kernel
theorem dX12_statement_103 : decode cX12_statement 103 = .ok (.aload_n 0, 1) := by decide +kernel
theorem dX12_statement_104 : decode cX12_statement 104 = .ok (.invokevirtual 92, 3) := by decide +kernel
theorem dX12_statement_107 : decode cX12_statement 107 = .ok (.bipush 59, 2) := by decide +kernel
theorem dX12_statement_109 : decode cX12_statement 109 = .ok (.if_icmp .eq 5, 3) := by decide +kernel
theorem dX12_statement_112 : decode cX12_statement 112 = .ok (.iconst 0, 1) := by decide +kernel
theorem dX12_statement_113 : decode cX12_statement 113 = .ok (.ireturn, 1) := by decide +kernel
theorem dX12_statement_114 : decode cX12_statement 114 = .ok (.aload_n 0, 1) := by decide +kernel
theorem dX12_statement_115 : decode cX12_statement 115 = .ok (.dup, 1) := by decide +kernel
theorem dX12_statement_116 : decode cX12_statement 116 = .ok (.getfield 89, 3) := by decide +kernel
theorem dX12_statement_119 : decode cX12_statement 119 = .ok (.iconst 1, 1) := by decide +kernel
theorem dX12_statement_120 : decode cX12_statement 120 = .ok (.iadd, 1) := by decide +kernel
theorem dX12_statement_121 : decode cX12_statement 121 = .ok (.putfield 89, 3) := by decide +kernel
theorem dX12_statement_124 : decode cX12_statement 124 = .ok (.iconst 1, 1) := by decide +kernel
theorem dX12_statement_125 : decode cX12_statement 125 = .ok (.ireturn, 1) := by decide +kernel
theorem dX12_comesStretch_0 : decode cX12_comesStretch 0 = .ok (.aload_n 0, 1) := by decide +kernel
theorem dX12_comesStretch_1 : decode cX12_comesStretch 1 = .ok (.getfield 55, 3) := by decide +kernel
theorem dX12_comesStretch_4 : decode cX12_comesStretch 4 = .ok (.iload_n 1, 1) := by decide +kernel
theorem dX12_comesStretch_5 : decode cX12_comesStretch 5 = .ok (.iconst 2, 1) := by decide +kernel
theorem dX12_comesStretch_6 : decode cX12_comesStretch 6 = .ok (.iadd, 1) := by decide +kernel
theorem dX12_comesStretch_7 : decode cX12_comesStretch 7 = .ok (.iaload, 1) := by decide +kernel
theorem dX12_comesStretch_8 : decode cX12_comesStretch 8 = .ok (.istore_n 2, 1) := by decide +kernel
theorem dX12_comesStretch_9 : decode cX12_comesStretch 9 = .ok (.aload_n 0, 1) := by decide +kernel
theorem dX12_comesStretch_10 : decode cX12_comesStretch 10 = .ok (.getfield 55, 3) := by decide +kernel
theorem dX12_comesStretch_13 : decode cX12_comesStretch 13 = .ok (.iload_n 1, 1) := by decide +kernel
theorem dX12_comesStretch_14 : decode cX12_comesStretch 14 = .ok (.iaload, 1) := by decide +kernel
theorem dX12_comesStretch_15 : decode cX12_comesStretch 15 = .ok (.iconst 5, 1) := by decide +kernel
theorem dX12_comesStretch_16 : decode cX12_comesStretch 16 = .ok (.if_icmp .gt 23, 3) := by decide +kernel
theorem dX12_comesStretch_19 : decode cX12_comesStretch 19 = .ok (.aload_n 0, 1) := by decide +kernel
theorem dX12_comesStretch_20 : decode cX12_comesStretch 20 = .ok (.getfield 114, 3) := by decide +kernel
theorem dX12_comesStretch_23 : decode cX12_comesStretch 23 = .ok (.bipush 8, 2) := by decide +kernel
theorem dX12_comesStretch_25 : decode cX12_comesStretch 25 = .ok (.if_icmp .eq 14, 3) := by decide +kernel
theorem dX12_comesStretch_28 : decode cX12_comesStretch 28 = .ok (.aload_n 0, 1) := by decide +kernel
theorem dX12_comesStretch_29 : decode cX12_comesStretch 29 = .ok (.getfield 117, 3) := by decide +kernel
theorem dX12_comesStretch_32 : decode cX12_comesStretch 32 = .ok (.iload_n 2, 1) := by decide +kernel
theorem dX12_comesStretch_33 : decode cX12_comesStretch 33 = .ok (.iadd, 1) := by decide +kernel
theorem dX12_comesStretch_34 : decode cX12_comesStretch 34 = .ok (.bipush 48, 2) := by decide +kernel
theorem dX12_comesStretch_36 : decode cX12_comesStretch 36 = .ok (.if_icmp .le 5, 3) := by decide +kernel
theorem dX12_comesStretch_39 : decode cX12_comesStretch 39 = .ok (.iconst 0, 1) := by decide +kernel
theorem dX12_comesStretch_40 : decode cX12_comesStretch 40 = .ok (.ireturn, 1) := by decide +kernel
theorem dX12_comesStretch_41 : decode cX12_comesStretch 41 = .ok (.aload_n 0, 1) := by decide +kernel
theorem dX12_comesStretch_42 : decode cX12_comesStretch 42 = .ok (.getfield 13, 3) := by decide +kernel
theorem dX12_comesStretch_45 : decode cX12_comesStretch 45 = .ok (.aload_n 0, 1) := by decide +kernel
theorem dX12_comesStretch_46 : decode cX12_comesStretch 46 = .ok (.getfield 114, 3) := by decide +kernel
theorem dX12_comesStretch_49 : decode cX12_comesStretch 49 = .ok (.aload_n 0, 1) := by decide +kernel
theorem dX12_comesStretch_50 : decode cX12_comesStretch 50 = .ok (.getfield 55, 3) := by decide +kernel
theorem dX12_comesStretch_53 : decode cX12_comesStretch 53 = .ok (.iload_n 1, 1) := by decide +kernel
theorem dX12_comesStretch_54 : decode cX12_comesStretch 54 = .ok (.iaload, 1) := by decide +kernel
theorem dX12_comesStretch_55 : decode cX12_comesStretch 55 = .ok (.iastore, 1) := by decide +kernel
theorem dX12_comesStretch_56 : decode cX12_comesStretch 56 = .ok (.aload_n 0, 1) := by decide +kernel
theorem dX12_comesStretch_57 : decode cX12_comesStretch 57 = .ok (.getfield 16, 3) := by decide +kernel
theorem dX12_comesStretch_60 : decode cX12_comesStretch 60 = .ok (.aload_n 0, 1) := by decide +kernel
theorem dX12_comesStretch_61 : decode cX12_comesStretch 61 = .ok (.getfield 114, 3) := by decide +kernel
theorem dX12_comesStretch_64 : decode cX12_comesStretch 64 = .ok (.aload_n 0, 1) := by decide +kernel
theorem dX12_comesStretch_65 : decode cX12_comesStretch 65 = .ok (.getfield 55, 3) := by decide +kernel
theorem dX12_comesStretch_68 : decode cX12_comesStretch 68 = .ok (.iload_n 1, 1) := by decide +kernel
theorem dX12_comesStretch_69 : decode cX12_comesStretch 69 = .ok (.iconst 1, 1) := by decide +kernel
theorem dX12_comesStretch_70 : decode cX12_comesStretch 70 = .ok (.iadd, 1) := by decide +kernel
theorem dX12_comesStretch_71 : decode cX12_comesStretch 71 = .ok (.iaload, 1) := by decide +kernel
theorem dX12_comesStretch_72 : decode cX12_comesStretch 72 = .ok (.iastore, 1) := by decide +kernel
theorem dX12_comesStretch_73 : decode cX12_comesStretch 73 = .ok (.aload_n 0, 1) := by decide +kernel
theorem dX12_comesStretch_74 : decode cX12_comesStretch 74 = .ok (.getfield 19, 3) := by decide +kernel
theorem dX12_comesStretch_77 : decode cX12_comesStretch 77 = .ok (.aload_n 0, 1) := by decide +kernel
theorem dX12_comesStretch_78 : decode cX12_comesStretch 78 = .ok (.getfield 114, 3) := by decide +kernel
theorem dX12_comesStretch_81 : decode cX12_comesStretch 81 = .ok (.aload_n 0, 1) := by decide +kernel
theorem dX12_comesStretch_82 : decode cX12_comesStretch 82 = .ok (.getfield 117, 3) := by decide +kernel
theorem dX12_comesStretch_85 : decode cX12_comesStretch 85 = .ok (.iconst 1, 1) := by decide +kernel
theorem dX12_comesStretch_86 : decode cX12_comesStretch 86 = .ok (.iadd, 1) := by decide +kernel
theorem dX12_comesStretch_87 : decode cX12_comesStretch 87 = .ok (.iastore, 1) := by decide +kernel
theorem dX12_comesStretch_88 : decode cX12_comesStretch 88 = .ok (.aload_n 0, 1) := by decide +kernel
theorem dX12_comesStretch_89 : decode cX12_comesStretch 89 = .ok (.getfield 22, 3) := by decide +kernel
theorem dX12_comesStretch_92 : decode cX12_comesStretch 92 = .ok (.aload_n 0, 1) := by decide +kernel
theorem dX12_comesStretch_93 : decode cX12_comesStretch 93 = .ok (.getfield 114, 3) := by decide +kernel
theorem dX12_comesStretch_96 : decode cX12_comesStretch 96 = .ok (.iload_n 2, 1) := by decide +kernel
theorem dX12_comesStretch_97 : decode cX12_comesStretch 97 = .ok (.iastore, 1) := by decide +kernel
theorem dX12_comesStretch_98 : decode cX12_comesStretch 98 = .ok (.iconst 0, 1) := by decide +kernel
theorem dX12_comesStretch_99 : decode cX12_comesStretch 99 = .ok (.istore_n 3, 1) := by decide +kernel
theorem dX12_comesStretch_100 : decode cX12_comesStretch 100 = .ok (.iload_n 3, 1) := by decide +kernel
theorem dX12_comesStretch_101 : decode cX12_comesStretch 101 = .ok (.iload_n 2, 1) := by decide +kernel
theorem dX12_comesStretch_102 : decode cX12_comesStretch 102 = .ok (.if_icmp .ge 129, 3) := by decide +kernel
theorem dX12_comesStretch_105 : decode cX12_comesStretch 105 = .ok (.aload_n 0, 1) := by decide +kernel
theorem dX12_comesStretch_106 : decode cX12_comesStretch 106 = .ok (.getfield 55, 3) := by decide +kernel
theorem dX12_comesStretch_109 : decode cX12_comesStretch 109 = .ok (.iload_n 1, 1) := by decide +kernel
theorem dX12_comesStretch_110 : decode cX12_comesStretch 110 = .ok (.iconst 3, 1) := by decide +kernel
theorem dX12_comesStretch_111 : decode cX12_comesStretch 111 = .ok (.iadd, 1) := by decide +kernel
theorem dX12_comesStretch_112 : decode cX12_comesStretch 112 = .ok (.iload_n 3, 1) := by decide +kernel
theorem dX12_comesStretch_113 : decode cX12_comesStretch 113 = .ok (.iadd, 1) := by decide +kernel
theorem dX12_comesStretch_114 : decode cX12_comesStretch 114 = .ok (.iaload, 1) := by decide +kernel
theorem dX12_comesStretch_115 : decode cX12_comesStretch 115 = .ok (.istore 4, 2) := by decide +kernel
theorem dX12_comesStretch_117 : decode cX12_comesStretch 117 = .ok (.aload_n 0, 1) := by decide +kernel
theorem dX12_comesStretch_118 : decode cX12_comesStretch 118 = .ok (.getfield 25, 3) := by decide +kernel
theorem dX12_comesStretch_121 : decode cX12_comesStretch 121 = .ok (.aload_n 0, 1) := by decide +kernel
theorem dX12_comesStretch_122 : decode cX12_comesStretch 122 = .ok (.getfield 117, 3) := by decide +kernel
theorem dX12_comesStretch_125 : decode cX12_comesStretch 125 = .ok (.iconst 1, 1) := by decide +kernel
theorem dX12_comesStretch_126 : decode cX12_comesStretch 126 = .ok (.iadd, 1) := by decide +kernel
theorem dX12_comesStretch_127 : decode cX12_comesStretch 127 = .ok (.aload_n 0, 1) := by decide +kernel
theorem dX12_comesStretch_128 : decode cX12_comesStretch 128 = .ok (.getfield 25, 3) := by decide +kernel
theorem dX12_comesStretch_131 : decode cX12_comesStretch 131 = .ok (.aload_n 0, 1) := by decide +kernel
theorem dX12_comesStretch_132 : decode cX12_comesStretch 132 = .ok (.getfield 117, 3) := by decide +kernel
theorem dX12_comesStretch_135 : decode cX12_comesStretch 135 = .ok (.iaload, 1) := by decide +kernel
theorem dX12_comesStretch_136 : decode cX12_comesStretch 136 = .ok (.iload 4, 2) := by decide +kernel
theorem dX12_comesStretch_138 : decode cX12_comesStretch 138 = .ok (.iconst 1, 1) := by decide +kernel
theorem dX12_comesStretch_139 : decode cX12_comesStretch 139 = .ok (.if_icmp .ne 7, 3) := by decide +kernel
theorem dX12_comesStretch_142 : decode cX12_comesStretch 142 = .ok (.iconst 1, 1) := by decide +kernel
theorem dX12_comesStretch_143 : decode cX12_comesStretch 143 = .ok (.goto 14, 3) := by decide +kernel
theorem dX12_comesStretch_146 : decode cX12_comesStretch 146 = .ok (.iload 4, 2) := by decide +kernel
theorem dX12_comesStretch_148 : decode cX12_comesStretch 148 = .ok (.iconst 3, 1) := by decide +kernel
theorem dX12_comesStretch_149 : decode cX12_comesStretch 149 = .ok (.if_icmp .ne 7, 3) := by decide +kernel
theorem dX12_comesStretch_152 : decode cX12_comesStretch 152 = .ok (.iconst (-1), 1) := by decide +kernel
theorem dX12_comesStretch_153 : decode cX12_comesStretch 153 = .ok (.goto 4, 3) := by decide +kernel
theorem dX12_comesStretch_156 : decode cX12_comesStretch 156 = .ok (.iconst 0, 1) := by decide +kernel
theorem dX12_comesStretch_157 : decode cX12_comesStretch 157 = .ok (.iadd, 1) := by decide +kernel
theorem dX12_comesStretch_158 : decode cX12_comesStretch 158 = .ok (.iastore, 1) := by decide +kernel
theorem dX12_comesStretch_159 : decode cX12_comesStretch 159 = .ok (.aload_n 0, 1) := by decide +kernel
theorem dX12_comesStretch_160 : decode cX12_comesStretch 160 = .ok (.getfield 28, 3) := by decide +kernel
theorem dX12_comesStretch_163 : decode cX12_comesStretch 163 = .ok (.aload_n 0, 1) := by decide +kernel
theorem dX12_comesStretch_164 : decode cX12_comesStretch 164 = .ok (.getfield 117, 3) := by decide +kernel
theorem dX12_comesStretch_167 : decode cX12_comesStretch 167 = .ok (.iconst 1, 1) := by decide +kernel
theorem dX12_comesStretch_168 : decode cX12_comesStretch 168 = .ok (.iadd, 1) := by decide +kernel
theorem dX12_comesStretch_169 : decode cX12_comesStretch 169 = .ok (.aload_n 0, 1) := by decide +kernel
theorem dX12_comesStretch_170 : decode cX12_comesStretch 170 = .ok (.getfield 28, 3) := by decide +kernel
theorem dX12_comesStretch_173 : decode cX12_comesStretch 173 = .ok (.aload_n 0, 1) := by decide +kernel
theorem dX12_comesStretch_174 : decode cX12_comesStretch 174 = .ok (.getfield 117, 3) := by decide +kernel
theorem dX12_comesStretch_177 : decode cX12_comesStretch 177 = .ok (.iaload, 1) := by decide +kernel
theorem dX12_comesStretch_178 : decode cX12_comesStretch 178 = .ok (.iload 4, 2) := by decide +kernel
theorem dX12_comesStretch_180 : decode cX12_comesStretch 180 = .ok (.ifCond .ne 7, 3) := by decide +kernel
theorem dX12_comesStretch_183 : decode cX12_comesStretch 183 = .ok (.iconst 1, 1) := by decide +kernel
theorem dX12_comesStretch_184 : decode cX12_comesStretch 184 = .ok (.goto 14, 3) := by decide +kernel
theorem dX12_comesStretch_187 : decode cX12_comesStretch 187 = .ok (.iload 4, 2) := by decide +kernel
theorem dX12_comesStretch_189 : decode cX12_comesStretch 189 = .ok (.iconst 2, 1) := by decide +kernel
theorem dX12_comesStretch_190 : decode cX12_comesStretch 190 = .ok (.if_icmp .ne 7, 3) := by decide +kernel
theorem dX12_comesStretch_193 : decode cX12_comesStretch 193 = .ok (.iconst (-1), 1) := by decide +kernel
theorem dX12_comesStretch_194 : decode cX12_comesStretch 194 = .ok (.goto 4, 3) := by decide +kernel
theorem dX12_comesStretch_197 : decode cX12_comesStretch 197 = .ok (.iconst 0, 1) := by decide +kernel
theorem dX12_comesStretch_198 : decode cX12_comesStretch 198 = .ok (.iadd, 1) := by decide +kernel
theorem dX12_comesStretch_199 : decode cX12_comesStretch 199 = .ok (.iastore, 1) := by decide +kernel
theorem dX12_comesStretch_200 : decode cX12_comesStretch 200 = .ok (.aload_n 0, 1) := by decide +kernel
theorem dX12_comesStretch_201 : decode cX12_comesStretch 201 = .ok (.getfield 31, 3) := by decide +kernel
theorem dX12_comesStretch_204 : decode cX12_comesStretch 204 = .ok (.aload_n 0, 1) := by decide +kernel
theorem dX12_comesStretch_205 : decode cX12_comesStretch 205 = .ok (.getfield 117, 3) := by decide +kernel
theorem dX12_comesStretch_208 : decode cX12_comesStretch 208 = .ok (.iconst 1, 1) := by decide +kernel
theorem dX12_comesStretch_209 : decode cX12_comesStretch 209 = .ok (.iadd, 1) := by decide +kernel
theorem dX12_comesStretch_210 : decode cX12_comesStretch 210 = .ok (.aload_n 0, 1) := by decide +kernel
theorem dX12_comesStretch_211 : decode cX12_comesStretch 211 = .ok (.getfield 114, 3) := by decide +kernel
theorem dX12_comesStretch_214 : decode cX12_comesStretch 214 = .ok (.iastore, 1) := by decide +kernel
theorem dX12_comesStretch_215 : decode cX12_comesStretch 215 = .ok (.aload_n 0, 1) := by decide +kernel
theorem dX12_comesStretch_216 : decode cX12_comesStretch 216 = .ok (.dup, 1) := by decide +kernel
theorem dX12_comesStretch_217 : decode cX12_comesStretch 217 = .ok (.getfield 117, 3) := by decide +kernel
theorem dX12_comesStretch_220 : decode cX12_comesStretch 220 = .ok (.iconst 1, 1) := by decide +kernel
theorem dX12_comesStretch_221 : decode cX12_comesStretch 221 = .ok (.iadd, 1) := by decide +kernel
theorem dX12_comesStretch_222 : decode cX12_comesStretch 222 = .ok (.putfield 117, 3) := by decide +kernel
theorem dX12_comesStretch_225 : decode cX12_comesStretch 225 = .ok (.iinc 3 1, 3) := by decide +kernel
theorem dX12_comesStretch_228 : decode cX12_comesStretch 228 = .ok (.goto (-128), 3) := by decide +kernel
theorem dX12_comesStretch_231 : decode cX12_comesStretch 231 = .ok (.aload_n 0, 1) := by decide +kernel
theorem dX12_comesStretch_232 : decode cX12_comesStretch 232 = .ok (.dup, 1) := by decide +kernel
theorem dX12_comesStretch_233 : decode cX12_comesStretch 233 = .ok (.getfield 114, 3) := by decide +kernel
theorem dX12_comesStretch_236 : decode cX12_comesStretch 236 = .ok (.iconst 1, 1) := by decide +kernel
theorem dX12_comesStretch_237 : decode cX12_comesStretch 237 = .ok (.iadd, 1) := by decide +kernel
theorem dX12_comesStretch_238 : decode cX12_comesStretch 238 = .ok (.putfield 114, 3) := by decide +kernel
theorem dX12_comesStretch_241 : decode cX12_comesStretch 241 = .ok (.iconst 1, 1) := by decide +kernel
theorem dX12_comesStretch_242 : decode cX12_comesStretch 242 = .ok (.ireturn, 1) := by decide +kernel
theorem dX12_comesRock_0 : decode cX12_comesRock 0 = .ok (.aload_n 0, 1) := by decide +kernel
theorem dX12_comesRock_1 : decode cX12_comesRock 1 = .ok (.getfield 120, 3) := by decide +kernel
theorem dX12_comesRock_4 : decode cX12_comesRock 4 = .ok (.bipush 6, 2) := by decide +kernel
theorem dX12_comesRock_6 : decode cX12_comesRock 6 = .ok (.if_icmp .eq 22, 3) := by decide +kernel
theorem dX12_comesRock_9 : decode cX12_comesRock 9 = .ok (.aload_n 0, 1) := by decide +kernel
theorem dX12_comesRock_10 : decode cX12_comesRock 10 = .ok (.getfield 55, 3) := by decide +kernel
theorem dX12_comesRock_13 : decode cX12_comesRock 13 = .ok (.iload_n 1, 1) := by decide +kernel
theorem dX12_comesRock_14 : decode cX12_comesRock 14 = .ok (.iconst 4, 1) := by decide +kernel
theorem dX12_comesRock_15 : decode cX12_comesRock 15 = .ok (.iadd, 1) := by decide +kernel
theorem dX12_comesRock_16 : decode cX12_comesRock 16 = .ok (.iaload, 1) := by decide +kernel
theorem dX12_comesRock_17 : decode cX12_comesRock 17 = .ok (.aload_n 0, 1) := by decide +kernel
theorem dX12_comesRock_18 : decode cX12_comesRock 18 = .ok (.getfield 55, 3) := by decide +kernel
theorem dX12_comesRock_21 : decode cX12_comesRock 21 = .ok (.iload_n 1, 1) := by decide +kernel
theorem dX12_comesRock_22 : decode cX12_comesRock 22 = .ok (.iconst 5, 1) := by decide +kernel
theorem dX12_comesRock_23 : decode cX12_comesRock 23 = .ok (.iadd, 1) := by decide +kernel
theorem dX12_comesRock_24 : decode cX12_comesRock 24 = .ok (.iaload, 1) := by decide +kernel
theorem dX12_comesRock_25 : decode cX12_comesRock 25 = .ok (.if_icmp .le 5, 3) := by decide +kernel
theorem dX12_comesRock_28 : decode cX12_comesRock 28 = .ok (.iconst 0, 1) := by decide +kernel
theorem dX12_comesRock_29 : decode cX12_comesRock 29 = .ok (.ireturn, 1) := by decide +kernel
theorem dX12_comesRock_30 : decode cX12_comesRock 30 = .ok (.aload_n 0, 1) := by decide +kernel
theorem dX12_comesRock_31 : decode cX12_comesRock 31 = .ok (.getfield 34, 3) := by decide +kernel
theorem dX12_comesRock_34 : decode cX12_comesRock 34 = .ok (.aload_n 0, 1) := by decide +kernel
theorem dX12_comesRock_35 : decode cX12_comesRock 35 = .ok (.getfield 120, 3) := by decide +kernel
theorem dX12_comesRock_38 : decode cX12_comesRock 38 = .ok (.bipush 10, 2) := by decide +kernel
theorem dX12_comesRock_40 : decode cX12_comesRock 40 = .ok (.aload_n 0, 1) := by decide +kernel
theorem dX12_comesRock_41 : decode cX12_comesRock 41 = .ok (.getfield 55, 3) := by decide +kernel
theorem dX12_comesRock_44 : decode cX12_comesRock 44 = .ok (.iload_n 1, 1) := by decide +kernel
theorem dX12_comesRock_45 : decode cX12_comesRock 45 = .ok (.iaload, 1) := by decide +kernel
theorem dX12_comesRock_46 : decode cX12_comesRock 46 = .ok (.imul, 1) := by decide +kernel
theorem dX12_comesRock_47 : decode cX12_comesRock 47 = .ok (.aload_n 0, 1) := by decide +kernel
theorem dX12_comesRock_48 : decode cX12_comesRock 48 = .ok (.getfield 55, 3) := by decide +kernel
theorem dX12_comesRock_51 : decode cX12_comesRock 51 = .ok (.iload_n 1, 1) := by decide +kernel
theorem dX12_comesRock_52 : decode cX12_comesRock 52 = .ok (.iconst 1, 1) := by decide +kernel
theorem dX12_comesRock_53 : decode cX12_comesRock 53 = .ok (.iadd, 1) := by decide +kernel
theorem dX12_comesRock_54 : decode cX12_comesRock 54 = .ok (.iaload, 1) := by decide +kernel
theorem dX12_comesRock_55 : decode cX12_comesRock 55 = .ok (.iadd, 1) := by decide +kernel
theorem dX12_comesRock_56 : decode cX12_comesRock 56 = .ok (.iastore, 1) := by decide +kernel
theorem dX12_comesRock_57 : decode cX12_comesRock 57 = .ok (.aload_n 0, 1) := by decide +kernel
theorem dX12_comesRock_58 : decode cX12_comesRock 58 = .ok (.getfield 37, 3) := by decide +kernel
theorem dX12_comesRock_61 : decode cX12_comesRock 61 = .ok (.aload_n 0, 1) := by decide +kernel
theorem dX12_comesRock_62 : decode cX12_comesRock 62 = .ok (.getfield 120, 3) := by decide +kernel
theorem dX12_comesRock_65 : decode cX12_comesRock 65 = .ok (.bipush 10, 2) := by decide +kernel
theorem dX12_comesRock_67 : decode cX12_comesRock 67 = .ok (.aload_n 0, 1) := by decide +kernel
theorem dX12_comesRock_68 : decode cX12_comesRock 68 = .ok (.getfield 55, 3) := by decide +kernel
theorem dX12_comesRock_71 : decode cX12_comesRock 71 = .ok (.iload_n 1, 1) := by decide +kernel
theorem dX12_comesRock_72 : decode cX12_comesRock 72 = .ok (.iconst 2, 1) := by decide +kernel
theorem dX12_comesRock_73 : decode cX12_comesRock 73 = .ok (.iadd, 1) := by decide +kernel
theorem dX12_comesRock_74 : decode cX12_comesRock 74 = .ok (.iaload, 1) := by decide +kernel
theorem dX12_comesRock_75 : decode cX12_comesRock 75 = .ok (.imul, 1) := by decide +kernel
theorem dX12_comesRock_76 : decode cX12_comesRock 76 = .ok (.aload_n 0, 1) := by decide +kernel
theorem dX12_comesRock_77 : decode cX12_comesRock 77 = .ok (.getfield 55, 3) := by decide +kernel
theorem dX12_comesRock_80 : decode cX12_comesRock 80 = .ok (.iload_n 1, 1) := by decide +kernel
theorem dX12_comesRock_81 : decode cX12_comesRock 81 = .ok (.iconst 3, 1) := by decide +kernel
theorem dX12_comesRock_82 : decode cX12_comesRock 82 = .ok (.iadd, 1) := by decide +kernel
theorem dX12_comesRock_83 : decode cX12_comesRock 83 = .ok (.iaload, 1) := by decide +kernel
theorem dX12_comesRock_84 : decode cX12_comesRock 84 = .ok (.iadd, 1) := by decide +kernel
theorem dX12_comesRock_85 : decode cX12_comesRock 85 = .ok (.iastore, 1) := by decide +kernel
theorem dX12_comesRock_86 : decode cX12_comesRock 86 = .ok (.aload_n 0, 1) := by decide +kernel
theorem dX12_comesRock_87 : decode cX12_comesRock 87 = .ok (.getfield 40, 3) := by decide +kernel
theorem dX12_comesRock_90 : decode cX12_comesRock 90 = .ok (.aload_n 0, 1) := by decide +kernel
theorem dX12_comesRock_91 : decode cX12_comesRock 91 = .ok (.getfield 120, 3) := by decide +kernel
theorem dX12_comesRock_94 : decode cX12_comesRock 94 = .ok (.aload_n 0, 1) := by decide +kernel
theorem dX12_comesRock_95 : decode cX12_comesRock 95 = .ok (.getfield 55, 3) := by decide +kernel
theorem dX12_comesRock_98 : decode cX12_comesRock 98 = .ok (.iload_n 1, 1) := by decide +kernel
theorem dX12_comesRock_99 : decode cX12_comesRock 99 = .ok (.iconst 4, 1) := by decide +kernel
theorem dX12_comesRock_100 : decode cX12_comesRock 100 = .ok (.iadd, 1) := by decide +kernel
theorem dX12_comesRock_101 : decode cX12_comesRock 101 = .ok (.iaload, 1) := by decide +kernel
theorem dX12_comesRock_102 : decode cX12_comesRock 102 = .ok (.iastore, 1) := by decide +kernel
theorem dX12_comesRock_103 : decode cX12_comesRock 103 = .ok (.aload_n 0, 1) := by decide +kernel
theorem dX12_comesRock_104 : decode cX12_comesRock 104 = .ok (.getfield 43, 3) := by decide +kernel
theorem dX12_comesRock_107 : decode cX12_comesRock 107 = .ok (.aload_n 0, 1) := by decide +kernel
theorem dX12_comesRock_108 : decode cX12_comesRock 108 = .ok (.getfield 120, 3) := by decide +kernel
theorem dX12_comesRock_111 : decode cX12_comesRock 111 = .ok (.aload_n 0, 1) := by decide +kernel
theorem dX12_comesRock_112 : decode cX12_comesRock 112 = .ok (.getfield 55, 3) := by decide +kernel
theorem dX12_comesRock_115 : decode cX12_comesRock 115 = .ok (.iload_n 1, 1) := by decide +kernel
theorem dX12_comesRock_116 : decode cX12_comesRock 116 = .ok (.iconst 5, 1) := by decide +kernel
theorem dX12_comesRock_117 : decode cX12_comesRock 117 = .ok (.iadd, 1) := by decide +kernel
theorem dX12_comesRock_118 : decode cX12_comesRock 118 = .ok (.iaload, 1) := by decide +kernel
theorem dX12_comesRock_119 : decode cX12_comesRock 119 = .ok (.iastore, 1) := by decide +kernel
theorem dX12_comesRock_120 : decode cX12_comesRock 120 = .ok (.aload_n 0, 1) := by decide +kernel
theorem dX12_comesRock_121 : decode cX12_comesRock 121 = .ok (.dup, 1) := by decide +kernel
theorem dX12_comesRock_122 : decode cX12_comesRock 122 = .ok (.getfield 120, 3) := by decide +kernel
theorem dX12_comesRock_125 : decode cX12_comesRock 125 = .ok (.iconst 1, 1) := by decide +kernel
theorem dX12_comesRock_126 : decode cX12_comesRock 126 = .ok (.iadd, 1) := by decide +kernel
theorem dX12_comesRock_127 : decode cX12_comesRock 127 = .ok (.putfield 120, 3) := by decide +kernel
theorem dX12_comesRock_130 : decode cX12_comesRock 130 = .ok (.iconst 1, 1) := by decide +kernel
theorem dX12_comesRock_131 : decode cX12_comesRock 131 = .ok (.ireturn, 1) := by decide +kernel
theorem dX12_comes_0 : decode cX12_comes 0 = .ok (.bipush 16, 2) := by decide +kernel
theorem dX12_comes_2 : decode cX12_comes 2 = .ok (.iload_n 1, 1) := by decide +kernel
theorem dX12_comes_3 : decode cX12_comes 3 = .ok (.imul, 1) := by decide +kernel
theorem dX12_comes_4 : decode cX12_comes 4 = .ok (.istore_n 2, 1) := by decide +kernel
theorem dX12_comes_5 : decode cX12_comes 5 = .ok (.aload_n 0, 1) := by decide +kernel
theorem dX12_comes_6 : decode cX12_comes 6 = .ok (.getfield 49, 3) := by decide +kernel
theorem dX12_comes_9 : decode cX12_comes 9 = .ok (.iload_n 1, 1) := by decide +kernel
theorem dX12_comes_10 : decode cX12_comes 10 = .ok (.iaload, 1) := by decide +kernel
theorem dX12_comes_11 : decode cX12_comes 11 = .ok (.bipush 99, 2) := by decide +kernel
theorem dX12_comes_13 : decode cX12_comes 13 = .ok (.if_icmp .ne 9, 3) := by decide +kernel
theorem dX12_comes_16 : decode cX12_comes 16 = .ok (.aload_n 0, 1) := by decide +kernel
theorem dX12_comes_17 : decode cX12_comes 17 = .ok (.iload_n 2, 1) := by decide +kernel
theorem dX12_comes_18 : decode cX12_comes 18 = .ok (.invokevirtual 123, 3) := by decide +kernel
theorem dX12_comes_21 : decode cX12_comes 21 = .ok (.ireturn, 1) := by decide +kernel
theorem dX12_comes_22 : decode cX12_comes 22 = .ok (.aload_n 0, 1) := by decide +kernel
theorem dX12_comes_23 : decode cX12_comes 23 = .ok (.getfield 49, 3) := by decide +kernel
theorem dX12_comes_26 : decode cX12_comes 26 = .ok (.iload_n 1, 1) := by decide +kernel
theorem dX12_comes_27 : decode cX12_comes 27 = .ok (.iaload, 1) := by decide +kernel
theorem dX12_comes_28 : decode cX12_comes 28 = .ok (.bipush 114, 2) := by decide +kernel
theorem dX12_comes_30 : decode cX12_comes 30 = .ok (.if_icmp .ne 9, 3) := by decide +kernel
theorem dX12_comes_33 : decode cX12_comes 33 = .ok (.aload_n 0, 1) := by decide +kernel
theorem dX12_comes_34 : decode cX12_comes 34 = .ok (.iload_n 2, 1) := by decide +kernel
theorem dX12_comes_35 : decode cX12_comes 35 = .ok (.invokevirtual 126, 3) := by decide +kernel
theorem dX12_comes_38 : decode cX12_comes 38 = .ok (.ireturn, 1) := by decide +kernel
theorem dX12_comes_39 : decode cX12_comes 39 = .ok (.aload_n 0, 1) := by decide +kernel
theorem dX12_comes_40 : decode cX12_comes 40 = .ok (.aload_n 0, 1) := by decide +kernel
theorem dX12_comes_41 : decode cX12_comes 41 = .ok (.getfield 55, 3) := by decide +kernel
theorem dX12_comes_44 : decode cX12_comes 44 = .ok (.iload_n 2, 1) := by decide +kernel
theorem dX12_comes_45 : decode cX12_comes 45 = .ok (.iaload, 1) := by decide +kernel
theorem dX12_comes_46 : decode cX12_comes 46 = .ok (.putfield 129, 3) := by decide +kernel
theorem dX12_comes_49 : decode cX12_comes 49 = .ok (.iconst 1, 1) := by decide +kernel
theorem dX12_comes_50 : decode cX12_comes 50 = .ok (.ireturn, 1) := by decide +kernel
theorem dX12_coast_0 : decode cX12_coast 0 = .ok (.aload_n 0, 1) := by decide +kernel
theorem dX12_coast_1 : decode cX12_coast 1 = .ok (.iconst 0, 1) := by decide +kernel
theorem dX12_coast_2 : decode cX12_coast 2 = .ok (.putfield 89, 3) := by decide +kernel
theorem dX12_coast_5 : decode cX12_coast 5 = .ok (.aload_n 0, 1) := by decide +kernel
theorem dX12_coast_6 : decode cX12_coast 6 = .ok (.iconst 0, 1) := by decide +kernel
theorem dX12_coast_7 : decode cX12_coast 7 = .ok (.putfield 107, 3) := by decide +kernel
theorem dX12_coast_10 : decode cX12_coast 10 = .ok (.iconst 1, 1) := by decide +kernel
theorem dX12_coast_11 : decode cX12_coast 11 = .ok (.istore_n 1, 1) := by decide +kernel
theorem dX12_coast_12 : decode cX12_coast 12 = .ok (.iload_n 1, 1) := by decide +kernel
theorem dX12_coast_13 : decode cX12_coast 13 = .ok (.ifCond .eq 47, 3) := by decide +kernel
theorem dX12_coast_16 : decode cX12_coast 16 = .ok (.aload_n 0, 1) := by decide +kernel
theorem dX12_coast_17 : decode cX12_coast 17 = .ok (.getfield 89, 3) := by decide +kernel
theorem dX12_coast_20 : decode cX12_coast 20 = .ok (.aload_n 0, 1) := by decide +kernel
theorem dX12_coast_21 : decode cX12_coast 21 = .ok (.getfield 81, 3) := by decide +kernel
theorem dX12_coast_24 : decode cX12_coast 24 = .ok (.if_icmp .lt 10, 3) := by decide +kernel
theorem dX12_coast_27 : decode cX12_coast 27 = .ok (.aload_n 0, 1) := by decide +kernel
theorem dX12_coast_28 : decode cX12_coast 28 = .ok (.getfield 107, 3) := by decide +kernel
theorem dX12_coast_31 : decode cX12_coast 31 = .ok (.ifCond .ne 29, 3) := by decide +kernel
theorem dX12_coast_34 : decode cX12_coast 34 = .ok (.aload_n 0, 1) := by decide +kernel
theorem dX12_coast_35 : decode cX12_coast 35 = .ok (.invokevirtual 132, 3) := by decide +kernel
theorem dX12_coast_38 : decode cX12_coast 38 = .ok (.istore_n 1, 1) := by decide +kernel
theorem dX12_coast_39 : decode cX12_coast 39 = .ok (.aload_n 0, 1) := by decide +kernel
theorem dX12_coast_40 : decode cX12_coast 40 = .ok (.dup, 1) := by decide +kernel
theorem dX12_coast_41 : decode cX12_coast 41 = .ok (.getfield 107, 3) := by decide +kernel
theorem dX12_coast_44 : decode cX12_coast 44 = .ok (.iload_n 1, 1) := by decide +kernel
theorem dX12_coast_45 : decode cX12_coast 45 = .ok (.ifCond .eq 7, 3) := by decide +kernel
theorem dX12_coast_48 : decode cX12_coast 48 = .ok (.iconst 1, 1) := by decide +kernel
theorem dX12_coast_49 : decode cX12_coast 49 = .ok (.goto 4, 3) := by decide +kernel
theorem dX12_coast_52 : decode cX12_coast 52 = .ok (.iconst 0, 1) := by decide +kernel
theorem dX12_coast_53 : decode cX12_coast 53 = .ok (.iadd, 1) := by decide +kernel
theorem dX12_coast_54 : decode cX12_coast 54 = .ok (.putfield 107, 3) := by decide +kernel
theorem dX12_coast_57 : decode cX12_coast 57 = .ok (.goto (-45), 3) := by decide +kernel
theorem dX12_coast_60 : decode cX12_coast 60 = .ok (.aload_n 0, 1) := by decide +kernel
theorem dX12_coast_61 : decode cX12_coast 61 = .ok (.iconst 0, 1) := by decide +kernel
theorem dX12_coast_62 : decode cX12_coast 62 = .ok (.putfield 81, 3) := by decide +kernel
theorem dX12_coast_65 : decode cX12_coast 65 = .ok (.iload_n 1, 1) := by decide +kernel
theorem dX12_coast_66 : decode cX12_coast 66 = .ok (.ifCond .ne 12, 3) := by decide +kernel
theorem dX12_coast_69 : decode cX12_coast 69 = .ok (.sipush (-1000), 3) := by decide +kernel
theorem dX12_coast_72 : decode cX12_coast 72 = .ok (.aload_n 0, 1) := by decide +kernel
theorem dX12_coast_73 : decode cX12_coast 73 = .ok (.getfield 89, 3) := by decide +kernel
theorem dX12_coast_76 : decode cX12_coast 76 = .ok (.isub, 1) := by decide +kernel
theorem dX12_coast_77 : decode cX12_coast 77 = .ok (.ireturn, 1) := by decide +kernel
theorem dX12_coast_78 : decode cX12_coast 78 = .ok (.aload_n 0, 1) := by decide +kernel
theorem dX12_coast_79 : decode cX12_coast 79 = .ok (.iconst 1, 1) := by decide +kernel
theorem dX12_coast_80 : decode cX12_coast 80 = .ok (.iconst 1, 1) := by decide +kernel
theorem dX12_coast_81 : decode cX12_coast 81 = .ok (.invokevirtual 136, 3) := by decide +kernel
theorem dX12_coast_84 : decode cX12_coast 84 = .ok (.iconst 0, 1) := by decide +kernel
theorem dX12_coast_85 : decode cX12_coast 85 = .ok (.istore_n 2, 1) := by decide +kernel
theorem dX12_coast_86 : decode cX12_coast 86 = .ok (.iload_n 2, 1) := by decide +kernel
theorem dX12_coast_87 : decode cX12_coast 87 = .ok (.aload_n 0, 1) := by decide +kernel
theorem dX12_coast_88 : decode cX12_coast 88 = .ok (.getfield 107, 3) := by decide +kernel
theorem dX12_coast_91 : decode cX12_coast 91 = .ok (.if_icmp .ge 37, 3) := by decide +kernel
theorem dX12_coast_94 : decode cX12_coast 94 = .ok (.aload_n 0, 1) := by decide +kernel
theorem dX12_coast_95 : decode cX12_coast 95 = .ok (.iload_n 2, 1) := by decide +kernel
theorem dX12_coast_96 : decode cX12_coast 96 = .ok (.invokevirtual 140, 3) := by decide +kernel
theorem dX12_coast_99 : decode cX12_coast 99 = .ok (.ifCond .eq 6, 3) := by decide +kernel
theorem dX12_coast_102 : decode cX12_coast 102 = .ok (.goto 20, 3) := by decide +kernel
theorem dX12_coast_105 : decode cX12_coast 105 = .ok (.aload_n 0, 1) := by decide +kernel
theorem dX12_coast_106 : decode cX12_coast 106 = .ok (.iconst 1, 1) := by decide +kernel
theorem dX12_coast_107 : decode cX12_coast 107 = .ok (.iconst 0, 1) := by decide +kernel
theorem dX12_coast_108 : decode cX12_coast 108 = .ok (.invokevirtual 136, 3) := by decide +kernel
theorem dX12_coast_111 : decode cX12_coast 111 = .ok (.sipush (-2000), 3) := by decide +kernel
theorem dX12_coast_114 : decode cX12_coast 114 = .ok (.aload_n 0, 1) := by decide +kernel
theorem dX12_coast_115 : decode cX12_coast 115 = .ok (.getfield 52, 3) := by decide +kernel
theorem dX12_coast_118 : decode cX12_coast 118 = .ok (.iload_n 2, 1) := by decide +kernel
theorem dX12_coast_119 : decode cX12_coast 119 = .ok (.iaload, 1) := by decide +kernel
theorem dX12_coast_120 : decode cX12_coast 120 = .ok (.isub, 1) := by decide +kernel
theorem dX12_coast_121 : decode cX12_coast 121 = .ok (.ireturn, 1) := by decide +kernel
theorem dX12_coast_122 : decode cX12_coast 122 = .ok (.iinc 2 1, 3) := by decide +kernel
theorem dX12_coast_125 : decode cX12_coast 125 = .ok (.goto (-39), 3) := by decide +kernel
theorem dX12_coast_128 : decode cX12_coast 128 = .ok (.aload_n 0, 1) := by decide +kernel
theorem dX12_coast_129 : decode cX12_coast 129 = .ok (.getfield 107, 3) := by decide +kernel
theorem dX12_coast_132 : decode cX12_coast 132 = .ok (.ireturn, 1) := by decide +kernel
theorem dX12_passes_0 : decode cX12_passes 0 = .ok (.iconst 0, 1) := by decide +kernel
theorem dX12_passes_1 : decode cX12_passes 1 = .ok (.istore_n 2, 1) := by decide +kernel
theorem dX12_passes_2 : decode cX12_passes 2 = .ok (.iload_n 2, 1) := by decide +kernel
theorem dX12_passes_3 : decode cX12_passes 3 = .ok (.aload_n 1, 1) := by decide +kernel
theorem dX12_passes_4 : decode cX12_passes 4 = .ok (.arraylength, 1) := by decide +kernel
theorem dX12_passes_5 : decode cX12_passes 5 = .ok (.if_icmp .ge 53, 3) := by decide +kernel
theorem dX12_passes_8 : decode cX12_passes 8 = .ok (.aload_n 0, 1) := by decide +kernel
theorem dX12_passes_9 : decode cX12_passes 9 = .ok (.getfield 143, 3) := by decide +kernel
theorem dX12_passes_12 : decode cX12_passes 12 = .ok (.ifCond .eq 18, 3) := by decide +kernel
theorem dX12_passes_15 : decode cX12_passes 15 = .ok (.aload_n 0, 1) := by decide +kernel
theorem dX12_passes_16 : decode cX12_passes 16 = .ok (.getfield 58, 3) := by decide +kernel
theorem dX12_passes_19 : decode cX12_passes 19 = .ok (.aload_n 0, 1) := by decide +kernel
theorem dX12_passes_20 : decode cX12_passes 20 = .ok (.getfield 147, 3) := by decide +kernel
theorem dX12_passes_23 : decode cX12_passes 23 = .ok (.aload_n 1, 1) := by decide +kernel
theorem dX12_passes_24 : decode cX12_passes 24 = .ok (.iload_n 2, 1) := by decide +kernel
theorem dX12_passes_25 : decode cX12_passes 25 = .ok (.iaload, 1) := by decide +kernel
theorem dX12_passes_26 : decode cX12_passes 26 = .ok (.iastore, 1) := by decide +kernel
theorem dX12_passes_27 : decode cX12_passes 27 = .ok (.goto 15, 3) := by decide +kernel
theorem dX12_passes_30 : decode cX12_passes 30 = .ok (.aload_n 1, 1) := by decide +kernel
theorem dX12_passes_31 : decode cX12_passes 31 = .ok (.iload_n 2, 1) := by decide +kernel
theorem dX12_passes_32 : decode cX12_passes 32 = .ok (.aload_n 0, 1) := by decide +kernel
theorem dX12_passes_33 : decode cX12_passes 33 = .ok (.getfield 58, 3) := by decide +kernel
theorem dX12_passes_36 : decode cX12_passes 36 = .ok (.aload_n 0, 1) := by decide +kernel
theorem dX12_passes_37 : decode cX12_passes 37 = .ok (.getfield 147, 3) := by decide +kernel
theorem dX12_passes_40 : decode cX12_passes 40 = .ok (.iaload, 1) := by decide +kernel
theorem dX12_passes_41 : decode cX12_passes 41 = .ok (.iastore, 1) := by decide +kernel
theorem dX12_passes_42 : decode cX12_passes 42 = .ok (.aload_n 0, 1) := by decide +kernel
theorem dX12_passes_43 : decode cX12_passes 43 = .ok (.dup, 1) := by decide +kernel
theorem dX12_passes_44 : decode cX12_passes 44 = .ok (.getfield 147, 3) := by decide +kernel
theorem dX12_passes_47 : decode cX12_passes 47 = .ok (.iconst 1, 1) := by decide +kernel
theorem dX12_passes_48 : decode cX12_passes 48 = .ok (.iadd, 1) := by decide +kernel
theorem dX12_passes_49 : decode cX12_passes 49 = .ok (.putfield 147, 3) := by decide +kernel
theorem dX12_passes_52 : decode cX12_passes 52 = .ok (.iinc 2 1, 3) := by decide +kernel
theorem dX12_passes_55 : decode cX12_passes 55 = .ok (.goto (-53), 3) := by decide +kernel
theorem dX12_passes_58 : decode cX12_passes 58 = .ok (.return_, 1) := by decide +kernel
theorem dX12_passOne_0 : decode cX12_passOne 0 = .ok (.aload_n 0, 1) := by decide +kernel
theorem dX12_passOne_1 : decode cX12_passOne 1 = .ok (.getfield 143, 3) := by decide +kernel
theorem dX12_passOne_4 : decode cX12_passOne 4 = .ok (.ifCond .eq 7, 3) := by decide +kernel
theorem dX12_passOne_7 : decode cX12_passOne 7 = .ok (.iload_n 1, 1) := by decide +kernel
theorem dX12_passOne_8 : decode cX12_passOne 8 = .ok (.goto 12, 3) := by decide +kernel
theorem dX12_passOne_11 : decode cX12_passOne 11 = .ok (.aload_n 0, 1) := by decide +kernel
theorem dX12_passOne_12 : decode cX12_passOne 12 = .ok (.getfield 58, 3) := by decide +kernel
theorem dX12_passOne_15 : decode cX12_passOne 15 = .ok (.aload_n 0, 1) := by decide +kernel
theorem dX12_passOne_16 : decode cX12_passOne 16 = .ok (.getfield 147, 3) := by decide +kernel
theorem dX12_passOne_19 : decode cX12_passOne 19 = .ok (.iaload, 1) := by decide +kernel
theorem dX12_passOne_20 : decode cX12_passOne 20 = .ok (.istore_n 2, 1) := by decide +kernel
theorem dX12_passOne_21 : decode cX12_passOne 21 = .ok (.aload_n 0, 1) := by decide +kernel
theorem dX12_passOne_22 : decode cX12_passOne 22 = .ok (.getfield 143, 3) := by decide +kernel
theorem dX12_passOne_25 : decode cX12_passOne 25 = .ok (.ifCond .eq 13, 3) := by decide +kernel
theorem dX12_passOne_28 : decode cX12_passOne 28 = .ok (.aload_n 0, 1) := by decide +kernel
theorem dX12_passOne_29 : decode cX12_passOne 29 = .ok (.getfield 58, 3) := by decide +kernel
theorem dX12_passOne_32 : decode cX12_passOne 32 = .ok (.aload_n 0, 1) := by decide +kernel
theorem dX12_passOne_33 : decode cX12_passOne 33 = .ok (.getfield 147, 3) := by decide +kernel
theorem dX12_passOne_36 : decode cX12_passOne 36 = .ok (.iload_n 1, 1) := by decide +kernel
theorem dX12_passOne_37 : decode cX12_passOne 37 = .ok (.iastore, 1) := by decide +kernel
theorem dX12_passOne_38 : decode cX12_passOne 38 = .ok (.aload_n 0, 1) := by decide +kernel
theorem dX12_passOne_39 : decode cX12_passOne 39 = .ok (.dup, 1) := by decide +kernel
theorem dX12_passOne_40 : decode cX12_passOne 40 = .ok (.getfield 147, 3) := by decide +kernel
theorem dX12_passOne_43 : decode cX12_passOne 43 = .ok (.iconst 1, 1) := by decide +kernel
theorem dX12_passOne_44 : decode cX12_passOne 44 = .ok (.iadd, 1) := by decide +kernel
theorem dX12_passOne_45 : decode cX12_passOne 45 = .ok (.putfield 147, 3) := by decide +kernel
theorem dX12_passOne_48 : decode cX12_passOne 48 = .ok (.iload_n 2, 1) := by decide +kernel
theorem dX12_passOne_49 : decode cX12_passOne 49 = .ok (.ireturn, 1) := by decide +kernel
theorem dX12_passesAll_0 : decode cX12_passesAll 0 = .ok (.aload_n 0, 1) := by decide +kernel
theorem dX12_passesAll_1 : decode cX12_passesAll 1 = .ok (.sipush 220, 3) := by decide +kernel
theorem dX12_passesAll_4 : decode cX12_passesAll 4 = .ok (.iload_n 1, 1) := by decide +kernel
theorem dX12_passesAll_5 : decode cX12_passesAll 5 = .ok (.imul, 1) := by decide +kernel
theorem dX12_passesAll_6 : decode cX12_passesAll 6 = .ok (.putfield 147, 3) := by decide +kernel
theorem dX12_passesAll_9 : decode cX12_passesAll 9 = .ok (.aload_n 0, 1) := by decide +kernel
theorem dX12_passesAll_10 : decode cX12_passesAll 10 = .ok (.iload_n 2, 1) := by decide +kernel
theorem dX12_passesAll_11 : decode cX12_passesAll 11 = .ok (.putfield 143, 3) := by decide +kernel
theorem dX12_passesAll_14 : decode cX12_passesAll 14 = .ok (.aload_n 0, 1) := by decide +kernel
theorem dX12_passesAll_15 : decode cX12_passesAll 15 = .ok (.aload_n 0, 1) := by decide +kernel
theorem dX12_passesAll_16 : decode cX12_passesAll 16 = .ok (.getfield 13, 3) := by decide +kernel
theorem dX12_passesAll_19 : decode cX12_passesAll 19 = .ok (.invokevirtual 150, 3) := by decide +kernel
theorem dX12_passesAll_22 : decode cX12_passesAll 22 = .ok (.aload_n 0, 1) := by decide +kernel
theorem dX12_passesAll_23 : decode cX12_passesAll 23 = .ok (.aload_n 0, 1) := by decide +kernel
theorem dX12_passesAll_24 : decode cX12_passesAll 24 = .ok (.getfield 16, 3) := by decide +kernel
theorem dX12_passesAll_27 : decode cX12_passesAll 27 = .ok (.invokevirtual 150, 3) := by decide +kernel
theorem dX12_passesAll_30 : decode cX12_passesAll 30 = .ok (.aload_n 0, 1) := by decide +kernel
theorem dX12_passesAll_31 : decode cX12_passesAll 31 = .ok (.aload_n 0, 1) := by decide +kernel
theorem dX12_passesAll_32 : decode cX12_passesAll 32 = .ok (.getfield 19, 3) := by decide +kernel
theorem dX12_passesAll_35 : decode cX12_passesAll 35 = .ok (.invokevirtual 150, 3) := by decide +kernel
theorem dX12_passesAll_38 : decode cX12_passesAll 38 = .ok (.aload_n 0, 1) := by decide +kernel
theorem dX12_passesAll_39 : decode cX12_passesAll 39 = .ok (.aload_n 0, 1) := by decide +kernel
theorem dX12_passesAll_40 : decode cX12_passesAll 40 = .ok (.getfield 22, 3) := by decide +kernel
theorem dX12_passesAll_43 : decode cX12_passesAll 43 = .ok (.invokevirtual 150, 3) := by decide +kernel
theorem dX12_passesAll_46 : decode cX12_passesAll 46 = .ok (.aload_n 0, 1) := by decide +kernel
theorem dX12_passesAll_47 : decode cX12_passesAll 47 = .ok (.aload_n 0, 1) := by decide +kernel
theorem dX12_passesAll_48 : decode cX12_passesAll 48 = .ok (.getfield 25, 3) := by decide +kernel
theorem dX12_passesAll_51 : decode cX12_passesAll 51 = .ok (.invokevirtual 150, 3) := by decide +kernel
theorem dX12_passesAll_54 : decode cX12_passesAll 54 = .ok (.aload_n 0, 1) := by decide +kernel
theorem dX12_passesAll_55 : decode cX12_passesAll 55 = .ok (.aload_n 0, 1) := by decide +kernel
theorem dX12_passesAll_56 : decode cX12_passesAll 56 = .ok (.getfield 28, 3) := by decide +kernel
theorem dX12_passesAll_59 : decode cX12_passesAll 59 = .ok (.invokevirtual 150, 3) := by decide +kernel
theorem dX12_passesAll_62 : decode cX12_passesAll 62 = .ok (.aload_n 0, 1) := by decide +kernel
theorem dX12_passesAll_63 : decode cX12_passesAll 63 = .ok (.aload_n 0, 1) := by decide +kernel
theorem dX12_passesAll_64 : decode cX12_passesAll 64 = .ok (.getfield 31, 3) := by decide +kernel
theorem dX12_passesAll_67 : decode cX12_passesAll 67 = .ok (.invokevirtual 150, 3) := by decide +kernel
theorem dX12_passesAll_70 : decode cX12_passesAll 70 = .ok (.aload_n 0, 1) := by decide +kernel
theorem dX12_passesAll_71 : decode cX12_passesAll 71 = .ok (.aload_n 0, 1) := by decide +kernel
theorem dX12_passesAll_72 : decode cX12_passesAll 72 = .ok (.getfield 34, 3) := by decide +kernel
theorem dX12_passesAll_75 : decode cX12_passesAll 75 = .ok (.invokevirtual 150, 3) := by decide +kernel
theorem dX12_passesAll_78 : decode cX12_passesAll 78 = .ok (.aload_n 0, 1) := by decide +kernel
theorem dX12_passesAll_79 : decode cX12_passesAll 79 = .ok (.aload_n 0, 1) := by decide +kernel
theorem dX12_passesAll_80 : decode cX12_passesAll 80 = .ok (.getfield 37, 3) := by decide +kernel
theorem dX12_passesAll_83 : decode cX12_passesAll 83 = .ok (.invokevirtual 150, 3) := by decide +kernel
theorem dX12_passesAll_86 : decode cX12_passesAll 86 = .ok (.aload_n 0, 1) := by decide +kernel
theorem dX12_passesAll_87 : decode cX12_passesAll 87 = .ok (.aload_n 0, 1) := by decide +kernel
theorem dX12_passesAll_88 : decode cX12_passesAll 88 = .ok (.getfield 40, 3) := by decide +kernel
theorem dX12_passesAll_91 : decode cX12_passesAll 91 = .ok (.invokevirtual 150, 3) := by decide +kernel
theorem dX12_passesAll_94 : decode cX12_passesAll 94 = .ok (.aload_n 0, 1) := by decide +kernel
theorem dX12_passesAll_95 : decode cX12_passesAll 95 = .ok (.aload_n 0, 1) := by decide +kernel
theorem dX12_passesAll_96 : decode cX12_passesAll 96 = .ok (.getfield 43, 3) := by decide +kernel
theorem dX12_passesAll_99 : decode cX12_passesAll 99 = .ok (.invokevirtual 150, 3) := by decide +kernel
theorem dX12_passesAll_102 : decode cX12_passesAll 102 = .ok (.aload_n 0, 1) := by decide +kernel
theorem dX12_passesAll_103 : decode cX12_passesAll 103 = .ok (.aload_n 0, 1) := by decide +kernel
theorem dX12_passesAll_104 : decode cX12_passesAll 104 = .ok (.aload_n 0, 1) := by decide +kernel
theorem dX12_passesAll_105 : decode cX12_passesAll 105 = .ok (.getfield 114, 3) := by decide +kernel
theorem dX12_passesAll_108 : decode cX12_passesAll 108 = .ok (.invokevirtual 154, 3) := by decide +kernel
theorem dX12_passesAll_111 : decode cX12_passesAll 111 = .ok (.putfield 114, 3) := by decide +kernel
theorem dX12_passesAll_114 : decode cX12_passesAll 114 = .ok (.aload_n 0, 1) := by decide +kernel
theorem dX12_passesAll_115 : decode cX12_passesAll 115 = .ok (.aload_n 0, 1) := by decide +kernel
theorem dX12_passesAll_116 : decode cX12_passesAll 116 = .ok (.aload_n 0, 1) := by decide +kernel
theorem dX12_passesAll_117 : decode cX12_passesAll 117 = .ok (.getfield 117, 3) := by decide +kernel
theorem dX12_passesAll_120 : decode cX12_passesAll 120 = .ok (.invokevirtual 154, 3) := by decide +kernel
theorem dX12_passesAll_123 : decode cX12_passesAll 123 = .ok (.putfield 117, 3) := by decide +kernel
theorem dX12_passesAll_126 : decode cX12_passesAll 126 = .ok (.aload_n 0, 1) := by decide +kernel
theorem dX12_passesAll_127 : decode cX12_passesAll 127 = .ok (.aload_n 0, 1) := by decide +kernel
theorem dX12_passesAll_128 : decode cX12_passesAll 128 = .ok (.aload_n 0, 1) := by decide +kernel
theorem dX12_passesAll_129 : decode cX12_passesAll 129 = .ok (.getfield 120, 3) := by decide +kernel
theorem dX12_passesAll_132 : decode cX12_passesAll 132 = .ok (.invokevirtual 154, 3) := by decide +kernel
theorem dX12_passesAll_135 : decode cX12_passesAll 135 = .ok (.putfield 120, 3) := by decide +kernel
theorem dX12_passesAll_138 : decode cX12_passesAll 138 = .ok (.aload_n 0, 1) := by decide +kernel
theorem dX12_passesAll_139 : decode cX12_passesAll 139 = .ok (.aload_n 0, 1) := by decide +kernel
theorem dX12_passesAll_140 : decode cX12_passesAll 140 = .ok (.aload_n 0, 1) := by decide +kernel
theorem dX12_passesAll_141 : decode cX12_passesAll 141 = .ok (.getfield 129, 3) := by decide +kernel
theorem dX12_passesAll_144 : decode cX12_passesAll 144 = .ok (.invokevirtual 154, 3) := by decide +kernel
theorem dX12_passesAll_147 : decode cX12_passesAll 147 = .ok (.putfield 129, 3) := by decide +kernel
theorem dX12_passesAll_150 : decode cX12_passesAll 150 = .ok (.return_, 1) := by decide +kernel
theorem dX12_image_0 : decode cX12_image 0 = .ok (.aload_n 0, 1) := by decide +kernel
theorem dX12_image_1 : decode cX12_image 1 = .ok (.iconst 1, 1) := by decide +kernel
theorem dX12_image_2 : decode cX12_image 2 = .ok (.putfield 157, 3) := by decide +kernel
theorem dX12_image_5 : decode cX12_image 5 = .ok (.aload_n 0, 1) := by decide +kernel
theorem dX12_image_6 : decode cX12_image 6 = .ok (.iconst 0, 1) := by decide +kernel
theorem dX12_image_7 : decode cX12_image 7 = .ok (.iconst 1, 1) := by decide +kernel
theorem dX12_image_8 : decode cX12_image 8 = .ok (.invokevirtual 136, 3) := by decide +kernel
theorem dX12_image_11 : decode cX12_image 11 = .ok (.aload_n 0, 1) := by decide +kernel
theorem dX12_image_12 : decode cX12_image 12 = .ok (.getfield 117, 3) := by decide +kernel
theorem dX12_image_15 : decode cX12_image 15 = .ok (.ireturn, 1) := by decide +kernel
theorem dX12_restore_0 : decode cX12_restore 0 = .ok (.aload_n 0, 1) := by decide +kernel
theorem dX12_restore_1 : decode cX12_restore 1 = .ok (.getfield 157, 3) := by decide +kernel
theorem dX12_restore_4 : decode cX12_restore 4 = .ok (.ifCond .ne 10, 3) := by decide +kernel
theorem dX12_restore_7 : decode cX12_restore 7 = .ok (.aload_n 0, 1) := by decide +kernel
theorem dX12_restore_8 : decode cX12_restore 8 = .ok (.bipush (-3), 2) := by decide +kernel
theorem dX12_restore_10 : decode cX12_restore 10 = .ok (.invokevirtual 85, 3) := by decide +kernel
theorem dX12_restore_13 : decode cX12_restore 13 = .ok (.ireturn, 1) := by decide +kernel
theorem dX12_restore_14 : decode cX12_restore 14 = .ok (.aload_n 0, 1) := by decide +kernel
theorem dX12_restore_15 : decode cX12_restore 15 = .ok (.iconst 0, 1) := by decide +kernel
theorem dX12_restore_16 : decode cX12_restore 16 = .ok (.iconst 0, 1) := by decide +kernel
theorem dX12_restore_17 : decode cX12_restore 17 = .ok (.invokevirtual 136, 3) := by decide +kernel
theorem dX12_restore_20 : decode cX12_restore 20 = .ok (.aload_n 0, 1) := by decide +kernel
theorem dX12_restore_21 : decode cX12_restore 21 = .ok (.getfield 117, 3) := by decide +kernel
theorem dX12_restore_24 : decode cX12_restore 24 = .ok (.ireturn, 1) := by decide +kernel
theorem dX12_isDry_0 : decode cX12_isDry 0 = .ok (.aload_n 0, 1) := by decide +kernel
theorem dX12_isDry_1 : decode cX12_isDry 1 = .ok (.getfield 129, 3) := by decide +kernel
theorem dX12_isDry_4 : decode cX12_isDry 4 = .ok (.aload_n 0, 1) := by decide +kernel
theorem dX12_isDry_5 : decode cX12_isDry 5 = .ok (.getfield 16, 3) := by decide +kernel
theorem dX12_isDry_8 : decode cX12_isDry 8 = .ok (.iload_n 1, 1) := by decide +kernel
theorem dX12_isDry_9 : decode cX12_isDry 9 = .ok (.iaload, 1) := by decide +kernel
theorem dX12_isDry_10 : decode cX12_isDry 10 = .ok (.if_icmp .gt 7, 3) := by decide +kernel
theorem dX12_isDry_13 : decode cX12_isDry 13 = .ok (.iconst 1, 1) := by decide +kernel
theorem dX12_isDry_14 : decode cX12_isDry 14 = .ok (.goto 4, 3) := by decide +kernel
theorem dX12_isDry_17 : decode cX12_isDry 17 = .ok (.iconst 0, 1) := by decide +kernel
theorem dX12_isDry_18 : decode cX12_isDry 18 = .ok (.istore_n 2, 1) := by decide +kernel
theorem dX12_isDry_19 : decode cX12_isDry 19 = .ok (.aload_n 0, 1) := by decide +kernel
theorem dX12_isDry_20 : decode cX12_isDry 20 = .ok (.getfield 13, 3) := by decide +kernel
theorem dX12_isDry_23 : decode cX12_isDry 23 = .ok (.iload_n 1, 1) := by decide +kernel
theorem dX12_isDry_24 : decode cX12_isDry 24 = .ok (.iaload, 1) := by decide +kernel
theorem dX12_isDry_25 : decode cX12_isDry 25 = .ok (.tableswitch 77 1 5 #[35, 37, 77, 39, 58], 35) := by decide +kernel
theorem dX12_isDry_60 : decode cX12_isDry 60 = .ok (.iload_n 2, 1) := by decide +kernel
theorem dX12_isDry_61 : decode cX12_isDry 61 = .ok (.ireturn, 1) := by decide +kernel
theorem dX12_isDry_62 : decode cX12_isDry 62 = .ok (.iconst 0, 1) := by decide +kernel
theorem dX12_isDry_63 : decode cX12_isDry 63 = .ok (.ireturn, 1) := by decide +kernel
theorem dX12_isDry_64 : decode cX12_isDry 64 = .ok (.iload_n 2, 1) := by decide +kernel
theorem dX12_isDry_65 : decode cX12_isDry 65 = .ok (.ifCond .eq 16, 3) := by decide +kernel
theorem dX12_isDry_68 : decode cX12_isDry 68 = .ok (.aload_n 0, 1) := by decide +kernel
theorem dX12_isDry_69 : decode cX12_isDry 69 = .ok (.getfield 129, 3) := by decide +kernel
theorem dX12_isDry_72 : decode cX12_isDry 72 = .ok (.iconst 2, 1) := by decide +kernel
theorem dX12_isDry_73 : decode cX12_isDry 73 = .ok (.irem, 1) := by decide +kernel
theorem dX12_isDry_74 : decode cX12_isDry 74 = .ok (.ifCond .ne 7, 3) := by decide +kernel
theorem dX12_isDry_77 : decode cX12_isDry 77 = .ok (.iconst 1, 1) := by decide +kernel
theorem dX12_isDry_78 : decode cX12_isDry 78 = .ok (.goto 4, 3) := by decide +kernel
theorem dX12_isDry_81 : decode cX12_isDry 81 = .ok (.iconst 0, 1) := by decide +kernel
theorem dX12_isDry_82 : decode cX12_isDry 82 = .ok (.ireturn, 1) := by decide +kernel
theorem dX12_isDry_83 : decode cX12_isDry 83 = .ok (.aload_n 0, 1) := by decide +kernel
theorem dX12_isDry_84 : decode cX12_isDry 84 = .ok (.getfield 129, 3) := by decide +kernel
theorem dX12_isDry_87 : decode cX12_isDry 87 = .ok (.aload_n 0, 1) := by decide +kernel
theorem dX12_isDry_88 : decode cX12_isDry 88 = .ok (.getfield 16, 3) := by decide +kernel
theorem dX12_isDry_91 : decode cX12_isDry 91 = .ok (.iload_n 1, 1) := by decide +kernel
theorem dX12_isDry_92 : decode cX12_isDry 92 = .ok (.iaload, 1) := by decide +kernel
theorem dX12_isDry_93 : decode cX12_isDry 93 = .ok (.if_icmp .eq 7, 3) := by decide +kernel
theorem dX12_isDry_96 : decode cX12_isDry 96 = .ok (.iconst 1, 1) := by decide +kernel
theorem dX12_isDry_97 : decode cX12_isDry 97 = .ok (.goto 4, 3) := by decide +kernel
theorem dX12_isDry_100 : decode cX12_isDry 100 = .ok (.iconst 0, 1) := by decide +kernel
theorem dX12_isDry_101 : decode cX12_isDry 101 = .ok (.ireturn, 1) := by decide +kernel
theorem dX12_isDry_102 : decode cX12_isDry 102 = .ok (.iconst 1, 1) := by decide +kernel
theorem dX12_isDry_103 : decode cX12_isDry 103 = .ok (.ireturn, 1) := by decide +kernel
theorem dX12_feeOf_0 : decode cX12_feeOf 0 = .ok (.aload_n 0, 1) := by decide +kernel
theorem dX12_feeOf_1 : decode cX12_feeOf 1 = .ok (.getfield 13, 3) := by decide +kernel
theorem dX12_feeOf_4 : decode cX12_feeOf 4 = .ok (.iload_n 1, 1) := by decide +kernel
theorem dX12_feeOf_5 : decode cX12_feeOf 5 = .ok (.iaload, 1) := by decide +kernel
theorem dX12_feeOf_6 : decode cX12_feeOf 6 = .ok (.tableswitch 56 1 5 #[34, 36, 38, 47, 49], 34) := by decide +kernel
theorem dX12_feeOf_40 : decode cX12_feeOf 40 = .ok (.iconst 2, 1) := by decide +kernel
theorem dX12_feeOf_41 : decode cX12_feeOf 41 = .ok (.ireturn, 1) := by decide +kernel
theorem dX12_feeOf_42 : decode cX12_feeOf 42 = .ok (.iconst 0, 1) := by decide +kernel
theorem dX12_feeOf_43 : decode cX12_feeOf 43 = .ok (.ireturn, 1) := by decide +kernel
theorem dX12_feeOf_44 : decode cX12_feeOf 44 = .ok (.iconst 1, 1) := by decide +kernel
theorem dX12_feeOf_45 : decode cX12_feeOf 45 = .ok (.aload_n 0, 1) := by decide +kernel
theorem dX12_feeOf_46 : decode cX12_feeOf 46 = .ok (.getfield 16, 3) := by decide +kernel
theorem dX12_feeOf_49 : decode cX12_feeOf 49 = .ok (.iload_n 1, 1) := by decide +kernel
theorem dX12_feeOf_50 : decode cX12_feeOf 50 = .ok (.iaload, 1) := by decide +kernel
theorem dX12_feeOf_51 : decode cX12_feeOf 51 = .ok (.iadd, 1) := by decide +kernel
theorem dX12_feeOf_52 : decode cX12_feeOf 52 = .ok (.ireturn, 1) := by decide +kernel
theorem dX12_feeOf_53 : decode cX12_feeOf 53 = .ok (.iconst 4, 1) := by decide +kernel
theorem dX12_feeOf_54 : decode cX12_feeOf 54 = .ok (.ireturn, 1) := by decide +kernel
theorem dX12_feeOf_55 : decode cX12_feeOf 55 = .ok (.aload_n 0, 1) := by decide +kernel
theorem dX12_feeOf_56 : decode cX12_feeOf 56 = .ok (.getfield 16, 3) := by decide +kernel
theorem dX12_feeOf_59 : decode cX12_feeOf 59 = .ok (.iload_n 1, 1) := by decide +kernel
theorem dX12_feeOf_60 : decode cX12_feeOf 60 = .ok (.iaload, 1) := by decide +kernel
theorem dX12_feeOf_61 : decode cX12_feeOf 61 = .ok (.ireturn, 1) := by decide +kernel
theorem dX12_feeOf_62 : decode cX12_feeOf 62 = .ok (.iconst 1, 1) := by decide +kernel
theorem dX12_feeOf_63 : decode cX12_feeOf 63 = .ok (.ireturn, 1) := by decide +kernel
theorem dX12_isStretch_0 : decode cX12_isStretch 0 = .ok (.iload_n 1, 1) := by decide +kernel
theorem dX12_isStretch_1 : decode cX12_isStretch 1 = .ok (.ifCond .lt 15, 3) := by decide +kernel
theorem dX12_isStretch_4 : decode cX12_isStretch 4 = .ok (.iload_n 1, 1) := by decide +kernel
theorem dX12_isStretch_5 : decode cX12_isStretch 5 = .ok (.aload_n 0, 1) := by decide +kernel
theorem dX12_isStretch_6 : decode cX12_isStretch 6 = .ok (.getfield 114, 3) := by decide +kernel
theorem dX12_isStretch_9 : decode cX12_isStretch 9 = .ok (.if_icmp .ge 7, 3) := by decide +kernel
theorem dX12_isStretch_12 : decode cX12_isStretch 12 = .ok (.iconst 1, 1) := by decide +kernel
theorem dX12_isStretch_13 : decode cX12_isStretch 13 = .ok (.goto 4, 3) := by decide +kernel
theorem dX12_isStretch_16 : decode cX12_isStretch 16 = .ok (.iconst 0, 1) := by decide +kernel
theorem dX12_isStretch_17 : decode cX12_isStretch 17 = .ok (.ireturn, 1) := by decide +kernel
theorem dX12_isPlace_0 : decode cX12_isPlace 0 = .ok (.iload_n 1, 1) := by decide +kernel
theorem dX12_isPlace_1 : decode cX12_isPlace 1 = .ok (.ifCond .lt 15, 3) := by decide +kernel
theorem dX12_isPlace_4 : decode cX12_isPlace 4 = .ok (.iload_n 1, 1) := by decide +kernel
theorem dX12_isPlace_5 : decode cX12_isPlace 5 = .ok (.aload_n 0, 1) := by decide +kernel
theorem dX12_isPlace_6 : decode cX12_isPlace 6 = .ok (.getfield 117, 3) := by decide +kernel
theorem dX12_isPlace_9 : decode cX12_isPlace 9 = .ok (.if_icmp .gt 7, 3) := by decide +kernel
theorem dX12_isPlace_12 : decode cX12_isPlace 12 = .ok (.iconst 1, 1) := by decide +kernel
theorem dX12_isPlace_13 : decode cX12_isPlace 13 = .ok (.goto 4, 3) := by decide +kernel
theorem dX12_isPlace_16 : decode cX12_isPlace 16 = .ok (.iconst 0, 1) := by decide +kernel
theorem dX12_isPlace_17 : decode cX12_isPlace 17 = .ok (.ireturn, 1) := by decide +kernel
theorem dX12_stretch_0 : decode cX12_stretch 0 = .ok (.aload_n 0, 1) := by decide +kernel
theorem dX12_stretch_1 : decode cX12_stretch 1 = .ok (.iload_n 1, 1) := by decide +kernel
theorem dX12_stretch_2 : decode cX12_stretch 2 = .ok (.invokevirtual 160, 3) := by decide +kernel
theorem dX12_stretch_5 : decode cX12_stretch 5 = .ok (.ifCond .ne 9, 3) := by decide +kernel
theorem dX12_stretch_8 : decode cX12_stretch 8 = .ok (.aload_n 0, 1) := by decide +kernel
theorem dX12_stretch_9 : decode cX12_stretch 9 = .ok (.iconst (-1), 1) := by decide +kernel
theorem dX12_stretch_10 : decode cX12_stretch 10 = .ok (.invokevirtual 85, 3) := by decide +kernel
theorem dX12_stretch_13 : decode cX12_stretch 13 = .ok (.ireturn, 1) := by decide +kernel
theorem dX12_stretch_14 : decode cX12_stretch 14 = .ok (.iload_n 2, 1) := by decide +kernel
theorem dX12_stretch_15 : decode cX12_stretch 15 = .ok (.tableswitch 85 0 5 #[37, 44, 51, 58, 65, 79], 37) := by decide +kernel
theorem dX12_stretch_52 : decode cX12_stretch 52 = .ok (.aload_n 0, 1) := by decide +kernel
theorem dX12_stretch_53 : decode cX12_stretch 53 = .ok (.getfield 13, 3) := by decide +kernel
theorem dX12_stretch_56 : decode cX12_stretch 56 = .ok (.iload_n 1, 1) := by decide +kernel
theorem dX12_stretch_57 : decode cX12_stretch 57 = .ok (.iaload, 1) := by decide +kernel
theorem dX12_stretch_58 : decode cX12_stretch 58 = .ok (.ireturn, 1) := by decide +kernel
theorem dX12_stretch_59 : decode cX12_stretch 59 = .ok (.aload_n 0, 1) := by decide +kernel
theorem dX12_stretch_60 : decode cX12_stretch 60 = .ok (.getfield 16, 3) := by decide +kernel
theorem dX12_stretch_63 : decode cX12_stretch 63 = .ok (.iload_n 1, 1) := by decide +kernel
theorem dX12_stretch_64 : decode cX12_stretch 64 = .ok (.iaload, 1) := by decide +kernel
theorem dX12_stretch_65 : decode cX12_stretch 65 = .ok (.ireturn, 1) := by decide +kernel
theorem dX12_stretch_66 : decode cX12_stretch 66 = .ok (.aload_n 0, 1) := by decide +kernel
theorem dX12_stretch_67 : decode cX12_stretch 67 = .ok (.getfield 22, 3) := by decide +kernel
theorem dX12_stretch_70 : decode cX12_stretch 70 = .ok (.iload_n 1, 1) := by decide +kernel
theorem dX12_stretch_71 : decode cX12_stretch 71 = .ok (.iaload, 1) := by decide +kernel
theorem dX12_stretch_72 : decode cX12_stretch 72 = .ok (.ireturn, 1) := by decide +kernel
theorem dX12_stretch_73 : decode cX12_stretch 73 = .ok (.aload_n 0, 1) := by decide +kernel
theorem dX12_stretch_74 : decode cX12_stretch 74 = .ok (.getfield 19, 3) := by decide +kernel
theorem dX12_stretch_77 : decode cX12_stretch 77 = .ok (.iload_n 1, 1) := by decide +kernel
theorem dX12_stretch_78 : decode cX12_stretch 78 = .ok (.iaload, 1) := by decide +kernel
theorem dX12_stretch_79 : decode cX12_stretch 79 = .ok (.ireturn, 1) := by decide +kernel
theorem dX12_stretch_80 : decode cX12_stretch 80 = .ok (.aload_n 0, 1) := by decide +kernel
theorem dX12_stretch_81 : decode cX12_stretch 81 = .ok (.iload_n 1, 1) := by decide +kernel
theorem dX12_stretch_82 : decode cX12_stretch 82 = .ok (.invokevirtual 163, 3) := by decide +kernel
theorem dX12_stretch_85 : decode cX12_stretch 85 = .ok (.ifCond .eq 7, 3) := by decide +kernel
theorem dX12_stretch_88 : decode cX12_stretch 88 = .ok (.iconst 1, 1) := by decide +kernel
theorem dX12_stretch_89 : decode cX12_stretch 89 = .ok (.goto 4, 3) := by decide +kernel
theorem dX12_stretch_92 : decode cX12_stretch 92 = .ok (.iconst 0, 1) := by decide +kernel
theorem dX12_stretch_93 : decode cX12_stretch 93 = .ok (.ireturn, 1) := by decide +kernel
theorem dX12_stretch_94 : decode cX12_stretch 94 = .ok (.aload_n 0, 1) := by decide +kernel
theorem dX12_stretch_95 : decode cX12_stretch 95 = .ok (.iload_n 1, 1) := by decide +kernel
theorem dX12_stretch_96 : decode cX12_stretch 96 = .ok (.invokevirtual 166, 3) := by decide +kernel
theorem dX12_stretch_99 : decode cX12_stretch 99 = .ok (.ireturn, 1) := by decide +kernel
theorem dX12_stretch_100 : decode cX12_stretch 100 = .ok (.aload_n 0, 1) := by decide +kernel
theorem dX12_stretch_101 : decode cX12_stretch 101 = .ok (.bipush (-2), 2) := by decide +kernel
theorem dX12_stretch_103 : decode cX12_stretch 103 = .ok (.invokevirtual 85, 3) := by decide +kernel
theorem dX12_stretch_106 : decode cX12_stretch 106 = .ok (.ireturn, 1) := by decide +kernel
theorem dX12_point_0 : decode cX12_point 0 = .ok (.aload_n 0, 1) := by decide +kernel
theorem dX12_point_1 : decode cX12_point 1 = .ok (.iload_n 1, 1) := by decide +kernel
theorem dX12_point_2 : decode cX12_point 2 = .ok (.invokevirtual 169, 3) := by decide +kernel
theorem dX12_point_5 : decode cX12_point 5 = .ok (.ifCond .ne 9, 3) := by decide +kernel
theorem dX12_point_8 : decode cX12_point 8 = .ok (.aload_n 0, 1) := by decide +kernel
theorem dX12_point_9 : decode cX12_point 9 = .ok (.iconst (-1), 1) := by decide +kernel
theorem dX12_point_10 : decode cX12_point 10 = .ok (.invokevirtual 172, 3) := by decide +kernel
theorem dX12_point_13 : decode cX12_point 13 = .ok (.ireturn, 1) := by decide +kernel
theorem dX12_point_14 : decode cX12_point 14 = .ok (.iload_n 2, 1) := by decide +kernel
theorem dX12_point_15 : decode cX12_point 15 = .ok (.iconst 0, 1) := by decide +kernel
theorem dX12_point_16 : decode cX12_point 16 = .ok (.iconst 1, 1) := by decide +kernel
theorem dX12_point_17 : decode cX12_point 17 = .ok (.invokestatic 96, 3) := by decide +kernel
theorem dX12_point_20 : decode cX12_point 20 = .ok (.ifCond .ne 10, 3) := by decide +kernel
theorem dX12_point_23 : decode cX12_point 23 = .ok (.aload_n 0, 1) := by decide +kernel
theorem dX12_point_24 : decode cX12_point 24 = .ok (.bipush (-2), 2) := by decide +kernel
theorem dX12_point_26 : decode cX12_point 26 = .ok (.invokevirtual 172, 3) := by decide +kernel
theorem dX12_point_29 : decode cX12_point 29 = .ok (.ireturn, 1) := by decide +kernel
theorem dX12_point_30 : decode cX12_point 30 = .ok (.iload_n 2, 1) := by decide +kernel
theorem dX12_point_31 : decode cX12_point 31 = .ok (.ifCond .ne 12, 3) := by decide +kernel
theorem dX12_point_34 : decode cX12_point 34 = .ok (.aload_n 0, 1) := by decide +kernel
theorem dX12_point_35 : decode cX12_point 35 = .ok (.getfield 25, 3) := by decide +kernel
theorem dX12_point_38 : decode cX12_point 38 = .ok (.iload_n 1, 1) := by decide +kernel
theorem dX12_point_39 : decode cX12_point 39 = .ok (.iaload, 1) := by decide +kernel
theorem dX12_point_40 : decode cX12_point 40 = .ok (.goto 9, 3) := by decide +kernel
theorem dX12_point_43 : decode cX12_point 43 = .ok (.aload_n 0, 1) := by decide +kernel
theorem dX12_point_44 : decode cX12_point 44 = .ok (.getfield 28, 3) := by decide +kernel
theorem dX12_point_47 : decode cX12_point 47 = .ok (.iload_n 1, 1) := by decide +kernel
theorem dX12_point_48 : decode cX12_point 48 = .ok (.iaload, 1) := by decide +kernel
theorem dX12_point_49 : decode cX12_point 49 = .ok (.ireturn, 1) := by decide +kernel
theorem dX12_tide_0 : decode cX12_tide 0 = .ok (.iload_n 1, 1) := by decide +kernel
theorem dX12_tide_1 : decode cX12_tide 1 = .ok (.iconst 0, 1) := by decide +kernel
theorem dX12_tide_2 : decode cX12_tide 2 = .ok (.bipush 9, 2) := by decide +kernel
theorem dX12_tide_4 : decode cX12_tide 4 = .ok (.invokestatic 77, 3) := by decide +kernel
theorem dX12_tide_7 : decode cX12_tide 7 = .ok (.istore_n 2, 1) := by decide +kernel
theorem dX12_tide_8 : decode cX12_tide 8 = .ok (.iload_n 2, 1) := by decide +kernel
theorem dX12_tide_9 : decode cX12_tide 9 = .ok (.ifCond .eq 9, 3) := by decide +kernel
theorem dX12_tide_12 : decode cX12_tide 12 = .ok (.aload_n 0, 1) := by decide +kernel
theorem dX12_tide_13 : decode cX12_tide 13 = .ok (.iload_n 2, 1) := by decide +kernel
theorem dX12_tide_14 : decode cX12_tide 14 = .ok (.invokevirtual 85, 3) := by decide +kernel
theorem dX12_tide_17 : decode cX12_tide 17 = .ok (.ireturn, 1) := by decide +kernel
theorem dX12_tide_18 : decode cX12_tide 18 = .ok (.aload_n 0, 1) := by decide +kernel
theorem dX12_tide_19 : decode cX12_tide 19 = .ok (.getfield 129, 3) := by decide +kernel
theorem dX12_tide_22 : decode cX12_tide 22 = .ok (.istore_n 3, 1) := by decide +kernel
theorem dX12_tide_23 : decode cX12_tide 23 = .ok (.aload_n 0, 1) := by decide +kernel
theorem dX12_tide_24 : decode cX12_tide 24 = .ok (.iload_n 1, 1) := by decide +kernel
theorem dX12_tide_25 : decode cX12_tide 25 = .ok (.putfield 129, 3) := by decide +kernel
theorem dX12_tide_28 : decode cX12_tide 28 = .ok (.iload_n 3, 1) := by decide +kernel
theorem dX12_tide_29 : decode cX12_tide 29 = .ok (.ireturn, 1) := by decide +kernel
theorem dX12_findShore_0 : decode cX12_findShore 0 = .ok (.aload_n 0, 1) := by decide +kernel
theorem dX12_findShore_1 : decode cX12_findShore 1 = .ok (.iconst 0, 1) := by decide +kernel
theorem dX12_findShore_2 : decode cX12_findShore 2 = .ok (.putfield 175, 3) := by decide +kernel
theorem dX12_findShore_5 : decode cX12_findShore 5 = .ok (.iconst 0, 1) := by decide +kernel
theorem dX12_findShore_6 : decode cX12_findShore 6 = .ok (.istore_n 3, 1) := by decide +kernel
theorem dX12_findShore_7 : decode cX12_findShore 7 = .ok (.iconst 0, 1) := by decide +kernel
theorem dX12_findShore_8 : decode cX12_findShore 8 = .ok (.istore 4, 2) := by decide +kernel
theorem dX12_findShore_10 : decode cX12_findShore 10 = .ok (.iload 4, 2) := by decide +kernel
theorem dX12_findShore_12 : decode cX12_findShore 12 = .ok (.aload_n 0, 1) := by decide +kernel
theorem dX12_findShore_13 : decode cX12_findShore 13 = .ok (.getfield 117, 3) := by decide +kernel
theorem dX12_findShore_16 : decode cX12_findShore 16 = .ok (.if_icmp .gt 72, 3) := by decide +kernel
theorem dX12_findShore_19 : decode cX12_findShore 19 = .ok (.iload 4, 2) := by decide +kernel
theorem dX12_findShore_21 : decode cX12_findShore 21 = .ok (.ifCond .le 31, 3) := by decide +kernel
theorem dX12_findShore_24 : decode cX12_findShore 24 = .ok (.aload_n 0, 1) := by decide +kernel
theorem dX12_findShore_25 : decode cX12_findShore 25 = .ok (.aload_n 0, 1) := by decide +kernel
theorem dX12_findShore_26 : decode cX12_findShore 26 = .ok (.getfield 31, 3) := by decide +kernel
theorem dX12_findShore_29 : decode cX12_findShore 29 = .ok (.iload 4, 2) := by decide +kernel
theorem dX12_findShore_31 : decode cX12_findShore 31 = .ok (.iaload, 1) := by decide +kernel
theorem dX12_findShore_32 : decode cX12_findShore 32 = .ok (.invokevirtual 163, 3) := by decide +kernel
theorem dX12_findShore_35 : decode cX12_findShore 35 = .ok (.ifCond .eq 47, 3) := by decide +kernel
theorem dX12_findShore_38 : decode cX12_findShore 38 = .ok (.aload_n 0, 1) := by decide +kernel
theorem dX12_findShore_39 : decode cX12_findShore 39 = .ok (.getfield 31, 3) := by decide +kernel
theorem dX12_findShore_42 : decode cX12_findShore 42 = .ok (.iload 4, 2) := by decide +kernel
theorem dX12_findShore_44 : decode cX12_findShore 44 = .ok (.iaload, 1) := by decide +kernel
theorem dX12_findShore_45 : decode cX12_findShore 45 = .ok (.iload_n 1, 1) := by decide +kernel
theorem dX12_findShore_46 : decode cX12_findShore 46 = .ok (.if_icmp .ne 6, 3) := by decide +kernel
theorem dX12_findShore_49 : decode cX12_findShore 49 = .ok (.goto 33, 3) := by decide +kernel
theorem dX12_findShore_52 : decode cX12_findShore 52 = .ok (.iload_n 3, 1) := by decide +kernel
theorem dX12_findShore_53 : decode cX12_findShore 53 = .ok (.iload_n 2, 1) := by decide +kernel
theorem dX12_findShore_54 : decode cX12_findShore 54 = .ok (.irem, 1) := by decide +kernel
theorem dX12_findShore_55 : decode cX12_findShore 55 = .ok (.ifCond .ne 24, 3) := by decide +kernel
theorem dX12_findShore_58 : decode cX12_findShore 58 = .ok (.aload_n 0, 1) := by decide +kernel
theorem dX12_findShore_59 : decode cX12_findShore 59 = .ok (.getfield 61, 3) := by decide +kernel
theorem dX12_findShore_62 : decode cX12_findShore 62 = .ok (.aload_n 0, 1) := by decide +kernel
theorem dX12_findShore_63 : decode cX12_findShore 63 = .ok (.getfield 175, 3) := by decide +kernel
theorem dX12_findShore_66 : decode cX12_findShore 66 = .ok (.iload 4, 2) := by decide +kernel
theorem dX12_findShore_68 : decode cX12_findShore 68 = .ok (.iastore, 1) := by decide +kernel
theorem dX12_findShore_69 : decode cX12_findShore 69 = .ok (.aload_n 0, 1) := by decide +kernel
theorem dX12_findShore_70 : decode cX12_findShore 70 = .ok (.dup, 1) := by decide +kernel
theorem dX12_findShore_71 : decode cX12_findShore 71 = .ok (.getfield 175, 3) := by decide +kernel
theorem dX12_findShore_74 : decode cX12_findShore 74 = .ok (.iconst 1, 1) := by decide +kernel
theorem dX12_findShore_75 : decode cX12_findShore 75 = .ok (.iadd, 1) := by decide +kernel
theorem dX12_findShore_76 : decode cX12_findShore 76 = .ok (.putfield 175, 3) := by decide +kernel
theorem dX12_findShore_79 : decode cX12_findShore 79 = .ok (.iinc 3 1, 3) := by decide +kernel
theorem dX12_findShore_82 : decode cX12_findShore 82 = .ok (.iinc 4 1, 3) := by decide +kernel
theorem dX12_findShore_85 : decode cX12_findShore 85 = .ok (.goto (-75), 3) := by decide +kernel
theorem dX12_findShore_88 : decode cX12_findShore 88 = .ok (.return_, 1) := by decide +kernel
theorem dX12_isFar_0 : decode cX12_isFar 0 = .ok (.aload_n 0, 1) := by decide +kernel
theorem dX12_isFar_1 : decode cX12_isFar 1 = .ok (.getfield 25, 3) := by decide +kernel
theorem dX12_isFar_4 : decode cX12_isFar 4 = .ok (.iload_n 1, 1) := by decide +kernel
theorem dX12_isFar_5 : decode cX12_isFar 5 = .ok (.iaload, 1) := by decide +kernel
theorem dX12_isFar_6 : decode cX12_isFar 6 = .ok (.aload_n 0, 1) := by decide +kernel
theorem dX12_isFar_7 : decode cX12_isFar 7 = .ok (.getfield 25, 3) := by decide +kernel
theorem dX12_isFar_10 : decode cX12_isFar 10 = .ok (.iload_n 2, 1) := by decide +kernel
theorem dX12_isFar_11 : decode cX12_isFar 11 = .ok (.iaload, 1) := by decide +kernel
theorem dX12_isFar_12 : decode cX12_isFar 12 = .ok (.isub, 1) := by decide +kernel
theorem dX12_isFar_13 : decode cX12_isFar 13 = .ok (.istore 4, 2) := by decide +kernel
theorem dX12_isFar_15 : decode cX12_isFar 15 = .ok (.aload_n 0, 1) := by decide +kernel
theorem dX12_isFar_16 : decode cX12_isFar 16 = .ok (.getfield 28, 3) := by decide +kernel
theorem dX12_isFar_19 : decode cX12_isFar 19 = .ok (.iload_n 1, 1) := by decide +kernel
theorem dX12_isFar_20 : decode cX12_isFar 20 = .ok (.iaload, 1) := by decide +kernel
theorem dX12_isFar_21 : decode cX12_isFar 21 = .ok (.aload_n 0, 1) := by decide +kernel
theorem dX12_isFar_22 : decode cX12_isFar 22 = .ok (.getfield 28, 3) := by decide +kernel
theorem dX12_isFar_25 : decode cX12_isFar 25 = .ok (.iload_n 2, 1) := by decide +kernel
theorem dX12_isFar_26 : decode cX12_isFar 26 = .ok (.iaload, 1) := by decide +kernel
theorem dX12_isFar_27 : decode cX12_isFar 27 = .ok (.isub, 1) := by decide +kernel
theorem dX12_isFar_28 : decode cX12_isFar 28 = .ok (.istore 5, 2) := by decide +kernel
theorem dX12_isFar_30 : decode cX12_isFar 30 = .ok (.iload 4, 2) := by decide +kernel
theorem dX12_isFar_32 : decode cX12_isFar 32 = .ok (.iload 4, 2) := by decide +kernel
theorem dX12_isFar_34 : decode cX12_isFar 34 = .ok (.imul, 1) := by decide +kernel
theorem dX12_isFar_35 : decode cX12_isFar 35 = .ok (.iload 5, 2) := by decide +kernel
theorem dX12_isFar_37 : decode cX12_isFar 37 = .ok (.iload 5, 2) := by decide +kernel
theorem dX12_isFar_39 : decode cX12_isFar 39 = .ok (.imul, 1) := by decide +kernel
theorem dX12_isFar_40 : decode cX12_isFar 40 = .ok (.iadd, 1) := by decide +kernel
theorem dX12_isFar_41 : decode cX12_isFar 41 = .ok (.iload_n 3, 1) := by decide +kernel
theorem dX12_isFar_42 : decode cX12_isFar 42 = .ok (.iload_n 3, 1) := by decide +kernel
theorem dX12_isFar_43 : decode cX12_isFar 43 = .ok (.imul, 1) := by decide +kernel
theorem dX12_isFar_44 : decode cX12_isFar 44 = .ok (.if_icmp .lt 7, 3) := by decide +kernel
theorem dX12_isFar_47 : decode cX12_isFar 47 = .ok (.iconst 1, 1) := by decide +kernel
theorem dX12_isFar_48 : decode cX12_isFar 48 = .ok (.goto 4, 3) := by decide +kernel
theorem dX12_isFar_51 : decode cX12_isFar 51 = .ok (.iconst 0, 1) := by decide +kernel
theorem dX12_isFar_52 : decode cX12_isFar 52 = .ok (.ireturn, 1) := by decide +kernel
theorem dX12_walks_0 : decode cX12_walks 0 = .ok (.aload_n 0, 1) := by decide +kernel
theorem dX12_walks_1 : decode cX12_walks 1 = .ok (.iconst 0, 1) := by decide +kernel
theorem dX12_walks_2 : decode cX12_walks 2 = .ok (.putfield 178, 3) := by decide +kernel
theorem dX12_walks_5 : decode cX12_walks 5 = .ok (.iconst 0, 1) := by decide +kernel
theorem dX12_walks_6 : decode cX12_walks 6 = .ok (.istore_n 3, 1) := by decide +kernel
theorem dX12_walks_7 : decode cX12_walks 7 = .ok (.iload_n 3, 1) := by decide +kernel
theorem dX12_walks_8 : decode cX12_walks 8 = .ok (.aload_n 0, 1) := by decide +kernel
theorem dX12_walks_9 : decode cX12_walks 9 = .ok (.getfield 175, 3) := by decide +kernel
theorem dX12_walks_12 : decode cX12_walks 12 = .ok (.if_icmp .ge 78, 3) := by decide +kernel
theorem dX12_walks_15 : decode cX12_walks 15 = .ok (.aload_n 0, 1) := by decide +kernel
theorem dX12_walks_16 : decode cX12_walks 16 = .ok (.getfield 61, 3) := by decide +kernel
theorem dX12_walks_19 : decode cX12_walks 19 = .ok (.iload_n 3, 1) := by decide +kernel
theorem dX12_walks_20 : decode cX12_walks 20 = .ok (.iaload, 1) := by decide +kernel
theorem dX12_walks_21 : decode cX12_walks 21 = .ok (.istore 4, 2) := by decide +kernel
theorem dX12_walks_23 : decode cX12_walks 23 = .ok (.aload_n 0, 1) := by decide +kernel
theorem dX12_walks_24 : decode cX12_walks 24 = .ok (.getfield 178, 3) := by decide +kernel
theorem dX12_walks_27 : decode cX12_walks 27 = .ok (.ifCond .ne 12, 3) := by decide +kernel
theorem dX12_walks_30 : decode cX12_walks 30 = .ok (.iload 4, 2) := by decide +kernel
theorem dX12_walks_32 : decode cX12_walks 32 = .ok (.iload_n 2, 1) := by decide +kernel
theorem dX12_walks_33 : decode cX12_walks 33 = .ok (.if_icmp .ge 30, 3) := by decide +kernel
theorem dX12_walks_36 : decode cX12_walks 36 = .ok (.goto 48, 3) := by decide +kernel
theorem dX12_walks_39 : decode cX12_walks 39 = .ok (.aload_n 0, 1) := by decide +kernel
theorem dX12_walks_40 : decode cX12_walks 40 = .ok (.aload_n 0, 1) := by decide +kernel
theorem dX12_walks_41 : decode cX12_walks 41 = .ok (.getfield 64, 3) := by decide +kernel
theorem dX12_walks_44 : decode cX12_walks 44 = .ok (.aload_n 0, 1) := by decide +kernel
theorem dX12_walks_45 : decode cX12_walks 45 = .ok (.getfield 178, 3) := by decide +kernel
theorem dX12_walks_48 : decode cX12_walks 48 = .ok (.iconst 1, 1) := by decide +kernel
theorem dX12_walks_49 : decode cX12_walks 49 = .ok (.isub, 1) := by decide +kernel
theorem dX12_walks_50 : decode cX12_walks 50 = .ok (.iaload, 1) := by decide +kernel
theorem dX12_walks_51 : decode cX12_walks 51 = .ok (.iload 4, 2) := by decide +kernel
theorem dX12_walks_53 : decode cX12_walks 53 = .ok (.iload_n 1, 1) := by decide +kernel
theorem dX12_walks_54 : decode cX12_walks 54 = .ok (.invokevirtual 181, 3) := by decide +kernel
theorem dX12_walks_57 : decode cX12_walks 57 = .ok (.ifCond .ne 6, 3) := by decide +kernel
theorem dX12_walks_60 : decode cX12_walks 60 = .ok (.goto 24, 3) := by decide +kernel
theorem dX12_walks_63 : decode cX12_walks 63 = .ok (.aload_n 0, 1) := by decide +kernel
theorem dX12_walks_64 : decode cX12_walks 64 = .ok (.getfield 64, 3) := by decide +kernel
theorem dX12_walks_67 : decode cX12_walks 67 = .ok (.aload_n 0, 1) := by decide +kernel
theorem dX12_walks_68 : decode cX12_walks 68 = .ok (.getfield 178, 3) := by decide +kernel
theorem dX12_walks_71 : decode cX12_walks 71 = .ok (.iload 4, 2) := by decide +kernel
theorem dX12_walks_73 : decode cX12_walks 73 = .ok (.iastore, 1) := by decide +kernel
theorem dX12_walks_74 : decode cX12_walks 74 = .ok (.aload_n 0, 1) := by decide +kernel
theorem dX12_walks_75 : decode cX12_walks 75 = .ok (.dup, 1) := by decide +kernel
theorem dX12_walks_76 : decode cX12_walks 76 = .ok (.getfield 178, 3) := by decide +kernel
theorem dX12_walks_79 : decode cX12_walks 79 = .ok (.iconst 1, 1) := by decide +kernel
theorem dX12_walks_80 : decode cX12_walks 80 = .ok (.iadd, 1) := by decide +kernel
theorem dX12_walks_81 : decode cX12_walks 81 = .ok (.putfield 178, 3) := by decide +kernel
theorem dX12_walks_84 : decode cX12_walks 84 = .ok (.iinc 3 1, 3) := by decide +kernel
theorem dX12_walks_87 : decode cX12_walks 87 = .ok (.goto (-80), 3) := by decide +kernel
theorem dX12_walks_90 : decode cX12_walks 90 = .ok (.aload_n 0, 1) := by decide +kernel
theorem dX12_walks_91 : decode cX12_walks 91 = .ok (.getfield 178, 3) := by decide +kernel
theorem dX12_walks_94 : decode cX12_walks 94 = .ok (.ifCond .ne 7, 3) := by decide +kernel
theorem dX12_walks_97 : decode cX12_walks 97 = .ok (.iconst 0, 1) := by decide +kernel
theorem dX12_walks_98 : decode cX12_walks 98 = .ok (.goto 9, 3) := by decide +kernel
theorem dX12_walks_101 : decode cX12_walks 101 = .ok (.aload_n 0, 1) := by decide +kernel
theorem dX12_walks_102 : decode cX12_walks 102 = .ok (.getfield 178, 3) := by decide +kernel
theorem dX12_walks_105 : decode cX12_walks 105 = .ok (.iconst 1, 1) := by decide +kernel
theorem dX12_walks_106 : decode cX12_walks 106 = .ok (.isub, 1) := by decide +kernel
theorem dX12_walks_107 : decode cX12_walks 107 = .ok (.ireturn, 1) := by decide +kernel
theorem dX12_miles_0 : decode cX12_miles 0 = .ok (.aload_n 0, 1) := by decide +kernel
theorem dX12_miles_1 : decode cX12_miles 1 = .ok (.bipush (-9), 2) := by decide +kernel
theorem dX12_miles_3 : decode cX12_miles 3 = .ok (.iconst 1, 1) := by decide +kernel
theorem dX12_miles_4 : decode cX12_miles 4 = .ok (.invokevirtual 184, 3) := by decide +kernel
theorem dX12_miles_7 : decode cX12_miles 7 = .ok (.iload_n 1, 1) := by decide +kernel
theorem dX12_miles_8 : decode cX12_miles 8 = .ok (.aload_n 0, 1) := by decide +kernel
theorem dX12_miles_9 : decode cX12_miles 9 = .ok (.iload_n 1, 1) := by decide +kernel
theorem dX12_miles_10 : decode cX12_miles 10 = .ok (.iload_n 2, 1) := by decide +kernel
theorem dX12_miles_11 : decode cX12_miles 11 = .ok (.invokevirtual 188, 3) := by decide +kernel
theorem dX12_miles_14 : decode cX12_miles 14 = .ok (.imul, 1) := by decide +kernel
theorem dX12_miles_15 : decode cX12_miles 15 = .ok (.ireturn, 1) := by decide +kernel
theorem dX12_pay_0 : decode cX12_pay 0 = .ok (.aload_n 0, 1) := by decide +kernel
theorem dX12_pay_1 : decode cX12_pay 1 = .ok (.iload_n 1, 1) := by decide +kernel
theorem dX12_pay_2 : decode cX12_pay 2 = .ok (.iload_n 2, 1) := by decide +kernel
theorem dX12_pay_3 : decode cX12_pay 3 = .ok (.invokevirtual 192, 3) := by decide +kernel
theorem dX12_pay_6 : decode cX12_pay 6 = .ok (.istore_n 3, 1) := by decide +kernel
theorem dX12_pay_7 : decode cX12_pay 7 = .ok (.iconst 1, 1) := by decide +kernel
theorem dX12_pay_8 : decode cX12_pay 8 = .ok (.istore 4, 2) := by decide +kernel
theorem dX12_pay_10 : decode cX12_pay 10 = .ok (.iload 4, 2) := by decide +kernel
theorem dX12_pay_12 : decode cX12_pay 12 = .ok (.aload_n 0, 1) := by decide +kernel
theorem dX12_pay_13 : decode cX12_pay 13 = .ok (.getfield 178, 3) := by decide +kernel
theorem dX12_pay_16 : decode cX12_pay 16 = .ok (.if_icmp .ge 28, 3) := by decide +kernel
theorem dX12_pay_19 : decode cX12_pay 19 = .ok (.iload_n 3, 1) := by decide +kernel
theorem dX12_pay_20 : decode cX12_pay 20 = .ok (.aload_n 0, 1) := by decide +kernel
theorem dX12_pay_21 : decode cX12_pay 21 = .ok (.aload_n 0, 1) := by decide +kernel
theorem dX12_pay_22 : decode cX12_pay 22 = .ok (.getfield 31, 3) := by decide +kernel
theorem dX12_pay_25 : decode cX12_pay 25 = .ok (.aload_n 0, 1) := by decide +kernel
theorem dX12_pay_26 : decode cX12_pay 26 = .ok (.getfield 64, 3) := by decide +kernel
theorem dX12_pay_29 : decode cX12_pay 29 = .ok (.iload 4, 2) := by decide +kernel
theorem dX12_pay_31 : decode cX12_pay 31 = .ok (.iaload, 1) := by decide +kernel
theorem dX12_pay_32 : decode cX12_pay 32 = .ok (.iaload, 1) := by decide +kernel
theorem dX12_pay_33 : decode cX12_pay 33 = .ok (.invokevirtual 166, 3) := by decide +kernel
theorem dX12_pay_36 : decode cX12_pay 36 = .ok (.iadd, 1) := by decide +kernel
theorem dX12_pay_37 : decode cX12_pay 37 = .ok (.istore_n 3, 1) := by decide +kernel
theorem dX12_pay_38 : decode cX12_pay 38 = .ok (.iinc 4 1, 3) := by decide +kernel
theorem dX12_pay_41 : decode cX12_pay 41 = .ok (.goto (-31), 3) := by decide +kernel
theorem dX12_pay_44 : decode cX12_pay 44 = .ok (.iload_n 3, 1) := by decide +kernel
theorem dX12_pay_45 : decode cX12_pay 45 = .ok (.ireturn, 1) := by decide +kernel
theorem dX12_over_0 : decode cX12_over 0 = .ok (.iconst 0, 1) := by decide +kernel
theorem dX12_over_1 : decode cX12_over 1 = .ok (.istore_n 1, 1) := by decide +kernel
theorem dX12_over_2 : decode cX12_over 2 = .ok (.iconst 0, 1) := by decide +kernel
theorem dX12_over_3 : decode cX12_over 3 = .ok (.istore_n 2, 1) := by decide +kernel
theorem dX12_over_4 : decode cX12_over 4 = .ok (.iload_n 2, 1) := by decide +kernel
theorem dX12_over_5 : decode cX12_over 5 = .ok (.aload_n 0, 1) := by decide +kernel
theorem dX12_over_6 : decode cX12_over 6 = .ok (.getfield 175, 3) := by decide +kernel
theorem dX12_over_9 : decode cX12_over 9 = .ok (.if_icmp .ge 44, 3) := by decide +kernel
theorem dX12_over_12 : decode cX12_over 12 = .ok (.aload_n 0, 1) := by decide +kernel
theorem dX12_over_13 : decode cX12_over 13 = .ok (.getfield 178, 3) := by decide +kernel
theorem dX12_over_16 : decode cX12_over 16 = .ok (.ifCond .le 37, 3) := by decide +kernel
theorem dX12_over_19 : decode cX12_over 19 = .ok (.iload_n 1, 1) := by decide +kernel
theorem dX12_over_20 : decode cX12_over 20 = .ok (.aload_n 0, 1) := by decide +kernel
theorem dX12_over_21 : decode cX12_over 21 = .ok (.getfield 61, 3) := by decide +kernel
theorem dX12_over_24 : decode cX12_over 24 = .ok (.iload_n 2, 1) := by decide +kernel
theorem dX12_over_25 : decode cX12_over 25 = .ok (.iaload, 1) := by decide +kernel
theorem dX12_over_26 : decode cX12_over 26 = .ok (.aload_n 0, 1) := by decide +kernel
theorem dX12_over_27 : decode cX12_over 27 = .ok (.getfield 64, 3) := by decide +kernel
theorem dX12_over_30 : decode cX12_over 30 = .ok (.aload_n 0, 1) := by decide +kernel
theorem dX12_over_31 : decode cX12_over 31 = .ok (.getfield 178, 3) := by decide +kernel
theorem dX12_over_34 : decode cX12_over 34 = .ok (.iconst 1, 1) := by decide +kernel
theorem dX12_over_35 : decode cX12_over 35 = .ok (.isub, 1) := by decide +kernel
theorem dX12_over_36 : decode cX12_over 36 = .ok (.iaload, 1) := by decide +kernel
theorem dX12_over_37 : decode cX12_over 37 = .ok (.if_icmp .le 7, 3) := by decide +kernel
theorem dX12_over_40 : decode cX12_over 40 = .ok (.iconst 1, 1) := by decide +kernel
theorem dX12_over_41 : decode cX12_over 41 = .ok (.goto 4, 3) := by decide +kernel
theorem dX12_over_44 : decode cX12_over 44 = .ok (.iconst 0, 1) := by decide +kernel
theorem dX12_over_45 : decode cX12_over 45 = .ok (.iadd, 1) := by decide +kernel
theorem dX12_over_46 : decode cX12_over 46 = .ok (.istore_n 1, 1) := by decide +kernel
theorem dX12_over_47 : decode cX12_over 47 = .ok (.iinc 2 1, 3) := by decide +kernel
theorem dX12_over_50 : decode cX12_over 50 = .ok (.goto (-46), 3) := by decide +kernel
theorem dX12_over_53 : decode cX12_over 53 = .ok (.iload_n 1, 1) := by decide +kernel
theorem dX12_over_54 : decode cX12_over 54 = .ok (.ireturn, 1) := by decide +kernel
theorem dX12_shore_0 : decode cX12_shore 0 = .ok (.aload_n 0, 1) := by decide +kernel
theorem dX12_shore_1 : decode cX12_shore 1 = .ok (.iload_n 1, 1) := by decide +kernel
theorem dX12_shore_2 : decode cX12_shore 2 = .ok (.invokevirtual 169, 3) := by decide +kernel
theorem dX12_shore_5 : decode cX12_shore 5 = .ok (.ifCond .ne 11, 3) := by decide +kernel
theorem dX12_shore_8 : decode cX12_shore 8 = .ok (.aload_n 0, 1) := by decide +kernel
theorem dX12_shore_9 : decode cX12_shore 9 = .ok (.iconst (-1), 1) := by decide +kernel
theorem dX12_shore_10 : decode cX12_shore 10 = .ok (.invokevirtual 85, 3) := by decide +kernel
theorem dX12_shore_13 : decode cX12_shore 13 = .ok (.goto 25, 3) := by decide +kernel
theorem dX12_shore_16 : decode cX12_shore 16 = .ok (.iload_n 1, 1) := by decide +kernel
theorem dX12_shore_17 : decode cX12_shore 17 = .ok (.ifCond .eq 16, 3) := by decide +kernel
theorem dX12_shore_20 : decode cX12_shore 20 = .ok (.aload_n 0, 1) := by decide +kernel
theorem dX12_shore_21 : decode cX12_shore 21 = .ok (.aload_n 0, 1) := by decide +kernel
theorem dX12_shore_22 : decode cX12_shore 22 = .ok (.getfield 31, 3) := by decide +kernel
theorem dX12_shore_25 : decode cX12_shore 25 = .ok (.iload_n 1, 1) := by decide +kernel
theorem dX12_shore_26 : decode cX12_shore 26 = .ok (.iaload, 1) := by decide +kernel
theorem dX12_shore_27 : decode cX12_shore 27 = .ok (.invokevirtual 163, 3) := by decide +kernel
theorem dX12_shore_30 : decode cX12_shore 30 = .ok (.ifCond .eq 7, 3) := by decide +kernel
theorem dX12_shore_33 : decode cX12_shore 33 = .ok (.iconst 1, 1) := by decide +kernel
theorem dX12_shore_34 : decode cX12_shore 34 = .ok (.goto 4, 3) := by decide +kernel
theorem dX12_shore_37 : decode cX12_shore 37 = .ok (.iconst 0, 1) := by decide +kernel
theorem dX12_shore_38 : decode cX12_shore 38 = .ok (.ireturn, 1) := by decide +kernel
theorem dX12_notWalk_0 : decode cX12_notWalk 0 = .ok (.iload_n 0, 1) := by decide +kernel
theorem dX12_notWalk_1 : decode cX12_notWalk 1 = .ok (.iconst 1, 1) := by decide +kernel
theorem dX12_notWalk_2 : decode cX12_notWalk 2 = .ok (.if_icmp .lt 7, 3) := by decide +kernel
theorem dX12_notWalk_5 : decode cX12_notWalk 5 = .ok (.iload_n 1, 1) := by decide +kernel
theorem dX12_notWalk_6 : decode cX12_notWalk 6 = .ok (.ifCond .ge 8, 3) := by decide +kernel
theorem dX12_notWalk_9 : decode cX12_notWalk 9 = .ok (.bipush (-4), 2) := by decide +kernel
theorem dX12_notWalk_11 : decode cX12_notWalk 11 = .ok (.goto 21, 3) := by decide +kernel
theorem dX12_notWalk_14 : decode cX12_notWalk 14 = .ok (.iload_n 0, 1) := by decide +kernel
theorem dX12_notWalk_15 : decode cX12_notWalk 15 = .ok (.bipush 9, 2) := by decide +kernel
theorem dX12_notWalk_17 : decode cX12_notWalk 17 = .ok (.if_icmp .gt 9, 3) := by decide +kernel
theorem dX12_notWalk_20 : decode cX12_notWalk 20 = .ok (.iload_n 1, 1) := by decide +kernel
theorem dX12_notWalk_21 : decode cX12_notWalk 21 = .ok (.bipush 9, 2) := by decide +kernel
theorem dX12_notWalk_23 : decode cX12_notWalk 23 = .ok (.if_icmp .le 8, 3) := by decide +kernel
theorem dX12_notWalk_26 : decode cX12_notWalk 26 = .ok (.bipush (-6), 2) := by decide +kernel
theorem dX12_notWalk_28 : decode cX12_notWalk 28 = .ok (.goto 4, 3) := by decide +kernel
theorem dX12_notWalk_31 : decode cX12_notWalk 31 = .ok (.iconst 0, 1) := by decide +kernel
theorem dX12_notWalk_32 : decode cX12_notWalk 32 = .ok (.ireturn, 1) := by decide +kernel
theorem dX12_walk_0 : decode cX12_walk 0 = .ok (.iload_n 3, 1) := by decide +kernel
theorem dX12_walk_1 : decode cX12_walk 1 = .ok (.iconst 0, 1) := by decide +kernel
theorem dX12_walk_2 : decode cX12_walk 2 = .ok (.iconst 4, 1) := by decide +kernel
theorem dX12_walk_3 : decode cX12_walk 3 = .ok (.invokestatic 96, 3) := by decide +kernel
theorem dX12_walk_6 : decode cX12_walk 6 = .ok (.ifCond .ne 8, 3) := by decide +kernel
theorem dX12_walk_9 : decode cX12_walk 9 = .ok (.bipush (-2), 2) := by decide +kernel
theorem dX12_walk_11 : decode cX12_walk 11 = .ok (.goto 8, 3) := by decide +kernel
theorem dX12_walk_14 : decode cX12_walk 14 = .ok (.iload_n 1, 1) := by decide +kernel
theorem dX12_walk_15 : decode cX12_walk 15 = .ok (.iload_n 2, 1) := by decide +kernel
theorem dX12_walk_16 : decode cX12_walk 16 = .ok (.invokestatic 195, 3) := by decide +kernel
theorem dX12_walk_19 : decode cX12_walk 19 = .ok (.istore 4, 2) := by decide +kernel
theorem dX12_walk_21 : decode cX12_walk 21 = .ok (.iload 4, 2) := by decide +kernel
theorem dX12_walk_23 : decode cX12_walk 23 = .ok (.ifCond .eq 10, 3) := by decide +kernel
theorem dX12_walk_26 : decode cX12_walk 26 = .ok (.aload_n 0, 1) := by decide +kernel
theorem dX12_walk_27 : decode cX12_walk 27 = .ok (.iload 4, 2) := by decide +kernel
theorem dX12_walk_29 : decode cX12_walk 29 = .ok (.invokevirtual 85, 3) := by decide +kernel
theorem dX12_walk_32 : decode cX12_walk 32 = .ok (.ireturn, 1) := by decide +kernel
theorem dX12_walk_33 : decode cX12_walk 33 = .ok (.aload_n 0, 1) := by decide +kernel
theorem dX12_walk_34 : decode cX12_walk 34 = .ok (.iload_n 1, 1) := by decide +kernel
theorem dX12_walk_35 : decode cX12_walk 35 = .ok (.iload_n 2, 1) := by decide +kernel
theorem dX12_walk_36 : decode cX12_walk 36 = .ok (.invokevirtual 198, 3) := by decide +kernel
theorem dX12_walk_39 : decode cX12_walk 39 = .ok (.istore 5, 2) := by decide +kernel
theorem dX12_walk_41 : decode cX12_walk 41 = .ok (.iload_n 3, 1) := by decide +kernel
theorem dX12_walk_42 : decode cX12_walk 42 = .ok (.tableswitch 95 0 3 #[30, 48, 68, 71], 30) := by decide +kernel
theorem dX12_walk_72 : decode cX12_walk 72 = .ok (.aload_n 0, 1) := by decide +kernel
theorem dX12_walk_73 : decode cX12_walk 73 = .ok (.getfield 178, 3) := by decide +kernel
theorem dX12_walk_76 : decode cX12_walk 76 = .ok (.ifCond .ne 7, 3) := by decide +kernel
theorem dX12_walk_79 : decode cX12_walk 79 = .ok (.iconst 0, 1) := by decide +kernel
theorem dX12_walk_80 : decode cX12_walk 80 = .ok (.goto 9, 3) := by decide +kernel
theorem dX12_walk_83 : decode cX12_walk 83 = .ok (.aload_n 0, 1) := by decide +kernel
theorem dX12_walk_84 : decode cX12_walk 84 = .ok (.getfield 178, 3) := by decide +kernel
theorem dX12_walk_87 : decode cX12_walk 87 = .ok (.iconst 1, 1) := by decide +kernel
theorem dX12_walk_88 : decode cX12_walk 88 = .ok (.isub, 1) := by decide +kernel
theorem dX12_walk_89 : decode cX12_walk 89 = .ok (.ireturn, 1) := by decide +kernel
theorem dX12_walk_90 : decode cX12_walk 90 = .ok (.aload_n 0, 1) := by decide +kernel
theorem dX12_walk_91 : decode cX12_walk 91 = .ok (.getfield 178, 3) := by decide +kernel
theorem dX12_walk_94 : decode cX12_walk 94 = .ok (.ifCond .ne 7, 3) := by decide +kernel
theorem dX12_walk_97 : decode cX12_walk 97 = .ok (.iconst 0, 1) := by decide +kernel
theorem dX12_walk_98 : decode cX12_walk 98 = .ok (.goto 11, 3) := by decide +kernel
theorem dX12_walk_101 : decode cX12_walk 101 = .ok (.iload_n 1, 1) := by decide +kernel
theorem dX12_walk_102 : decode cX12_walk 102 = .ok (.aload_n 0, 1) := by decide +kernel
theorem dX12_walk_103 : decode cX12_walk 103 = .ok (.getfield 178, 3) := by decide +kernel
theorem dX12_walk_106 : decode cX12_walk 106 = .ok (.iconst 1, 1) := by decide +kernel
theorem dX12_walk_107 : decode cX12_walk 107 = .ok (.isub, 1) := by decide +kernel
theorem dX12_walk_108 : decode cX12_walk 108 = .ok (.imul, 1) := by decide +kernel
theorem dX12_walk_109 : decode cX12_walk 109 = .ok (.ireturn, 1) := by decide +kernel
theorem dX12_walk_110 : decode cX12_walk 110 = .ok (.iload 5, 2) := by decide +kernel
theorem dX12_walk_112 : decode cX12_walk 112 = .ok (.ireturn, 1) := by decide +kernel
theorem dX12_walk_113 : decode cX12_walk 113 = .ok (.aload_n 0, 1) := by decide +kernel
theorem dX12_walk_114 : decode cX12_walk 114 = .ok (.getfield 178, 3) := by decide +kernel
theorem dX12_walk_117 : decode cX12_walk 117 = .ok (.ifCond .ne 8, 3) := by decide +kernel
theorem dX12_walk_120 : decode cX12_walk 120 = .ok (.bipush (-9), 2) := by decide +kernel
theorem dX12_walk_122 : decode cX12_walk 122 = .ok (.goto 14, 3) := by decide +kernel
theorem dX12_walk_125 : decode cX12_walk 125 = .ok (.aload_n 0, 1) := by decide +kernel
theorem dX12_walk_126 : decode cX12_walk 126 = .ok (.getfield 64, 3) := by decide +kernel
theorem dX12_walk_129 : decode cX12_walk 129 = .ok (.aload_n 0, 1) := by decide +kernel
theorem dX12_walk_130 : decode cX12_walk 130 = .ok (.getfield 178, 3) := by decide +kernel
theorem dX12_walk_133 : decode cX12_walk 133 = .ok (.iconst 1, 1) := by decide +kernel
theorem dX12_walk_134 : decode cX12_walk 134 = .ok (.isub, 1) := by decide +kernel
theorem dX12_walk_135 : decode cX12_walk 135 = .ok (.iaload, 1) := by decide +kernel
theorem dX12_walk_136 : decode cX12_walk 136 = .ok (.ireturn, 1) := by decide +kernel
theorem dX12_walk_137 : decode cX12_walk 137 = .ok (.aload_n 0, 1) := by decide +kernel
theorem dX12_walk_138 : decode cX12_walk 138 = .ok (.invokevirtual 201, 3) := by decide +kernel
theorem dX12_walk_141 : decode cX12_walk 141 = .ok (.ireturn, 1) := by decide +kernel
theorem dX12_place_0 : decode cX12_place 0 = .ok (.iload_n 3, 1) := by decide +kernel
theorem dX12_place_1 : decode cX12_place 1 = .ok (.ifCond .ge 8, 3) := by decide +kernel
theorem dX12_place_4 : decode cX12_place 4 = .ok (.bipush (-4), 2) := by decide +kernel
theorem dX12_place_6 : decode cX12_place 6 = .ok (.goto 8, 3) := by decide +kernel
theorem dX12_place_9 : decode cX12_place 9 = .ok (.iload_n 1, 1) := by decide +kernel
theorem dX12_place_10 : decode cX12_place 10 = .ok (.iload_n 2, 1) := by decide +kernel
theorem dX12_place_11 : decode cX12_place 11 = .ok (.invokestatic 195, 3) := by decide +kernel
theorem dX12_place_14 : decode cX12_place 14 = .ok (.istore 4, 2) := by decide +kernel
theorem dX12_place_16 : decode cX12_place 16 = .ok (.iload 4, 2) := by decide +kernel
theorem dX12_place_18 : decode cX12_place 18 = .ok (.ifCond .eq 10, 3) := by decide +kernel
theorem dX12_place_21 : decode cX12_place 21 = .ok (.aload_n 0, 1) := by decide +kernel
theorem dX12_place_22 : decode cX12_place 22 = .ok (.iload 4, 2) := by decide +kernel
theorem dX12_place_24 : decode cX12_place 24 = .ok (.invokevirtual 85, 3) := by decide +kernel
theorem dX12_place_27 : decode cX12_place 27 = .ok (.ireturn, 1) := by decide +kernel
theorem dX12_place_28 : decode cX12_place 28 = .ok (.aload_n 0, 1) := by decide +kernel
theorem dX12_place_29 : decode cX12_place 29 = .ok (.bipush (-9), 2) := by decide +kernel
theorem dX12_place_31 : decode cX12_place 31 = .ok (.iconst 1, 1) := by decide +kernel
theorem dX12_place_32 : decode cX12_place 32 = .ok (.invokevirtual 184, 3) := by decide +kernel
theorem dX12_place_35 : decode cX12_place 35 = .ok (.aload_n 0, 1) := by decide +kernel
theorem dX12_place_36 : decode cX12_place 36 = .ok (.iload_n 1, 1) := by decide +kernel
theorem dX12_place_37 : decode cX12_place 37 = .ok (.iload_n 2, 1) := by decide +kernel
theorem dX12_place_38 : decode cX12_place 38 = .ok (.invokevirtual 188, 3) := by decide +kernel
theorem dX12_place_41 : decode cX12_place 41 = .ok (.pop, 1) := by decide +kernel
theorem dX12_place_42 : decode cX12_place 42 = .ok (.iload_n 3, 1) := by decide +kernel
theorem dX12_place_43 : decode cX12_place 43 = .ok (.aload_n 0, 1) := by decide +kernel
theorem dX12_place_44 : decode cX12_place 44 = .ok (.getfield 178, 3) := by decide +kernel
theorem dX12_place_47 : decode cX12_place 47 = .ok (.if_icmp .ge 12, 3) := by decide +kernel
theorem dX12_place_50 : decode cX12_place 50 = .ok (.aload_n 0, 1) := by decide +kernel
theorem dX12_place_51 : decode cX12_place 51 = .ok (.getfield 64, 3) := by decide +kernel
theorem dX12_place_54 : decode cX12_place 54 = .ok (.iload_n 3, 1) := by decide +kernel
theorem dX12_place_55 : decode cX12_place 55 = .ok (.iaload, 1) := by decide +kernel
theorem dX12_place_56 : decode cX12_place 56 = .ok (.goto 5, 3) := by decide +kernel
theorem dX12_place_59 : decode cX12_place 59 = .ok (.bipush (-9), 2) := by decide +kernel
theorem dX12_place_61 : decode cX12_place 61 = .ok (.ireturn, 1) := by decide +kernel
theorem dX12_best_0 : decode cX12_best 0 = .ok (.iload_n 1, 1) := by decide +kernel
theorem dX12_best_1 : decode cX12_best 1 = .ok (.iconst 0, 1) := by decide +kernel
theorem dX12_best_2 : decode cX12_best 2 = .ok (.iconst 2, 1) := by decide +kernel
theorem dX12_best_3 : decode cX12_best 3 = .ok (.invokestatic 96, 3) := by decide +kernel
theorem dX12_best_6 : decode cX12_best 6 = .ok (.ifCond .eq 12, 3) := by decide +kernel
theorem dX12_best_9 : decode cX12_best 9 = .ok (.iload_n 2, 1) := by decide +kernel
theorem dX12_best_10 : decode cX12_best 10 = .ok (.iconst 0, 1) := by decide +kernel
theorem dX12_best_11 : decode cX12_best 11 = .ok (.iconst 1, 1) := by decide +kernel
theorem dX12_best_12 : decode cX12_best 12 = .ok (.invokestatic 96, 3) := by decide +kernel
theorem dX12_best_15 : decode cX12_best 15 = .ok (.ifCond .ne 10, 3) := by decide +kernel
theorem dX12_best_18 : decode cX12_best 18 = .ok (.aload_n 0, 1) := by decide +kernel
theorem dX12_best_19 : decode cX12_best 19 = .ok (.bipush (-2), 2) := by decide +kernel
theorem dX12_best_21 : decode cX12_best 21 = .ok (.invokevirtual 85, 3) := by decide +kernel
theorem dX12_best_24 : decode cX12_best 24 = .ok (.ireturn, 1) := by decide +kernel
theorem dX12_best_25 : decode cX12_best 25 = .ok (.iconst 0, 1) := by decide +kernel
theorem dX12_best_26 : decode cX12_best 26 = .ok (.istore_n 3, 1) := by decide +kernel
theorem dX12_best_27 : decode cX12_best 27 = .ok (.iconst 0, 1) := by decide +kernel
theorem dX12_best_28 : decode cX12_best 28 = .ok (.istore 4, 2) := by decide +kernel
theorem dX12_best_30 : decode cX12_best 30 = .ok (.iconst 1, 1) := by decide +kernel
theorem dX12_best_31 : decode cX12_best 31 = .ok (.istore 5, 2) := by decide +kernel
theorem dX12_best_33 : decode cX12_best 33 = .ok (.iload 5, 2) := by decide +kernel
theorem dX12_best_35 : decode cX12_best 35 = .ok (.bipush 9, 2) := by decide +kernel
theorem dX12_best_37 : decode cX12_best 37 = .ok (.if_icmp .gt 93, 3) := by decide +kernel
theorem dX12_best_40 : decode cX12_best 40 = .ok (.iconst 0, 1) := by decide +kernel
theorem dX12_best_41 : decode cX12_best 41 = .ok (.istore 6, 2) := by decide +kernel
theorem dX12_best_43 : decode cX12_best 43 = .ok (.iload 6, 2) := by decide +kernel
theorem dX12_best_45 : decode cX12_best 45 = .ok (.bipush 9, 2) := by decide +kernel
theorem dX12_best_47 : decode cX12_best 47 = .ok (.if_icmp .gt 77, 3) := by decide +kernel
theorem dX12_best_50 : decode cX12_best 50 = .ok (.iload_n 1, 1) := by decide +kernel
theorem dX12_best_51 : decode cX12_best 51 = .ok (.iconst 2, 1) := by decide +kernel
theorem dX12_best_52 : decode cX12_best 52 = .ok (.if_icmp .ne 14, 3) := by decide +kernel
theorem dX12_best_55 : decode cX12_best 55 = .ok (.aload_n 0, 1) := by decide +kernel
theorem dX12_best_56 : decode cX12_best 56 = .ok (.iload 5, 2) := by decide +kernel
theorem dX12_best_58 : decode cX12_best 58 = .ok (.iload 6, 2) := by decide +kernel
theorem dX12_best_60 : decode cX12_best 60 = .ok (.invokevirtual 192, 3) := by decide +kernel
theorem dX12_best_63 : decode cX12_best 63 = .ok (.goto 11, 3) := by decide +kernel
theorem dX12_best_66 : decode cX12_best 66 = .ok (.aload_n 0, 1) := by decide +kernel
theorem dX12_best_67 : decode cX12_best 67 = .ok (.iload 5, 2) := by decide +kernel
theorem dX12_best_69 : decode cX12_best 69 = .ok (.iload 6, 2) := by decide +kernel
theorem dX12_best_71 : decode cX12_best 71 = .ok (.invokevirtual 198, 3) := by decide +kernel
theorem dX12_best_74 : decode cX12_best 74 = .ok (.istore 7, 2) := by decide +kernel
theorem dX12_best_76 : decode cX12_best 76 = .ok (.iload_n 3, 1) := by decide +kernel
theorem dX12_best_77 : decode cX12_best 77 = .ok (.ifCond .le 28, 3) := by decide +kernel
theorem dX12_best_80 : decode cX12_best 80 = .ok (.iload_n 1, 1) := by decide +kernel
theorem dX12_best_81 : decode cX12_best 81 = .ok (.iconst 1, 1) := by decide +kernel
theorem dX12_best_82 : decode cX12_best 82 = .ok (.if_icmp .ne 13, 3) := by decide +kernel
theorem dX12_best_85 : decode cX12_best 85 = .ok (.iload 7, 2) := by decide +kernel
theorem dX12_best_87 : decode cX12_best 87 = .ok (.iload 4, 2) := by decide +kernel
theorem dX12_best_89 : decode cX12_best 89 = .ok (.if_icmp .lt 16, 3) := by decide +kernel
theorem dX12_best_92 : decode cX12_best 92 = .ok (.goto 26, 3) := by decide +kernel
theorem dX12_best_95 : decode cX12_best 95 = .ok (.iload 7, 2) := by decide +kernel
theorem dX12_best_97 : decode cX12_best 97 = .ok (.iload 4, 2) := by decide +kernel
theorem dX12_best_99 : decode cX12_best 99 = .ok (.if_icmp .gt 6, 3) := by decide +kernel
theorem dX12_best_102 : decode cX12_best 102 = .ok (.goto 16, 3) := by decide +kernel
theorem dX12_best_105 : decode cX12_best 105 = .ok (.bipush 10, 2) := by decide +kernel
theorem dX12_best_107 : decode cX12_best 107 = .ok (.iload 5, 2) := by decide +kernel
theorem dX12_best_109 : decode cX12_best 109 = .ok (.imul, 1) := by decide +kernel
theorem dX12_best_110 : decode cX12_best 110 = .ok (.iload 6, 2) := by decide +kernel
theorem dX12_best_112 : decode cX12_best 112 = .ok (.iadd, 1) := by decide +kernel
theorem dX12_best_113 : decode cX12_best 113 = .ok (.istore_n 3, 1) := by decide +kernel
theorem dX12_best_114 : decode cX12_best 114 = .ok (.iload 7, 2) := by decide +kernel
theorem dX12_best_116 : decode cX12_best 116 = .ok (.istore 4, 2) := by decide +kernel
theorem dX12_best_118 : decode cX12_best 118 = .ok (.iinc 6 1, 3) := by decide +kernel
theorem dX12_best_121 : decode cX12_best 121 = .ok (.goto (-78), 3) := by decide +kernel
theorem dX12_best_124 : decode cX12_best 124 = .ok (.iinc 5 1, 3) := by decide +kernel
theorem dX12_best_127 : decode cX12_best 127 = .ok (.goto (-94), 3) := by decide +kernel
theorem dX12_best_130 : decode cX12_best 130 = .ok (.iload_n 2, 1) := by decide +kernel
theorem dX12_best_131 : decode cX12_best 131 = .ok (.ifCond .ne 7, 3) := by decide +kernel
theorem dX12_best_134 : decode cX12_best 134 = .ok (.iload_n 3, 1) := by decide +kernel
theorem dX12_best_135 : decode cX12_best 135 = .ok (.goto 5, 3) := by decide +kernel
theorem dX12_best_138 : decode cX12_best 138 = .ok (.iload 4, 2) := by decide +kernel
theorem dX12_best_140 : decode cX12_best 140 = .ok (.ireturn, 1) := by decide +kernel
theorem dX12_span_0 : decode cX12_span 0 = .ok (.iload_n 1, 1) := by decide +kernel
theorem dX12_span_1 : decode cX12_span 1 = .ok (.iconst 1, 1) := by decide +kernel
theorem dX12_span_2 : decode cX12_span 2 = .ok (.bipush 9, 2) := by decide +kernel
theorem dX12_span_4 : decode cX12_span 4 = .ok (.invokestatic 77, 3) := by decide +kernel
theorem dX12_span_7 : decode cX12_span 7 = .ok (.istore_n 2, 1) := by decide +kernel
theorem dX12_span_8 : decode cX12_span 8 = .ok (.iload_n 2, 1) := by decide +kernel
theorem dX12_span_9 : decode cX12_span 9 = .ok (.ifCond .eq 9, 3) := by decide +kernel
theorem dX12_span_12 : decode cX12_span 12 = .ok (.aload_n 0, 1) := by decide +kernel
theorem dX12_span_13 : decode cX12_span 13 = .ok (.iload_n 2, 1) := by decide +kernel
theorem dX12_span_14 : decode cX12_span 14 = .ok (.invokevirtual 85, 3) := by decide +kernel
theorem dX12_span_17 : decode cX12_span 17 = .ok (.ireturn, 1) := by decide +kernel
theorem dX12_span_18 : decode cX12_span 18 = .ok (.aload_n 0, 1) := by decide +kernel
theorem dX12_span_19 : decode cX12_span 19 = .ok (.iload_n 1, 1) := by decide +kernel
theorem dX12_span_20 : decode cX12_span 20 = .ok (.iconst 0, 1) := by decide +kernel
theorem dX12_span_21 : decode cX12_span 21 = .ok (.invokevirtual 192, 3) := by decide +kernel
theorem dX12_span_24 : decode cX12_span 24 = .ok (.istore_n 3, 1) := by decide +kernel
theorem dX12_span_25 : decode cX12_span 25 = .ok (.iload_n 3, 1) := by decide +kernel
theorem dX12_span_26 : decode cX12_span 26 = .ok (.istore 4, 2) := by decide +kernel
theorem dX12_span_28 : decode cX12_span 28 = .ok (.iconst 1, 1) := by decide +kernel
theorem dX12_span_29 : decode cX12_span 29 = .ok (.istore 5, 2) := by decide +kernel
theorem dX12_span_31 : decode cX12_span 31 = .ok (.iload 5, 2) := by decide +kernel
theorem dX12_span_33 : decode cX12_span 33 = .ok (.bipush 9, 2) := by decide +kernel
theorem dX12_span_35 : decode cX12_span 35 = .ok (.if_icmp .gt 47, 3) := by decide +kernel
theorem dX12_span_38 : decode cX12_span 38 = .ok (.aload_n 0, 1) := by decide +kernel
theorem dX12_span_39 : decode cX12_span 39 = .ok (.iload_n 1, 1) := by decide +kernel
theorem dX12_span_40 : decode cX12_span 40 = .ok (.iload 5, 2) := by decide +kernel
theorem dX12_span_42 : decode cX12_span 42 = .ok (.invokevirtual 192, 3) := by decide +kernel
theorem dX12_span_45 : decode cX12_span 45 = .ok (.istore 6, 2) := by decide +kernel
theorem dX12_span_47 : decode cX12_span 47 = .ok (.iload 6, 2) := by decide +kernel
theorem dX12_span_49 : decode cX12_span 49 = .ok (.iload_n 3, 1) := by decide +kernel
theorem dX12_span_50 : decode cX12_span 50 = .ok (.if_icmp .ge 8, 3) := by decide +kernel
theorem dX12_span_53 : decode cX12_span 53 = .ok (.iload 6, 2) := by decide +kernel
theorem dX12_span_55 : decode cX12_span 55 = .ok (.goto 4, 3) := by decide +kernel
theorem dX12_span_58 : decode cX12_span 58 = .ok (.iload_n 3, 1) := by decide +kernel
theorem dX12_span_59 : decode cX12_span 59 = .ok (.istore_n 3, 1) := by decide +kernel
theorem dX12_span_60 : decode cX12_span 60 = .ok (.iload 6, 2) := by decide +kernel
theorem dX12_span_62 : decode cX12_span 62 = .ok (.iload 4, 2) := by decide +kernel
theorem dX12_span_64 : decode cX12_span 64 = .ok (.if_icmp .le 8, 3) := by decide +kernel
theorem dX12_span_67 : decode cX12_span 67 = .ok (.iload 6, 2) := by decide +kernel
theorem dX12_span_69 : decode cX12_span 69 = .ok (.goto 5, 3) := by decide +kernel
theorem dX12_span_72 : decode cX12_span 72 = .ok (.iload 4, 2) := by decide +kernel
theorem dX12_span_74 : decode cX12_span 74 = .ok (.istore 4, 2) := by decide +kernel
theorem dX12_span_76 : decode cX12_span 76 = .ok (.iinc 5 1, 3) := by decide +kernel
theorem dX12_span_79 : decode cX12_span 79 = .ok (.goto (-48), 3) := by decide +kernel
theorem dX12_span_82 : decode cX12_span 82 = .ok (.iload 4, 2) := by decide +kernel
theorem dX12_span_84 : decode cX12_span 84 = .ok (.iload_n 3, 1) := by decide +kernel
theorem dX12_span_85 : decode cX12_span 85 = .ok (.isub, 1) := by decide +kernel
theorem dX12_span_86 : decode cX12_span 86 = .ok (.ireturn, 1) := by decide +kernel
theorem dX12_finer_0 : decode cX12_finer 0 = .ok (.iload_n 1, 1) := by decide +kernel
theorem dX12_finer_1 : decode cX12_finer 1 = .ok (.iconst 0, 1) := by decide +kernel
theorem dX12_finer_2 : decode cX12_finer 2 = .ok (.bipush 9, 2) := by decide +kernel
theorem dX12_finer_4 : decode cX12_finer 4 = .ok (.invokestatic 77, 3) := by decide +kernel
theorem dX12_finer_7 : decode cX12_finer 7 = .ok (.istore_n 2, 1) := by decide +kernel
theorem dX12_finer_8 : decode cX12_finer 8 = .ok (.iload_n 2, 1) := by decide +kernel
theorem dX12_finer_9 : decode cX12_finer 9 = .ok (.ifCond .eq 9, 3) := by decide +kernel
theorem dX12_finer_12 : decode cX12_finer 12 = .ok (.aload_n 0, 1) := by decide +kernel
theorem dX12_finer_13 : decode cX12_finer 13 = .ok (.iload_n 2, 1) := by decide +kernel
theorem dX12_finer_14 : decode cX12_finer 14 = .ok (.invokevirtual 85, 3) := by decide +kernel
theorem dX12_finer_17 : decode cX12_finer 17 = .ok (.ireturn, 1) := by decide +kernel
theorem dX12_finer_18 : decode cX12_finer 18 = .ok (.iconst 0, 1) := by decide +kernel
theorem dX12_finer_19 : decode cX12_finer 19 = .ok (.istore_n 3, 1) := by decide +kernel
theorem dX12_finer_20 : decode cX12_finer 20 = .ok (.iconst 2, 1) := by decide +kernel
theorem dX12_finer_21 : decode cX12_finer 21 = .ok (.istore 4, 2) := by decide +kernel
theorem dX12_finer_23 : decode cX12_finer 23 = .ok (.iload 4, 2) := by decide +kernel
theorem dX12_finer_25 : decode cX12_finer 25 = .ok (.bipush 9, 2) := by decide +kernel
theorem dX12_finer_27 : decode cX12_finer 27 = .ok (.if_icmp .gt 36, 3) := by decide +kernel
theorem dX12_finer_30 : decode cX12_finer 30 = .ok (.iload_n 3, 1) := by decide +kernel
theorem dX12_finer_31 : decode cX12_finer 31 = .ok (.aload_n 0, 1) := by decide +kernel
theorem dX12_finer_32 : decode cX12_finer 32 = .ok (.iload 4, 2) := by decide +kernel
theorem dX12_finer_34 : decode cX12_finer 34 = .ok (.iload_n 1, 1) := by decide +kernel
theorem dX12_finer_35 : decode cX12_finer 35 = .ok (.invokevirtual 192, 3) := by decide +kernel
theorem dX12_finer_38 : decode cX12_finer 38 = .ok (.aload_n 0, 1) := by decide +kernel
theorem dX12_finer_39 : decode cX12_finer 39 = .ok (.iload 4, 2) := by decide +kernel
theorem dX12_finer_41 : decode cX12_finer 41 = .ok (.iconst 1, 1) := by decide +kernel
theorem dX12_finer_42 : decode cX12_finer 42 = .ok (.isub, 1) := by decide +kernel
theorem dX12_finer_43 : decode cX12_finer 43 = .ok (.iload_n 1, 1) := by decide +kernel
theorem dX12_finer_44 : decode cX12_finer 44 = .ok (.invokevirtual 192, 3) := by decide +kernel
theorem dX12_finer_47 : decode cX12_finer 47 = .ok (.if_icmp .le 7, 3) := by decide +kernel
theorem dX12_finer_50 : decode cX12_finer 50 = .ok (.iconst 1, 1) := by decide +kernel
theorem dX12_finer_51 : decode cX12_finer 51 = .ok (.goto 4, 3) := by decide +kernel
theorem dX12_finer_54 : decode cX12_finer 54 = .ok (.iconst 0, 1) := by decide +kernel
theorem dX12_finer_55 : decode cX12_finer 55 = .ok (.iadd, 1) := by decide +kernel
theorem dX12_finer_56 : decode cX12_finer 56 = .ok (.istore_n 3, 1) := by decide +kernel
theorem dX12_finer_57 : decode cX12_finer 57 = .ok (.iinc 4 1, 3) := by decide +kernel
theorem dX12_finer_60 : decode cX12_finer 60 = .ok (.goto (-37), 3) := by decide +kernel
theorem dX12_finer_63 : decode cX12_finer 63 = .ok (.iload_n 3, 1) := by decide +kernel
theorem dX12_finer_64 : decode cX12_finer 64 = .ok (.ireturn, 1) := by decide +kernel
theorem dX12_stepFrom_0 : decode cX12_stepFrom 0 = .ok (.iload_n 1, 1) := by decide +kernel
theorem dX12_stepFrom_1 : decode cX12_stepFrom 1 = .ok (.iload_n 3, 1) := by decide +kernel
theorem dX12_stepFrom_2 : decode cX12_stepFrom 2 = .ok (.iadd, 1) := by decide +kernel
theorem dX12_stepFrom_3 : decode cX12_stepFrom 3 = .ok (.istore 4, 2) := by decide +kernel
theorem dX12_stepFrom_5 : decode cX12_stepFrom 5 = .ok (.iload 4, 2) := by decide +kernel
theorem dX12_stepFrom_7 : decode cX12_stepFrom 7 = .ok (.ifCond .lt 42, 3) := by decide +kernel
theorem dX12_stepFrom_10 : decode cX12_stepFrom 10 = .ok (.iload 4, 2) := by decide +kernel
theorem dX12_stepFrom_12 : decode cX12_stepFrom 12 = .ok (.aload_n 0, 1) := by decide +kernel
theorem dX12_stepFrom_13 : decode cX12_stepFrom 13 = .ok (.getfield 175, 3) := by decide +kernel
theorem dX12_stepFrom_16 : decode cX12_stepFrom 16 = .ok (.if_icmp .ge 33, 3) := by decide +kernel
theorem dX12_stepFrom_19 : decode cX12_stepFrom 19 = .ok (.aload_n 0, 1) := by decide +kernel
theorem dX12_stepFrom_20 : decode cX12_stepFrom 20 = .ok (.aload_n 0, 1) := by decide +kernel
theorem dX12_stepFrom_21 : decode cX12_stepFrom 21 = .ok (.getfield 61, 3) := by decide +kernel
theorem dX12_stepFrom_24 : decode cX12_stepFrom 24 = .ok (.iload 4, 2) := by decide +kernel
theorem dX12_stepFrom_26 : decode cX12_stepFrom 26 = .ok (.iaload, 1) := by decide +kernel
theorem dX12_stepFrom_27 : decode cX12_stepFrom 27 = .ok (.aload_n 0, 1) := by decide +kernel
theorem dX12_stepFrom_28 : decode cX12_stepFrom 28 = .ok (.getfield 61, 3) := by decide +kernel
theorem dX12_stepFrom_31 : decode cX12_stepFrom 31 = .ok (.iload_n 1, 1) := by decide +kernel
theorem dX12_stepFrom_32 : decode cX12_stepFrom 32 = .ok (.iaload, 1) := by decide +kernel
theorem dX12_stepFrom_33 : decode cX12_stepFrom 33 = .ok (.iload_n 2, 1) := by decide +kernel
theorem dX12_stepFrom_34 : decode cX12_stepFrom 34 = .ok (.invokevirtual 181, 3) := by decide +kernel
theorem dX12_stepFrom_37 : decode cX12_stepFrom 37 = .ok (.ifCond .ne 12, 3) := by decide +kernel
theorem dX12_stepFrom_40 : decode cX12_stepFrom 40 = .ok (.iload 4, 2) := by decide +kernel
theorem dX12_stepFrom_42 : decode cX12_stepFrom 42 = .ok (.iload_n 3, 1) := by decide +kernel
theorem dX12_stepFrom_43 : decode cX12_stepFrom 43 = .ok (.iadd, 1) := by decide +kernel
theorem dX12_stepFrom_44 : decode cX12_stepFrom 44 = .ok (.istore 4, 2) := by decide +kernel
theorem dX12_stepFrom_46 : decode cX12_stepFrom 46 = .ok (.goto (-41), 3) := by decide +kernel
theorem dX12_stepFrom_49 : decode cX12_stepFrom 49 = .ok (.iload 4, 2) := by decide +kernel
theorem dX12_stepFrom_51 : decode cX12_stepFrom 51 = .ok (.ifCond .lt 17, 3) := by decide +kernel
theorem dX12_stepFrom_54 : decode cX12_stepFrom 54 = .ok (.iload 4, 2) := by decide +kernel
theorem dX12_stepFrom_56 : decode cX12_stepFrom 56 = .ok (.aload_n 0, 1) := by decide +kernel
theorem dX12_stepFrom_57 : decode cX12_stepFrom 57 = .ok (.getfield 175, 3) := by decide +kernel
theorem dX12_stepFrom_60 : decode cX12_stepFrom 60 = .ok (.if_icmp .ge 8, 3) := by decide +kernel
theorem dX12_stepFrom_63 : decode cX12_stepFrom 63 = .ok (.iload 4, 2) := by decide +kernel
theorem dX12_stepFrom_65 : decode cX12_stepFrom 65 = .ok (.goto 5, 3) := by decide +kernel
theorem dX12_stepFrom_68 : decode cX12_stepFrom 68 = .ok (.bipush (-9), 2) := by decide +kernel
theorem dX12_stepFrom_70 : decode cX12_stepFrom 70 = .ok (.ireturn, 1) := by decide +kernel
theorem dX12_two_0 : decode cX12_two 0 = .ok (.iload_n 3, 1) := by decide +kernel
theorem dX12_two_1 : decode cX12_two 1 = .ok (.iconst 0, 1) := by decide +kernel
theorem dX12_two_2 : decode cX12_two 2 = .ok (.iconst 1, 1) := by decide +kernel
theorem dX12_two_3 : decode cX12_two 3 = .ok (.invokestatic 96, 3) := by decide +kernel
theorem dX12_two_6 : decode cX12_two 6 = .ok (.ifCond .ne 10, 3) := by decide +kernel
theorem dX12_two_9 : decode cX12_two 9 = .ok (.aload_n 0, 1) := by decide +kernel
theorem dX12_two_10 : decode cX12_two 10 = .ok (.bipush (-2), 2) := by decide +kernel
theorem dX12_two_12 : decode cX12_two 12 = .ok (.invokevirtual 85, 3) := by decide +kernel
theorem dX12_two_15 : decode cX12_two 15 = .ok (.ireturn, 1) := by decide +kernel
theorem dX12_two_16 : decode cX12_two 16 = .ok (.iload_n 1, 1) := by decide +kernel
theorem dX12_two_17 : decode cX12_two 17 = .ok (.iconst 1, 1) := by decide +kernel
theorem dX12_two_18 : decode cX12_two 18 = .ok (.if_icmp .lt 8, 3) := by decide +kernel
theorem dX12_two_21 : decode cX12_two 21 = .ok (.iload_n 2, 1) := by decide +kernel
theorem dX12_two_22 : decode cX12_two 22 = .ok (.iconst 1, 1) := by decide +kernel
theorem dX12_two_23 : decode cX12_two 23 = .ok (.if_icmp .ge 8, 3) := by decide +kernel
theorem dX12_two_26 : decode cX12_two 26 = .ok (.bipush (-4), 2) := by decide +kernel
theorem dX12_two_28 : decode cX12_two 28 = .ok (.goto 21, 3) := by decide +kernel
theorem dX12_two_31 : decode cX12_two 31 = .ok (.iload_n 1, 1) := by decide +kernel
theorem dX12_two_32 : decode cX12_two 32 = .ok (.bipush 9, 2) := by decide +kernel
theorem dX12_two_34 : decode cX12_two 34 = .ok (.if_icmp .gt 9, 3) := by decide +kernel
theorem dX12_two_37 : decode cX12_two 37 = .ok (.iload_n 2, 1) := by decide +kernel
theorem dX12_two_38 : decode cX12_two 38 = .ok (.bipush 9, 2) := by decide +kernel
theorem dX12_two_40 : decode cX12_two 40 = .ok (.if_icmp .le 8, 3) := by decide +kernel
theorem dX12_two_43 : decode cX12_two 43 = .ok (.bipush (-6), 2) := by decide +kernel
theorem dX12_two_45 : decode cX12_two 45 = .ok (.goto 4, 3) := by decide +kernel
theorem dX12_two_48 : decode cX12_two 48 = .ok (.iconst 0, 1) := by decide +kernel
theorem dX12_two_49 : decode cX12_two 49 = .ok (.istore 4, 2) := by decide +kernel
theorem dX12_two_51 : decode cX12_two 51 = .ok (.iload 4, 2) := by decide +kernel
theorem dX12_two_53 : decode cX12_two 53 = .ok (.ifCond .eq 10, 3) := by decide +kernel
theorem dX12_two_56 : decode cX12_two 56 = .ok (.aload_n 0, 1) := by decide +kernel
theorem dX12_two_57 : decode cX12_two 57 = .ok (.iload 4, 2) := by decide +kernel
theorem dX12_two_59 : decode cX12_two 59 = .ok (.invokevirtual 85, 3) := by decide +kernel
theorem dX12_two_62 : decode cX12_two 62 = .ok (.ireturn, 1) := by decide +kernel
theorem dX12_two_63 : decode cX12_two 63 = .ok (.aload_n 0, 1) := by decide +kernel
theorem dX12_two_64 : decode cX12_two 64 = .ok (.bipush (-9), 2) := by decide +kernel
theorem dX12_two_66 : decode cX12_two 66 = .ok (.iconst 1, 1) := by decide +kernel
theorem dX12_two_67 : decode cX12_two 67 = .ok (.invokevirtual 184, 3) := by decide +kernel
theorem dX12_two_70 : decode cX12_two 70 = .ok (.iconst 0, 1) := by decide +kernel
theorem dX12_two_71 : decode cX12_two 71 = .ok (.istore 5, 2) := by decide +kernel
theorem dX12_two_73 : decode cX12_two 73 = .ok (.aload_n 0, 1) := by decide +kernel
theorem dX12_two_74 : decode cX12_two 74 = .ok (.getfield 175, 3) := by decide +kernel
theorem dX12_two_77 : decode cX12_two 77 = .ok (.iconst 1, 1) := by decide +kernel
theorem dX12_two_78 : decode cX12_two 78 = .ok (.isub, 1) := by decide +kernel
theorem dX12_two_79 : decode cX12_two 79 = .ok (.istore 6, 2) := by decide +kernel
theorem dX12_two_81 : decode cX12_two 81 = .ok (.iconst 0, 1) := by decide +kernel
theorem dX12_two_82 : decode cX12_two 82 = .ok (.istore 7, 2) := by decide +kernel
theorem dX12_two_84 : decode cX12_two 84 = .ok (.iconst 0, 1) := by decide +kernel
theorem dX12_two_85 : decode cX12_two 85 = .ok (.istore 8, 2) := by decide +kernel
theorem dX12_two_87 : decode cX12_two 87 = .ok (.iconst 1, 1) := by decide +kernel
theorem dX12_two_88 : decode cX12_two 88 = .ok (.istore 9, 2) := by decide +kernel
theorem dX12_two_90 : decode cX12_two 90 = .ok (.iconst 1, 1) := by decide +kernel
theorem dX12_two_91 : decode cX12_two 91 = .ok (.istore 10, 2) := by decide +kernel
theorem dX12_two_93 : decode cX12_two 93 = .ok (.iload 9, 2) := by decide +kernel
theorem dX12_two_95 : decode cX12_two 95 = .ok (.ifCond .ne 8, 3) := by decide +kernel
theorem dX12_two_98 : decode cX12_two 98 = .ok (.iload 10, 2) := by decide +kernel
theorem dX12_two_100 : decode cX12_two 100 = .ok (.ifCond .eq 132, 3) := by decide +kernel
theorem dX12_two_103 : decode cX12_two 103 = .ok (.iload 9, 2) := by decide +kernel
theorem dX12_two_105 : decode cX12_two 105 = .ok (.ifCond .eq 61, 3) := by decide +kernel
theorem dX12_two_108 : decode cX12_two 108 = .ok (.aload_n 0, 1) := by decide +kernel
theorem dX12_two_109 : decode cX12_two 109 = .ok (.iload 5, 2) := by decide +kernel
theorem dX12_two_111 : decode cX12_two 111 = .ok (.iload_n 1, 1) := by decide +kernel
theorem dX12_two_112 : decode cX12_two 112 = .ok (.iconst 1, 1) := by decide +kernel
theorem dX12_two_113 : decode cX12_two 113 = .ok (.invokevirtual 204, 3) := by decide +kernel
theorem dX12_two_116 : decode cX12_two 116 = .ok (.istore 11, 2) := by decide +kernel
theorem dX12_two_118 : decode cX12_two 118 = .ok (.iload 11, 2) := by decide +kernel
theorem dX12_two_120 : decode cX12_two 120 = .ok (.ifCond .lt 14, 3) := by decide +kernel
theorem dX12_two_123 : decode cX12_two 123 = .ok (.iload 11, 2) := by decide +kernel
theorem dX12_two_125 : decode cX12_two 125 = .ok (.iload 6, 2) := by decide +kernel
theorem dX12_two_127 : decode cX12_two 127 = .ok (.if_icmp .ge 7, 3) := by decide +kernel
theorem dX12_two_130 : decode cX12_two 130 = .ok (.iconst 1, 1) := by decide +kernel
theorem dX12_two_131 : decode cX12_two 131 = .ok (.goto 4, 3) := by decide +kernel
theorem dX12_two_134 : decode cX12_two 134 = .ok (.iconst 0, 1) := by decide +kernel
theorem dX12_two_135 : decode cX12_two 135 = .ok (.istore 9, 2) := by decide +kernel
theorem dX12_two_137 : decode cX12_two 137 = .ok (.iload 9, 2) := by decide +kernel
theorem dX12_two_139 : decode cX12_two 139 = .ok (.ifCond .eq 8, 3) := by decide +kernel
theorem dX12_two_142 : decode cX12_two 142 = .ok (.iload 11, 2) := by decide +kernel
theorem dX12_two_144 : decode cX12_two 144 = .ok (.goto 5, 3) := by decide +kernel
theorem dX12_two_147 : decode cX12_two 147 = .ok (.iload 5, 2) := by decide +kernel
theorem dX12_two_149 : decode cX12_two 149 = .ok (.istore 5, 2) := by decide +kernel
theorem dX12_two_151 : decode cX12_two 151 = .ok (.iload 7, 2) := by decide +kernel
theorem dX12_two_153 : decode cX12_two 153 = .ok (.iload 9, 2) := by decide +kernel
theorem dX12_two_155 : decode cX12_two 155 = .ok (.ifCond .eq 7, 3) := by decide +kernel
theorem dX12_two_158 : decode cX12_two 158 = .ok (.iload_n 1, 1) := by decide +kernel
theorem dX12_two_159 : decode cX12_two 159 = .ok (.goto 4, 3) := by decide +kernel
theorem dX12_two_162 : decode cX12_two 162 = .ok (.iconst 0, 1) := by decide +kernel
theorem dX12_two_163 : decode cX12_two 163 = .ok (.iadd, 1) := by decide +kernel
theorem dX12_two_164 : decode cX12_two 164 = .ok (.istore 7, 2) := by decide +kernel
theorem dX12_two_166 : decode cX12_two 166 = .ok (.iload 10, 2) := by decide +kernel
theorem dX12_two_168 : decode cX12_two 168 = .ok (.ifCond .eq (-75), 3) := by decide +kernel
theorem dX12_two_171 : decode cX12_two 171 = .ok (.aload_n 0, 1) := by decide +kernel
theorem dX12_two_172 : decode cX12_two 172 = .ok (.iload 6, 2) := by decide +kernel
theorem dX12_two_174 : decode cX12_two 174 = .ok (.iload_n 2, 1) := by decide +kernel
theorem dX12_two_175 : decode cX12_two 175 = .ok (.iconst (-1), 1) := by decide +kernel
theorem dX12_two_176 : decode cX12_two 176 = .ok (.invokevirtual 204, 3) := by decide +kernel
theorem dX12_two_179 : decode cX12_two 179 = .ok (.istore 11, 2) := by decide +kernel
theorem dX12_two_181 : decode cX12_two 181 = .ok (.iload 11, 2) := by decide +kernel
theorem dX12_two_183 : decode cX12_two 183 = .ok (.ifCond .lt 14, 3) := by decide +kernel
theorem dX12_two_186 : decode cX12_two 186 = .ok (.iload 11, 2) := by decide +kernel
theorem dX12_two_188 : decode cX12_two 188 = .ok (.iload 5, 2) := by decide +kernel
theorem dX12_two_190 : decode cX12_two 190 = .ok (.if_icmp .le 7, 3) := by decide +kernel
theorem dX12_two_193 : decode cX12_two 193 = .ok (.iconst 1, 1) := by decide +kernel
theorem dX12_two_194 : decode cX12_two 194 = .ok (.goto 4, 3) := by decide +kernel
theorem dX12_two_197 : decode cX12_two 197 = .ok (.iconst 0, 1) := by decide +kernel
theorem dX12_two_198 : decode cX12_two 198 = .ok (.istore 10, 2) := by decide +kernel
theorem dX12_two_200 : decode cX12_two 200 = .ok (.iload 10, 2) := by decide +kernel
theorem dX12_two_202 : decode cX12_two 202 = .ok (.ifCond .eq 8, 3) := by decide +kernel
theorem dX12_two_205 : decode cX12_two 205 = .ok (.iload 11, 2) := by decide +kernel
theorem dX12_two_207 : decode cX12_two 207 = .ok (.goto 5, 3) := by decide +kernel
theorem dX12_two_210 : decode cX12_two 210 = .ok (.iload 6, 2) := by decide +kernel
theorem dX12_two_212 : decode cX12_two 212 = .ok (.istore 6, 2) := by decide +kernel
theorem dX12_two_214 : decode cX12_two 214 = .ok (.iload 8, 2) := by decide +kernel
theorem dX12_two_216 : decode cX12_two 216 = .ok (.iload 10, 2) := by decide +kernel
theorem dX12_two_218 : decode cX12_two 218 = .ok (.ifCond .eq 7, 3) := by decide +kernel
theorem dX12_two_221 : decode cX12_two 221 = .ok (.iload_n 2, 1) := by decide +kernel
theorem dX12_two_222 : decode cX12_two 222 = .ok (.goto 4, 3) := by decide +kernel
theorem dX12_two_225 : decode cX12_two 225 = .ok (.iconst 0, 1) := by decide +kernel
theorem dX12_two_226 : decode cX12_two 226 = .ok (.iadd, 1) := by decide +kernel
theorem dX12_two_227 : decode cX12_two 227 = .ok (.istore 8, 2) := by decide +kernel
theorem dX12_two_229 : decode cX12_two 229 = .ok (.goto (-136), 3) := by decide +kernel
theorem dX12_two_232 : decode cX12_two 232 = .ok (.iload_n 3, 1) := by decide +kernel
theorem dX12_two_233 : decode cX12_two 233 = .ok (.ifCond .ne 8, 3) := by decide +kernel
theorem dX12_two_236 : decode cX12_two 236 = .ok (.iload 7, 2) := by decide +kernel
theorem dX12_two_238 : decode cX12_two 238 = .ok (.goto 5, 3) := by decide +kernel
theorem dX12_two_241 : decode cX12_two 241 = .ok (.iload 8, 2) := by decide +kernel
theorem dX12_two_243 : decode cX12_two 243 = .ok (.ireturn, 1) := by decide +kernel
theorem dX12_map_0 : decode cX12_map 0 = .ok (.iload_n 2, 1) := by decide +kernel
theorem dX12_map_1 : decode cX12_map 1 = .ok (.iconst 0, 1) := by decide +kernel
theorem dX12_map_2 : decode cX12_map 2 = .ok (.iconst 1, 1) := by decide +kernel
theorem dX12_map_3 : decode cX12_map 3 = .ok (.invokestatic 96, 3) := by decide +kernel
theorem dX12_map_6 : decode cX12_map 6 = .ok (.ifCond .ne 10, 3) := by decide +kernel
theorem dX12_map_9 : decode cX12_map 9 = .ok (.aload_n 0, 1) := by decide +kernel
theorem dX12_map_10 : decode cX12_map 10 = .ok (.bipush (-2), 2) := by decide +kernel
theorem dX12_map_12 : decode cX12_map 12 = .ok (.invokevirtual 85, 3) := by decide +kernel
theorem dX12_map_15 : decode cX12_map 15 = .ok (.ireturn, 1) := by decide +kernel
theorem dX12_map_16 : decode cX12_map 16 = .ok (.iload_n 1, 1) := by decide +kernel
theorem dX12_map_17 : decode cX12_map 17 = .ok (.ifCond .ge 10, 3) := by decide +kernel
theorem dX12_map_20 : decode cX12_map 20 = .ok (.aload_n 0, 1) := by decide +kernel
theorem dX12_map_21 : decode cX12_map 21 = .ok (.bipush (-4), 2) := by decide +kernel
theorem dX12_map_23 : decode cX12_map 23 = .ok (.invokevirtual 85, 3) := by decide +kernel
theorem dX12_map_26 : decode cX12_map 26 = .ok (.ireturn, 1) := by decide +kernel
theorem dX12_map_27 : decode cX12_map 27 = .ok (.aload_n 0, 1) := by decide +kernel
theorem dX12_map_28 : decode cX12_map 28 = .ok (.getfield 129, 3) := by decide +kernel
theorem dX12_map_31 : decode cX12_map 31 = .ok (.istore_n 3, 1) := by decide +kernel
theorem dX12_map_32 : decode cX12_map 32 = .ok (.iconst 0, 1) := by decide +kernel
theorem dX12_map_33 : decode cX12_map 33 = .ok (.istore 4, 2) := by decide +kernel
theorem dX12_map_35 : decode cX12_map 35 = .ok (.bipush (-9), 2) := by decide +kernel
theorem dX12_map_37 : decode cX12_map 37 = .ok (.istore 5, 2) := by decide +kernel
theorem dX12_map_39 : decode cX12_map 39 = .ok (.iconst 0, 1) := by decide +kernel
theorem dX12_map_40 : decode cX12_map 40 = .ok (.istore 6, 2) := by decide +kernel
theorem dX12_map_42 : decode cX12_map 42 = .ok (.iload 6, 2) := by decide +kernel
theorem dX12_map_44 : decode cX12_map 44 = .ok (.sipush 900, 3) := by decide +kernel
theorem dX12_map_47 : decode cX12_map 47 = .ok (.if_icmp .ge 64, 3) := by decide +kernel
theorem dX12_map_50 : decode cX12_map 50 = .ok (.aload_n 0, 1) := by decide +kernel
theorem dX12_map_51 : decode cX12_map 51 = .ok (.iload 6, 2) := by decide +kernel
theorem dX12_map_53 : decode cX12_map 53 = .ok (.bipush 10, 2) := by decide +kernel
theorem dX12_map_55 : decode cX12_map 55 = .ok (.irem, 1) := by decide +kernel
theorem dX12_map_56 : decode cX12_map 56 = .ok (.putfield 129, 3) := by decide +kernel
theorem dX12_map_59 : decode cX12_map 59 = .ok (.aload_n 0, 1) := by decide +kernel
theorem dX12_map_60 : decode cX12_map 60 = .ok (.iconst 1, 1) := by decide +kernel
theorem dX12_map_61 : decode cX12_map 61 = .ok (.iload 6, 2) := by decide +kernel
theorem dX12_map_63 : decode cX12_map 63 = .ok (.bipush 100, 2) := by decide +kernel
theorem dX12_map_65 : decode cX12_map 65 = .ok (.idiv, 1) := by decide +kernel
theorem dX12_map_66 : decode cX12_map 66 = .ok (.iadd, 1) := by decide +kernel
theorem dX12_map_67 : decode cX12_map 67 = .ok (.iload 6, 2) := by decide +kernel
theorem dX12_map_69 : decode cX12_map 69 = .ok (.bipush 10, 2) := by decide +kernel
theorem dX12_map_71 : decode cX12_map 71 = .ok (.idiv, 1) := by decide +kernel
theorem dX12_map_72 : decode cX12_map 72 = .ok (.bipush 10, 2) := by decide +kernel
theorem dX12_map_74 : decode cX12_map 74 = .ok (.irem, 1) := by decide +kernel
theorem dX12_map_75 : decode cX12_map 75 = .ok (.invokevirtual 192, 3) := by decide +kernel
theorem dX12_map_78 : decode cX12_map 78 = .ok (.iload_n 1, 1) := by decide +kernel
theorem dX12_map_79 : decode cX12_map 79 = .ok (.if_icmp .eq 6, 3) := by decide +kernel
theorem dX12_map_82 : decode cX12_map 82 = .ok (.goto 23, 3) := by decide +kernel
theorem dX12_map_85 : decode cX12_map 85 = .ok (.iload 4, 2) := by decide +kernel
theorem dX12_map_87 : decode cX12_map 87 = .ok (.ifCond .ne 11, 3) := by decide +kernel
theorem dX12_map_90 : decode cX12_map 90 = .ok (.bipush 100, 2) := by decide +kernel
theorem dX12_map_92 : decode cX12_map 92 = .ok (.iload 6, 2) := by decide +kernel
theorem dX12_map_94 : decode cX12_map 94 = .ok (.iadd, 1) := by decide +kernel
theorem dX12_map_95 : decode cX12_map 95 = .ok (.goto 5, 3) := by decide +kernel
theorem dX12_map_98 : decode cX12_map 98 = .ok (.iload 5, 2) := by decide +kernel
theorem dX12_map_100 : decode cX12_map 100 = .ok (.istore 5, 2) := by decide +kernel
theorem dX12_map_102 : decode cX12_map 102 = .ok (.iinc 4 1, 3) := by decide +kernel
theorem dX12_map_105 : decode cX12_map 105 = .ok (.iinc 6 1, 3) := by decide +kernel
theorem dX12_map_108 : decode cX12_map 108 = .ok (.goto (-66), 3) := by decide +kernel
theorem dX12_map_111 : decode cX12_map 111 = .ok (.aload_n 0, 1) := by decide +kernel
theorem dX12_map_112 : decode cX12_map 112 = .ok (.iload_n 3, 1) := by decide +kernel
theorem dX12_map_113 : decode cX12_map 113 = .ok (.putfield 129, 3) := by decide +kernel
theorem dX12_map_116 : decode cX12_map 116 = .ok (.iload_n 2, 1) := by decide +kernel
theorem dX12_map_117 : decode cX12_map 117 = .ok (.ifCond .ne 8, 3) := by decide +kernel
theorem dX12_map_120 : decode cX12_map 120 = .ok (.iload 4, 2) := by decide +kernel
theorem dX12_map_122 : decode cX12_map 122 = .ok (.goto 5, 3) := by decide +kernel
theorem dX12_map_125 : decode cX12_map 125 = .ok (.iload 5, 2) := by decide +kernel
theorem dX12_map_127 : decode cX12_map 127 = .ok (.ireturn, 1) := by decide +kernel
theorem dX12_isIsland_0 : decode cX12_isIsland 0 = .ok (.iload_n 2, 1) := by decide +kernel
theorem dX12_isIsland_1 : decode cX12_isIsland 1 = .ok (.aload_n 0, 1) := by decide +kernel
theorem dX12_isIsland_2 : decode cX12_isIsland 2 = .ok (.getfield 40, 3) := by decide +kernel
theorem dX12_isIsland_5 : decode cX12_isIsland 5 = .ok (.iload_n 1, 1) := by decide +kernel
theorem dX12_isIsland_6 : decode cX12_isIsland 6 = .ok (.iaload, 1) := by decide +kernel
theorem dX12_isIsland_7 : decode cX12_isIsland 7 = .ok (.if_icmp .lt 17, 3) := by decide +kernel
theorem dX12_isIsland_10 : decode cX12_isIsland 10 = .ok (.iload_n 2, 1) := by decide +kernel
theorem dX12_isIsland_11 : decode cX12_isIsland 11 = .ok (.aload_n 0, 1) := by decide +kernel
theorem dX12_isIsland_12 : decode cX12_isIsland 12 = .ok (.getfield 43, 3) := by decide +kernel
theorem dX12_isIsland_15 : decode cX12_isIsland 15 = .ok (.iload_n 1, 1) := by decide +kernel
theorem dX12_isIsland_16 : decode cX12_isIsland 16 = .ok (.iaload, 1) := by decide +kernel
theorem dX12_isIsland_17 : decode cX12_isIsland 17 = .ok (.if_icmp .gt 7, 3) := by decide +kernel
theorem dX12_isIsland_20 : decode cX12_isIsland 20 = .ok (.iconst 1, 1) := by decide +kernel
theorem dX12_isIsland_21 : decode cX12_isIsland 21 = .ok (.goto 4, 3) := by decide +kernel
theorem dX12_isIsland_24 : decode cX12_isIsland 24 = .ok (.iconst 0, 1) := by decide +kernel
theorem dX12_isIsland_25 : decode cX12_isIsland 25 = .ok (.ireturn, 1) := by decide +kernel
theorem dX12_rock_0 : decode cX12_rock 0 = .ok (.iload_n 1, 1) := by decide +kernel
theorem dX12_rock_1 : decode cX12_rock 1 = .ok (.iconst 0, 1) := by decide +kernel
theorem dX12_rock_2 : decode cX12_rock 2 = .ok (.aload_n 0, 1) := by decide +kernel
theorem dX12_rock_3 : decode cX12_rock 3 = .ok (.getfield 120, 3) := by decide +kernel
theorem dX12_rock_6 : decode cX12_rock 6 = .ok (.iconst 1, 1) := by decide +kernel
theorem dX12_rock_7 : decode cX12_rock 7 = .ok (.isub, 1) := by decide +kernel
theorem dX12_rock_8 : decode cX12_rock 8 = .ok (.invokestatic 96, 3) := by decide +kernel
theorem dX12_rock_11 : decode cX12_rock 11 = .ok (.ifCond .ne 9, 3) := by decide +kernel
theorem dX12_rock_14 : decode cX12_rock 14 = .ok (.aload_n 0, 1) := by decide +kernel
theorem dX12_rock_15 : decode cX12_rock 15 = .ok (.iconst (-1), 1) := by decide +kernel
theorem dX12_rock_16 : decode cX12_rock 16 = .ok (.invokevirtual 85, 3) := by decide +kernel
theorem dX12_rock_19 : decode cX12_rock 19 = .ok (.ireturn, 1) := by decide +kernel
theorem dX12_rock_20 : decode cX12_rock 20 = .ok (.iload_n 2, 1) := by decide +kernel
theorem dX12_rock_21 : decode cX12_rock 21 = .ok (.tableswitch 81 0 4 #[35, 42, 49, 56, 63], 35) := by decide +kernel
theorem dX12_rock_56 : decode cX12_rock 56 = .ok (.aload_n 0, 1) := by decide +kernel
theorem dX12_rock_57 : decode cX12_rock 57 = .ok (.getfield 34, 3) := by decide +kernel
theorem dX12_rock_60 : decode cX12_rock 60 = .ok (.iload_n 1, 1) := by decide +kernel
theorem dX12_rock_61 : decode cX12_rock 61 = .ok (.iaload, 1) := by decide +kernel
theorem dX12_rock_62 : decode cX12_rock 62 = .ok (.ireturn, 1) := by decide +kernel
theorem dX12_rock_63 : decode cX12_rock 63 = .ok (.aload_n 0, 1) := by decide +kernel
theorem dX12_rock_64 : decode cX12_rock 64 = .ok (.getfield 37, 3) := by decide +kernel
theorem dX12_rock_67 : decode cX12_rock 67 = .ok (.iload_n 1, 1) := by decide +kernel
theorem dX12_rock_68 : decode cX12_rock 68 = .ok (.iaload, 1) := by decide +kernel
theorem dX12_rock_69 : decode cX12_rock 69 = .ok (.ireturn, 1) := by decide +kernel
theorem dX12_rock_70 : decode cX12_rock 70 = .ok (.aload_n 0, 1) := by decide +kernel
theorem dX12_rock_71 : decode cX12_rock 71 = .ok (.getfield 40, 3) := by decide +kernel
theorem dX12_rock_74 : decode cX12_rock 74 = .ok (.iload_n 1, 1) := by decide +kernel
theorem dX12_rock_75 : decode cX12_rock 75 = .ok (.iaload, 1) := by decide +kernel
theorem dX12_rock_76 : decode cX12_rock 76 = .ok (.ireturn, 1) := by decide +kernel
theorem dX12_rock_77 : decode cX12_rock 77 = .ok (.aload_n 0, 1) := by decide +kernel
theorem dX12_rock_78 : decode cX12_rock 78 = .ok (.getfield 43, 3) := by decide +kernel
theorem dX12_rock_81 : decode cX12_rock 81 = .ok (.iload_n 1, 1) := by decide +kernel
theorem dX12_rock_82 : decode cX12_rock 82 = .ok (.iaload, 1) := by decide +kernel
theorem dX12_rock_83 : decode cX12_rock 83 = .ok (.ireturn, 1) := by decide +kernel
theorem dX12_rock_84 : decode cX12_rock 84 = .ok (.aload_n 0, 1) := by decide +kernel
theorem dX12_rock_85 : decode cX12_rock 85 = .ok (.iload_n 1, 1) := by decide +kernel
theorem dX12_rock_86 : decode cX12_rock 86 = .ok (.aload_n 0, 1) := by decide +kernel
theorem dX12_rock_87 : decode cX12_rock 87 = .ok (.getfield 129, 3) := by decide +kernel
theorem dX12_rock_90 : decode cX12_rock 90 = .ok (.invokevirtual 207, 3) := by decide +kernel
theorem dX12_rock_93 : decode cX12_rock 93 = .ok (.ifCond .eq 7, 3) := by decide +kernel
theorem dX12_rock_96 : decode cX12_rock 96 = .ok (.iconst 1, 1) := by decide +kernel
theorem dX12_rock_97 : decode cX12_rock 97 = .ok (.goto 4, 3) := by decide +kernel
theorem dX12_rock_100 : decode cX12_rock 100 = .ok (.iconst 0, 1) := by decide +kernel
theorem dX12_rock_101 : decode cX12_rock 101 = .ok (.ireturn, 1) := by decide +kernel
theorem dX12_rock_102 : decode cX12_rock 102 = .ok (.aload_n 0, 1) := by decide +kernel
theorem dX12_rock_103 : decode cX12_rock 103 = .ok (.bipush (-2), 2) := by decide +kernel
theorem dX12_rock_105 : decode cX12_rock 105 = .ok (.invokevirtual 85, 3) := by decide +kernel
theorem dX12_rock_108 : decode cX12_rock 108 = .ok (.ireturn, 1) := by decide +kernel
theorem dX12_islands_0 : decode cX12_islands 0 = .ok (.iconst 0, 1) := by decide +kernel
theorem dX12_islands_1 : decode cX12_islands 1 = .ok (.istore_n 1, 1) := by decide +kernel
theorem dX12_islands_2 : decode cX12_islands 2 = .ok (.iconst 0, 1) := by decide +kernel
theorem dX12_islands_3 : decode cX12_islands 3 = .ok (.istore_n 2, 1) := by decide +kernel
theorem dX12_islands_4 : decode cX12_islands 4 = .ok (.iload_n 2, 1) := by decide +kernel
theorem dX12_islands_5 : decode cX12_islands 5 = .ok (.aload_n 0, 1) := by decide +kernel
theorem dX12_islands_6 : decode cX12_islands 6 = .ok (.getfield 120, 3) := by decide +kernel
theorem dX12_islands_9 : decode cX12_islands 9 = .ok (.if_icmp .ge 31, 3) := by decide +kernel
theorem dX12_islands_12 : decode cX12_islands 12 = .ok (.iload_n 1, 1) := by decide +kernel
theorem dX12_islands_13 : decode cX12_islands 13 = .ok (.aload_n 0, 1) := by decide +kernel
theorem dX12_islands_14 : decode cX12_islands 14 = .ok (.iload_n 2, 1) := by decide +kernel
theorem dX12_islands_15 : decode cX12_islands 15 = .ok (.aload_n 0, 1) := by decide +kernel
theorem dX12_islands_16 : decode cX12_islands 16 = .ok (.getfield 129, 3) := by decide +kernel
theorem dX12_islands_19 : decode cX12_islands 19 = .ok (.invokevirtual 207, 3) := by decide +kernel
theorem dX12_islands_22 : decode cX12_islands 22 = .ok (.ifCond .eq 9, 3) := by decide +kernel
theorem dX12_islands_25 : decode cX12_islands 25 = .ok (.iconst 1, 1) := by decide +kernel
theorem dX12_islands_26 : decode cX12_islands 26 = .ok (.iload_n 2, 1) := by decide +kernel
theorem dX12_islands_27 : decode cX12_islands 27 = .ok (.ishl, 1) := by decide +kernel
theorem dX12_islands_28 : decode cX12_islands 28 = .ok (.goto 4, 3) := by decide +kernel
theorem dX12_islands_31 : decode cX12_islands 31 = .ok (.iconst 0, 1) := by decide +kernel
theorem dX12_islands_32 : decode cX12_islands 32 = .ok (.ior, 1) := by decide +kernel
theorem dX12_islands_33 : decode cX12_islands 33 = .ok (.istore_n 1, 1) := by decide +kernel
theorem dX12_islands_34 : decode cX12_islands 34 = .ok (.iinc 2 1, 3) := by decide +kernel
theorem dX12_islands_37 : decode cX12_islands 37 = .ok (.goto (-33), 3) := by decide +kernel
theorem dX12_islands_40 : decode cX12_islands 40 = .ok (.iload_n 1, 1) := by decide +kernel
theorem dX12_islands_41 : decode cX12_islands 41 = .ok (.ireturn, 1) := by decide +kernel
theorem dX12_areSeen_0 : decode cX12_areSeen 0 = .ok (.iconst 0, 1) := by decide +kernel
theorem dX12_areSeen_1 : decode cX12_areSeen 1 = .ok (.istore_n 2, 1) := by decide +kernel
theorem dX12_areSeen_2 : decode cX12_areSeen 2 = .ok (.iload_n 2, 1) := by decide +kernel
theorem dX12_areSeen_3 : decode cX12_areSeen 3 = .ok (.aload_n 0, 1) := by decide +kernel
theorem dX12_areSeen_4 : decode cX12_areSeen 4 = .ok (.getfield 120, 3) := by decide +kernel
theorem dX12_areSeen_7 : decode cX12_areSeen 7 = .ok (.if_icmp .ge 63, 3) := by decide +kernel
theorem dX12_areSeen_10 : decode cX12_areSeen 10 = .ok (.iconst 0, 1) := by decide +kernel
theorem dX12_areSeen_11 : decode cX12_areSeen 11 = .ok (.istore_n 3, 1) := by decide +kernel
theorem dX12_areSeen_12 : decode cX12_areSeen 12 = .ok (.iconst 0, 1) := by decide +kernel
theorem dX12_areSeen_13 : decode cX12_areSeen 13 = .ok (.istore 4, 2) := by decide +kernel
theorem dX12_areSeen_15 : decode cX12_areSeen 15 = .ok (.iload 4, 2) := by decide +kernel
theorem dX12_areSeen_17 : decode cX12_areSeen 17 = .ok (.bipush 10, 2) := by decide +kernel
theorem dX12_areSeen_19 : decode cX12_areSeen 19 = .ok (.if_icmp .ge 39, 3) := by decide +kernel
theorem dX12_areSeen_22 : decode cX12_areSeen 22 = .ok (.iload_n 3, 1) := by decide +kernel
theorem dX12_areSeen_23 : decode cX12_areSeen 23 = .ok (.ifCond .ne 23, 3) := by decide +kernel
theorem dX12_areSeen_26 : decode cX12_areSeen 26 = .ok (.iload_n 1, 1) := by decide +kernel
theorem dX12_areSeen_27 : decode cX12_areSeen 27 = .ok (.iload 4, 2) := by decide +kernel
theorem dX12_areSeen_29 : decode cX12_areSeen 29 = .ok (.ishr, 1) := by decide +kernel
theorem dX12_areSeen_30 : decode cX12_areSeen 30 = .ok (.iconst 1, 1) := by decide +kernel
theorem dX12_areSeen_31 : decode cX12_areSeen 31 = .ok (.iand, 1) := by decide +kernel
theorem dX12_areSeen_32 : decode cX12_areSeen 32 = .ok (.iconst 1, 1) := by decide +kernel
theorem dX12_areSeen_33 : decode cX12_areSeen 33 = .ok (.if_icmp .ne 17, 3) := by decide +kernel
theorem dX12_areSeen_36 : decode cX12_areSeen 36 = .ok (.aload_n 0, 1) := by decide +kernel
theorem dX12_areSeen_37 : decode cX12_areSeen 37 = .ok (.iload_n 2, 1) := by decide +kernel
theorem dX12_areSeen_38 : decode cX12_areSeen 38 = .ok (.iload 4, 2) := by decide +kernel
theorem dX12_areSeen_40 : decode cX12_areSeen 40 = .ok (.invokevirtual 207, 3) := by decide +kernel
theorem dX12_areSeen_43 : decode cX12_areSeen 43 = .ok (.ifCond .eq 7, 3) := by decide +kernel
theorem dX12_areSeen_46 : decode cX12_areSeen 46 = .ok (.iconst 1, 1) := by decide +kernel
theorem dX12_areSeen_47 : decode cX12_areSeen 47 = .ok (.goto 4, 3) := by decide +kernel
theorem dX12_areSeen_50 : decode cX12_areSeen 50 = .ok (.iconst 0, 1) := by decide +kernel
theorem dX12_areSeen_51 : decode cX12_areSeen 51 = .ok (.istore_n 3, 1) := by decide +kernel
theorem dX12_areSeen_52 : decode cX12_areSeen 52 = .ok (.iinc 4 1, 3) := by decide +kernel
theorem dX12_areSeen_55 : decode cX12_areSeen 55 = .ok (.goto (-40), 3) := by decide +kernel
theorem dX12_areSeen_58 : decode cX12_areSeen 58 = .ok (.iload_n 3, 1) := by decide +kernel
theorem dX12_areSeen_59 : decode cX12_areSeen 59 = .ok (.ifCond .ne 5, 3) := by decide +kernel
theorem dX12_areSeen_62 : decode cX12_areSeen 62 = .ok (.iconst 0, 1) := by decide +kernel
theorem dX12_areSeen_63 : decode cX12_areSeen 63 = .ok (.ireturn, 1) := by decide +kernel
theorem dX12_areSeen_64 : decode cX12_areSeen 64 = .ok (.iinc 2 1, 3) := by decide +kernel
theorem dX12_areSeen_67 : decode cX12_areSeen 67 = .ok (.goto (-65), 3) := by decide +kernel
theorem dX12_areSeen_70 : decode cX12_areSeen 70 = .ok (.iconst 1, 1) := by decide +kernel
theorem dX12_areSeen_71 : decode cX12_areSeen 71 = .ok (.ireturn, 1) := by decide +kernel
theorem dX12_bits_0 : decode cX12_bits 0 = .ok (.iconst 0, 1) := by decide +kernel
theorem dX12_bits_1 : decode cX12_bits 1 = .ok (.istore_n 1, 1) := by decide +kernel
theorem dX12_bits_2 : decode cX12_bits 2 = .ok (.iconst 0, 1) := by decide +kernel
theorem dX12_bits_3 : decode cX12_bits 3 = .ok (.istore_n 2, 1) := by decide +kernel
theorem dX12_bits_4 : decode cX12_bits 4 = .ok (.iload_n 2, 1) := by decide +kernel
theorem dX12_bits_5 : decode cX12_bits 5 = .ok (.bipush 31, 2) := by decide +kernel
theorem dX12_bits_7 : decode cX12_bits 7 = .ok (.if_icmp .ge 17, 3) := by decide +kernel
theorem dX12_bits_10 : decode cX12_bits 10 = .ok (.iload_n 1, 1) := by decide +kernel
theorem dX12_bits_11 : decode cX12_bits 11 = .ok (.iload_n 0, 1) := by decide +kernel
theorem dX12_bits_12 : decode cX12_bits 12 = .ok (.iload_n 2, 1) := by decide +kernel
theorem dX12_bits_13 : decode cX12_bits 13 = .ok (.ishr, 1) := by decide +kernel
theorem dX12_bits_14 : decode cX12_bits 14 = .ok (.iconst 1, 1) := by decide +kernel
theorem dX12_bits_15 : decode cX12_bits 15 = .ok (.iand, 1) := by decide +kernel
theorem dX12_bits_16 : decode cX12_bits 16 = .ok (.iadd, 1) := by decide +kernel
theorem dX12_bits_17 : decode cX12_bits 17 = .ok (.istore_n 1, 1) := by decide +kernel
theorem dX12_bits_18 : decode cX12_bits 18 = .ok (.iinc 2 1, 3) := by decide +kernel
theorem dX12_bits_21 : decode cX12_bits 21 = .ok (.goto (-17), 3) := by decide +kernel
theorem dX12_bits_24 : decode cX12_bits 24 = .ok (.iload_n 1, 1) := by decide +kernel
theorem dX12_bits_25 : decode cX12_bits 25 = .ok (.ireturn, 1) := by decide +kernel
theorem dX12_hours_0 : decode cX12_hours 0 = .ok (.iload_n 1, 1) := by decide +kernel
theorem dX12_hours_1 : decode cX12_hours 1 = .ok (.iconst 0, 1) := by decide +kernel
theorem dX12_hours_2 : decode cX12_hours 2 = .ok (.iconst 1, 1) := by decide +kernel
theorem dX12_hours_3 : decode cX12_hours 3 = .ok (.invokestatic 96, 3) := by decide +kernel
theorem dX12_hours_6 : decode cX12_hours 6 = .ok (.ifCond .ne 10, 3) := by decide +kernel
theorem dX12_hours_9 : decode cX12_hours 9 = .ok (.aload_n 0, 1) := by decide +kernel
theorem dX12_hours_10 : decode cX12_hours 10 = .ok (.bipush (-2), 2) := by decide +kernel
theorem dX12_hours_12 : decode cX12_hours 12 = .ok (.invokevirtual 85, 3) := by decide +kernel
theorem dX12_hours_15 : decode cX12_hours 15 = .ok (.ireturn, 1) := by decide +kernel
theorem dX12_hours_16 : decode cX12_hours 16 = .ok (.sipush 1023, 3) := by decide +kernel
theorem dX12_hours_19 : decode cX12_hours 19 = .ok (.istore_n 2, 1) := by decide +kernel
theorem dX12_hours_20 : decode cX12_hours 20 = .ok (.iload_n 2, 1) := by decide +kernel
theorem dX12_hours_21 : decode cX12_hours 21 = .ok (.istore_n 3, 1) := by decide +kernel
theorem dX12_hours_22 : decode cX12_hours 22 = .ok (.iload_n 3, 1) := by decide +kernel
theorem dX12_hours_23 : decode cX12_hours 23 = .ok (.ifCond .lt 30, 3) := by decide +kernel
theorem dX12_hours_26 : decode cX12_hours 26 = .ok (.iload_n 3, 1) := by decide +kernel
theorem dX12_hours_27 : decode cX12_hours 27 = .ok (.invokestatic 210, 3) := by decide +kernel
theorem dX12_hours_30 : decode cX12_hours 30 = .ok (.iload_n 2, 1) := by decide +kernel
theorem dX12_hours_31 : decode cX12_hours 31 = .ok (.invokestatic 210, 3) := by decide +kernel
theorem dX12_hours_34 : decode cX12_hours 34 = .ok (.if_icmp .gt 13, 3) := by decide +kernel
theorem dX12_hours_37 : decode cX12_hours 37 = .ok (.aload_n 0, 1) := by decide +kernel
theorem dX12_hours_38 : decode cX12_hours 38 = .ok (.iload_n 3, 1) := by decide +kernel
theorem dX12_hours_39 : decode cX12_hours 39 = .ok (.invokevirtual 213, 3) := by decide +kernel
theorem dX12_hours_42 : decode cX12_hours 42 = .ok (.ifCond .eq 5, 3) := by decide +kernel
theorem dX12_hours_45 : decode cX12_hours 45 = .ok (.iload_n 3, 1) := by decide +kernel
theorem dX12_hours_46 : decode cX12_hours 46 = .ok (.istore_n 2, 1) := by decide +kernel
theorem dX12_hours_47 : decode cX12_hours 47 = .ok (.iinc 3 (-1), 3) := by decide +kernel
theorem dX12_hours_50 : decode cX12_hours 50 = .ok (.goto (-28), 3) := by decide +kernel
theorem dX12_hours_53 : decode cX12_hours 53 = .ok (.iload_n 1, 1) := by decide +kernel
theorem dX12_hours_54 : decode cX12_hours 54 = .ok (.ifCond .ne 10, 3) := by decide +kernel
theorem dX12_hours_57 : decode cX12_hours 57 = .ok (.iload_n 2, 1) := by decide +kernel
theorem dX12_hours_58 : decode cX12_hours 58 = .ok (.invokestatic 210, 3) := by decide +kernel
theorem dX12_hours_61 : decode cX12_hours 61 = .ok (.goto 4, 3) := by decide +kernel
theorem dX12_hours_64 : decode cX12_hours 64 = .ok (.iload_n 2, 1) := by decide +kernel
theorem dX12_hours_65 : decode cX12_hours 65 = .ok (.ireturn, 1) := by decide +kernel
theorem dX12_nextOrder_0 : decode cX12_nextOrder 0 = .ok (.aload_n 0, 1) := by decide +kernel
theorem dX12_nextOrder_1 : decode cX12_nextOrder 1 = .ok (.getfield 216, 3) := by decide +kernel
theorem dX12_nextOrder_4 : decode cX12_nextOrder 4 = .ok (.iconst 2, 1) := by decide +kernel
theorem dX12_nextOrder_5 : decode cX12_nextOrder 5 = .ok (.isub, 1) := by decide +kernel
theorem dX12_nextOrder_6 : decode cX12_nextOrder 6 = .ok (.istore_n 1, 1) := by decide +kernel
theorem dX12_nextOrder_7 : decode cX12_nextOrder 7 = .ok (.iload_n 1, 1) := by decide +kernel
theorem dX12_nextOrder_8 : decode cX12_nextOrder 8 = .ok (.ifCond .lt 26, 3) := by decide +kernel
theorem dX12_nextOrder_11 : decode cX12_nextOrder 11 = .ok (.aload_n 0, 1) := by decide +kernel
theorem dX12_nextOrder_12 : decode cX12_nextOrder 12 = .ok (.getfield 67, 3) := by decide +kernel
theorem dX12_nextOrder_15 : decode cX12_nextOrder 15 = .ok (.iload_n 1, 1) := by decide +kernel
theorem dX12_nextOrder_16 : decode cX12_nextOrder 16 = .ok (.iaload, 1) := by decide +kernel
theorem dX12_nextOrder_17 : decode cX12_nextOrder 17 = .ok (.aload_n 0, 1) := by decide +kernel
theorem dX12_nextOrder_18 : decode cX12_nextOrder 18 = .ok (.getfield 67, 3) := by decide +kernel
theorem dX12_nextOrder_21 : decode cX12_nextOrder 21 = .ok (.iload_n 1, 1) := by decide +kernel
theorem dX12_nextOrder_22 : decode cX12_nextOrder 22 = .ok (.iconst 1, 1) := by decide +kernel
theorem dX12_nextOrder_23 : decode cX12_nextOrder 23 = .ok (.iadd, 1) := by decide +kernel
theorem dX12_nextOrder_24 : decode cX12_nextOrder 24 = .ok (.iaload, 1) := by decide +kernel
theorem dX12_nextOrder_25 : decode cX12_nextOrder 25 = .ok (.if_icmp .le 9, 3) := by decide +kernel
theorem dX12_nextOrder_28 : decode cX12_nextOrder 28 = .ok (.iinc 1 (-1), 3) := by decide +kernel
theorem dX12_nextOrder_31 : decode cX12_nextOrder 31 = .ok (.goto (-24), 3) := by decide +kernel
theorem dX12_nextOrder_34 : decode cX12_nextOrder 34 = .ok (.iload_n 1, 1) := by decide +kernel
theorem dX12_nextOrder_35 : decode cX12_nextOrder 35 = .ok (.ifCond .ge 5, 3) := by decide +kernel
theorem dX12_nextOrder_38 : decode cX12_nextOrder 38 = .ok (.iconst 0, 1) := by decide +kernel
theorem dX12_nextOrder_39 : decode cX12_nextOrder 39 = .ok (.ireturn, 1) := by decide +kernel
theorem dX12_nextOrder_40 : decode cX12_nextOrder 40 = .ok (.aload_n 0, 1) := by decide +kernel
theorem dX12_nextOrder_41 : decode cX12_nextOrder 41 = .ok (.getfield 216, 3) := by decide +kernel
theorem dX12_nextOrder_44 : decode cX12_nextOrder 44 = .ok (.iconst 1, 1) := by decide +kernel
theorem dX12_nextOrder_45 : decode cX12_nextOrder 45 = .ok (.isub, 1) := by decide +kernel
theorem dX12_nextOrder_46 : decode cX12_nextOrder 46 = .ok (.istore_n 2, 1) := by decide +kernel
theorem dX12_nextOrder_47 : decode cX12_nextOrder 47 = .ok (.aload_n 0, 1) := by decide +kernel
theorem dX12_nextOrder_48 : decode cX12_nextOrder 48 = .ok (.getfield 67, 3) := by decide +kernel
theorem dX12_nextOrder_51 : decode cX12_nextOrder 51 = .ok (.iload_n 2, 1) := by decide +kernel
theorem dX12_nextOrder_52 : decode cX12_nextOrder 52 = .ok (.iaload, 1) := by decide +kernel
theorem dX12_nextOrder_53 : decode cX12_nextOrder 53 = .ok (.aload_n 0, 1) := by decide +kernel
theorem dX12_nextOrder_54 : decode cX12_nextOrder 54 = .ok (.getfield 67, 3) := by decide +kernel
theorem dX12_nextOrder_57 : decode cX12_nextOrder 57 = .ok (.iload_n 1, 1) := by decide +kernel
theorem dX12_nextOrder_58 : decode cX12_nextOrder 58 = .ok (.iaload, 1) := by decide +kernel
theorem dX12_nextOrder_59 : decode cX12_nextOrder 59 = .ok (.if_icmp .ge 9, 3) := by decide +kernel
theorem dX12_nextOrder_62 : decode cX12_nextOrder 62 = .ok (.iinc 2 (-1), 3) := by decide +kernel
theorem dX12_nextOrder_65 : decode cX12_nextOrder 65 = .ok (.goto (-18), 3) := by decide +kernel
theorem dX12_nextOrder_68 : decode cX12_nextOrder 68 = .ok (.aload_n 0, 1) := by decide +kernel
theorem dX12_nextOrder_69 : decode cX12_nextOrder 69 = .ok (.iload_n 1, 1) := by decide +kernel
theorem dX12_nextOrder_70 : decode cX12_nextOrder 70 = .ok (.iload_n 2, 1) := by decide +kernel
theorem dX12_nextOrder_71 : decode cX12_nextOrder 71 = .ok (.invokevirtual 219, 3) := by decide +kernel
theorem dX12_nextOrder_74 : decode cX12_nextOrder 74 = .ok (.iload_n 1, 1) := by decide +kernel
theorem dX12_nextOrder_75 : decode cX12_nextOrder 75 = .ok (.iconst 1, 1) := by decide +kernel
theorem dX12_nextOrder_76 : decode cX12_nextOrder 76 = .ok (.iadd, 1) := by decide +kernel
theorem dX12_nextOrder_77 : decode cX12_nextOrder 77 = .ok (.istore_n 3, 1) := by decide +kernel
theorem dX12_nextOrder_78 : decode cX12_nextOrder 78 = .ok (.aload_n 0, 1) := by decide +kernel
theorem dX12_nextOrder_79 : decode cX12_nextOrder 79 = .ok (.getfield 216, 3) := by decide +kernel
theorem dX12_nextOrder_82 : decode cX12_nextOrder 82 = .ok (.iconst 1, 1) := by decide +kernel
theorem dX12_nextOrder_83 : decode cX12_nextOrder 83 = .ok (.isub, 1) := by decide +kernel
theorem dX12_nextOrder_84 : decode cX12_nextOrder 84 = .ok (.istore 4, 2) := by decide +kernel
theorem dX12_nextOrder_86 : decode cX12_nextOrder 86 = .ok (.iload_n 3, 1) := by decide +kernel
theorem dX12_nextOrder_87 : decode cX12_nextOrder 87 = .ok (.iload 4, 2) := by decide +kernel
theorem dX12_nextOrder_89 : decode cX12_nextOrder 89 = .ok (.if_icmp .ge 19, 3) := by decide +kernel
theorem dX12_nextOrder_92 : decode cX12_nextOrder 92 = .ok (.aload_n 0, 1) := by decide +kernel
theorem dX12_nextOrder_93 : decode cX12_nextOrder 93 = .ok (.iload_n 3, 1) := by decide +kernel
theorem dX12_nextOrder_94 : decode cX12_nextOrder 94 = .ok (.iload 4, 2) := by decide +kernel
theorem dX12_nextOrder_96 : decode cX12_nextOrder 96 = .ok (.invokevirtual 219, 3) := by decide +kernel
theorem dX12_nextOrder_99 : decode cX12_nextOrder 99 = .ok (.iinc 3 1, 3) := by decide +kernel
theorem dX12_nextOrder_102 : decode cX12_nextOrder 102 = .ok (.iinc 4 (-1), 3) := by decide +kernel
theorem dX12_nextOrder_105 : decode cX12_nextOrder 105 = .ok (.goto (-19), 3) := by decide +kernel
theorem dX12_nextOrder_108 : decode cX12_nextOrder 108 = .ok (.iconst 1, 1) := by decide +kernel
theorem dX12_nextOrder_109 : decode cX12_nextOrder 109 = .ok (.ireturn, 1) := by decide +kernel
theorem dX12_changes_0 : decode cX12_changes 0 = .ok (.aload_n 0, 1) := by decide +kernel
theorem dX12_changes_1 : decode cX12_changes 1 = .ok (.getfield 67, 3) := by decide +kernel
theorem dX12_changes_4 : decode cX12_changes 4 = .ok (.iload_n 1, 1) := by decide +kernel
theorem dX12_changes_5 : decode cX12_changes 5 = .ok (.iaload, 1) := by decide +kernel
theorem dX12_changes_6 : decode cX12_changes 6 = .ok (.istore_n 3, 1) := by decide +kernel
theorem dX12_changes_7 : decode cX12_changes 7 = .ok (.aload_n 0, 1) := by decide +kernel
theorem dX12_changes_8 : decode cX12_changes 8 = .ok (.getfield 67, 3) := by decide +kernel
theorem dX12_changes_11 : decode cX12_changes 11 = .ok (.iload_n 1, 1) := by decide +kernel
theorem dX12_changes_12 : decode cX12_changes 12 = .ok (.aload_n 0, 1) := by decide +kernel
theorem dX12_changes_13 : decode cX12_changes 13 = .ok (.getfield 67, 3) := by decide +kernel
theorem dX12_changes_16 : decode cX12_changes 16 = .ok (.iload_n 2, 1) := by decide +kernel
theorem dX12_changes_17 : decode cX12_changes 17 = .ok (.iaload, 1) := by decide +kernel
theorem dX12_changes_18 : decode cX12_changes 18 = .ok (.iastore, 1) := by decide +kernel
theorem dX12_changes_19 : decode cX12_changes 19 = .ok (.aload_n 0, 1) := by decide +kernel
theorem dX12_changes_20 : decode cX12_changes 20 = .ok (.getfield 67, 3) := by decide +kernel
theorem dX12_changes_23 : decode cX12_changes 23 = .ok (.iload_n 2, 1) := by decide +kernel
theorem dX12_changes_24 : decode cX12_changes 24 = .ok (.iload_n 3, 1) := by decide +kernel
theorem dX12_changes_25 : decode cX12_changes 25 = .ok (.iastore, 1) := by decide +kernel
theorem dX12_changes_26 : decode cX12_changes 26 = .ok (.return_, 1) := by decide +kernel
theorem dX12_apart_0 : decode cX12_apart 0 = .ok (.iload_n 0, 1) := by decide +kernel
theorem dX12_apart_1 : decode cX12_apart 1 = .ok (.iload_n 1, 1) := by decide +kernel
theorem dX12_apart_2 : decode cX12_apart 2 = .ok (.if_icmp .ge 9, 3) := by decide +kernel
theorem dX12_apart_5 : decode cX12_apart 5 = .ok (.iload_n 1, 1) := by decide +kernel
theorem dX12_apart_6 : decode cX12_apart 6 = .ok (.iload_n 0, 1) := by decide +kernel
theorem dX12_apart_7 : decode cX12_apart 7 = .ok (.isub, 1) := by decide +kernel
theorem dX12_apart_8 : decode cX12_apart 8 = .ok (.goto 6, 3) := by decide +kernel
theorem dX12_apart_11 : decode cX12_apart 11 = .ok (.iload_n 0, 1) := by decide +kernel
theorem dX12_apart_12 : decode cX12_apart 12 = .ok (.iload_n 1, 1) := by decide +kernel
theorem dX12_apart_13 : decode cX12_apart 13 = .ok (.isub, 1) := by decide +kernel
theorem dX12_apart_14 : decode cX12_apart 14 = .ok (.ireturn, 1) := by decide +kernel
theorem dX12_wayRound_0 : decode cX12_wayRound 0 = .ok (.iconst 0, 1) := by decide +kernel
theorem dX12_wayRound_1 : decode cX12_wayRound 1 = .ok (.istore_n 1, 1) := by decide +kernel
theorem dX12_wayRound_2 : decode cX12_wayRound 2 = .ok (.iconst 0, 1) := by decide +kernel
theorem dX12_wayRound_3 : decode cX12_wayRound 3 = .ok (.istore_n 2, 1) := by decide +kernel
theorem dX12_wayRound_4 : decode cX12_wayRound 4 = .ok (.iconst 0, 1) := by decide +kernel
theorem dX12_wayRound_5 : decode cX12_wayRound 5 = .ok (.istore_n 3, 1) := by decide +kernel
theorem dX12_wayRound_6 : decode cX12_wayRound 6 = .ok (.iconst 0, 1) := by decide +kernel
theorem dX12_wayRound_7 : decode cX12_wayRound 7 = .ok (.istore 4, 2) := by decide +kernel
theorem dX12_wayRound_9 : decode cX12_wayRound 9 = .ok (.iload 4, 2) := by decide +kernel
theorem dX12_wayRound_11 : decode cX12_wayRound 11 = .ok (.aload_n 0, 1) := by decide +kernel
theorem dX12_wayRound_12 : decode cX12_wayRound 12 = .ok (.getfield 216, 3) := by decide +kernel
theorem dX12_wayRound_15 : decode cX12_wayRound 15 = .ok (.if_icmp .ge 71, 3) := by decide +kernel
theorem dX12_wayRound_18 : decode cX12_wayRound 18 = .ok (.iload_n 1, 1) := by decide +kernel
theorem dX12_wayRound_19 : decode cX12_wayRound 19 = .ok (.iload_n 2, 1) := by decide +kernel
theorem dX12_wayRound_20 : decode cX12_wayRound 20 = .ok (.aload_n 0, 1) := by decide +kernel
theorem dX12_wayRound_21 : decode cX12_wayRound 21 = .ok (.getfield 34, 3) := by decide +kernel
theorem dX12_wayRound_24 : decode cX12_wayRound 24 = .ok (.aload_n 0, 1) := by decide +kernel
theorem dX12_wayRound_25 : decode cX12_wayRound 25 = .ok (.getfield 67, 3) := by decide +kernel
theorem dX12_wayRound_28 : decode cX12_wayRound 28 = .ok (.iload 4, 2) := by decide +kernel
theorem dX12_wayRound_30 : decode cX12_wayRound 30 = .ok (.iaload, 1) := by decide +kernel
theorem dX12_wayRound_31 : decode cX12_wayRound 31 = .ok (.iaload, 1) := by decide +kernel
theorem dX12_wayRound_32 : decode cX12_wayRound 32 = .ok (.invokestatic 222, 3) := by decide +kernel
theorem dX12_wayRound_35 : decode cX12_wayRound 35 = .ok (.iload_n 3, 1) := by decide +kernel
theorem dX12_wayRound_36 : decode cX12_wayRound 36 = .ok (.aload_n 0, 1) := by decide +kernel
theorem dX12_wayRound_37 : decode cX12_wayRound 37 = .ok (.getfield 37, 3) := by decide +kernel
theorem dX12_wayRound_40 : decode cX12_wayRound 40 = .ok (.aload_n 0, 1) := by decide +kernel
theorem dX12_wayRound_41 : decode cX12_wayRound 41 = .ok (.getfield 67, 3) := by decide +kernel
theorem dX12_wayRound_44 : decode cX12_wayRound 44 = .ok (.iload 4, 2) := by decide +kernel
theorem dX12_wayRound_46 : decode cX12_wayRound 46 = .ok (.iaload, 1) := by decide +kernel
theorem dX12_wayRound_47 : decode cX12_wayRound 47 = .ok (.iaload, 1) := by decide +kernel
theorem dX12_wayRound_48 : decode cX12_wayRound 48 = .ok (.invokestatic 222, 3) := by decide +kernel
theorem dX12_wayRound_51 : decode cX12_wayRound 51 = .ok (.iadd, 1) := by decide +kernel
theorem dX12_wayRound_52 : decode cX12_wayRound 52 = .ok (.iadd, 1) := by decide +kernel
theorem dX12_wayRound_53 : decode cX12_wayRound 53 = .ok (.istore_n 1, 1) := by decide +kernel
theorem dX12_wayRound_54 : decode cX12_wayRound 54 = .ok (.aload_n 0, 1) := by decide +kernel
theorem dX12_wayRound_55 : decode cX12_wayRound 55 = .ok (.getfield 34, 3) := by decide +kernel
theorem dX12_wayRound_58 : decode cX12_wayRound 58 = .ok (.aload_n 0, 1) := by decide +kernel
theorem dX12_wayRound_59 : decode cX12_wayRound 59 = .ok (.getfield 67, 3) := by decide +kernel
theorem dX12_wayRound_62 : decode cX12_wayRound 62 = .ok (.iload 4, 2) := by decide +kernel
theorem dX12_wayRound_64 : decode cX12_wayRound 64 = .ok (.iaload, 1) := by decide +kernel
theorem dX12_wayRound_65 : decode cX12_wayRound 65 = .ok (.iaload, 1) := by decide +kernel
theorem dX12_wayRound_66 : decode cX12_wayRound 66 = .ok (.istore_n 2, 1) := by decide +kernel
theorem dX12_wayRound_67 : decode cX12_wayRound 67 = .ok (.aload_n 0, 1) := by decide +kernel
theorem dX12_wayRound_68 : decode cX12_wayRound 68 = .ok (.getfield 37, 3) := by decide +kernel
theorem dX12_wayRound_71 : decode cX12_wayRound 71 = .ok (.aload_n 0, 1) := by decide +kernel
theorem dX12_wayRound_72 : decode cX12_wayRound 72 = .ok (.getfield 67, 3) := by decide +kernel
theorem dX12_wayRound_75 : decode cX12_wayRound 75 = .ok (.iload 4, 2) := by decide +kernel
theorem dX12_wayRound_77 : decode cX12_wayRound 77 = .ok (.iaload, 1) := by decide +kernel
theorem dX12_wayRound_78 : decode cX12_wayRound 78 = .ok (.iaload, 1) := by decide +kernel
theorem dX12_wayRound_79 : decode cX12_wayRound 79 = .ok (.istore_n 3, 1) := by decide +kernel
theorem dX12_wayRound_80 : decode cX12_wayRound 80 = .ok (.iinc 4 1, 3) := by decide +kernel
theorem dX12_wayRound_83 : decode cX12_wayRound 83 = .ok (.goto (-74), 3) := by decide +kernel
theorem dX12_wayRound_86 : decode cX12_wayRound 86 = .ok (.iload_n 1, 1) := by decide +kernel
theorem dX12_wayRound_87 : decode cX12_wayRound 87 = .ok (.iload_n 2, 1) := by decide +kernel
theorem dX12_wayRound_88 : decode cX12_wayRound 88 = .ok (.iadd, 1) := by decide +kernel
theorem dX12_wayRound_89 : decode cX12_wayRound 89 = .ok (.iload_n 3, 1) := by decide +kernel
theorem dX12_wayRound_90 : decode cX12_wayRound 90 = .ok (.iadd, 1) := by decide +kernel
theorem dX12_wayRound_91 : decode cX12_wayRound 91 = .ok (.ireturn, 1) := by decide +kernel
theorem dX12_boat_0 : decode cX12_boat 0 = .ok (.aload_n 0, 1) := by decide +kernel
theorem dX12_boat_1 : decode cX12_boat 1 = .ok (.iconst 0, 1) := by decide +kernel
theorem dX12_boat_2 : decode cX12_boat 2 = .ok (.putfield 216, 3) := by decide +kernel
theorem dX12_boat_5 : decode cX12_boat 5 = .ok (.iconst 0, 1) := by decide +kernel
theorem dX12_boat_6 : decode cX12_boat 6 = .ok (.istore_n 1, 1) := by decide +kernel
theorem dX12_boat_7 : decode cX12_boat 7 = .ok (.iload_n 1, 1) := by decide +kernel
theorem dX12_boat_8 : decode cX12_boat 8 = .ok (.aload_n 0, 1) := by decide +kernel
theorem dX12_boat_9 : decode cX12_boat 9 = .ok (.getfield 120, 3) := by decide +kernel
theorem dX12_boat_12 : decode cX12_boat 12 = .ok (.if_icmp .ge 44, 3) := by decide +kernel
theorem dX12_boat_15 : decode cX12_boat 15 = .ok (.aload_n 0, 1) := by decide +kernel
theorem dX12_boat_16 : decode cX12_boat 16 = .ok (.iload_n 1, 1) := by decide +kernel
theorem dX12_boat_17 : decode cX12_boat 17 = .ok (.aload_n 0, 1) := by decide +kernel
theorem dX12_boat_18 : decode cX12_boat 18 = .ok (.getfield 129, 3) := by decide +kernel
theorem dX12_boat_21 : decode cX12_boat 21 = .ok (.invokevirtual 207, 3) := by decide +kernel
theorem dX12_boat_24 : decode cX12_boat 24 = .ok (.ifCond .ne 6, 3) := by decide +kernel
theorem dX12_boat_27 : decode cX12_boat 27 = .ok (.goto 23, 3) := by decide +kernel
theorem dX12_boat_30 : decode cX12_boat 30 = .ok (.aload_n 0, 1) := by decide +kernel
theorem dX12_boat_31 : decode cX12_boat 31 = .ok (.getfield 67, 3) := by decide +kernel
theorem dX12_boat_34 : decode cX12_boat 34 = .ok (.aload_n 0, 1) := by decide +kernel
theorem dX12_boat_35 : decode cX12_boat 35 = .ok (.getfield 216, 3) := by decide +kernel
theorem dX12_boat_38 : decode cX12_boat 38 = .ok (.iload_n 1, 1) := by decide +kernel
theorem dX12_boat_39 : decode cX12_boat 39 = .ok (.iastore, 1) := by decide +kernel
theorem dX12_boat_40 : decode cX12_boat 40 = .ok (.aload_n 0, 1) := by decide +kernel
theorem dX12_boat_41 : decode cX12_boat 41 = .ok (.dup, 1) := by decide +kernel
theorem dX12_boat_42 : decode cX12_boat 42 = .ok (.getfield 216, 3) := by decide +kernel
theorem dX12_boat_45 : decode cX12_boat 45 = .ok (.iconst 1, 1) := by decide +kernel
theorem dX12_boat_46 : decode cX12_boat 46 = .ok (.iadd, 1) := by decide +kernel
theorem dX12_boat_47 : decode cX12_boat 47 = .ok (.putfield 216, 3) := by decide +kernel
theorem dX12_boat_50 : decode cX12_boat 50 = .ok (.iinc 1 1, 3) := by decide +kernel
theorem dX12_boat_53 : decode cX12_boat 53 = .ok (.goto (-46), 3) := by decide +kernel
theorem dX12_boat_56 : decode cX12_boat 56 = .ok (.aload_n 0, 1) := by decide +kernel
theorem dX12_boat_57 : decode cX12_boat 57 = .ok (.invokevirtual 225, 3) := by decide +kernel
theorem dX12_boat_60 : decode cX12_boat 60 = .ok (.istore_n 1, 1) := by decide +kernel
theorem dX12_boat_61 : decode cX12_boat 61 = .ok (.aload_n 0, 1) := by decide +kernel
theorem dX12_boat_62 : decode cX12_boat 62 = .ok (.invokevirtual 228, 3) := by decide +kernel
theorem dX12_boat_65 : decode cX12_boat 65 = .ok (.ifCond .eq 22, 3) := by decide +kernel
theorem dX12_boat_68 : decode cX12_boat 68 = .ok (.aload_n 0, 1) := by decide +kernel
theorem dX12_boat_69 : decode cX12_boat 69 = .ok (.invokevirtual 225, 3) := by decide +kernel
theorem dX12_boat_72 : decode cX12_boat 72 = .ok (.istore_n 2, 1) := by decide +kernel
theorem dX12_boat_73 : decode cX12_boat 73 = .ok (.iload_n 2, 1) := by decide +kernel
theorem dX12_boat_74 : decode cX12_boat 74 = .ok (.iload_n 1, 1) := by decide +kernel
theorem dX12_boat_75 : decode cX12_boat 75 = .ok (.if_icmp .ge 7, 3) := by decide +kernel
theorem dX12_boat_78 : decode cX12_boat 78 = .ok (.iload_n 2, 1) := by decide +kernel
theorem dX12_boat_79 : decode cX12_boat 79 = .ok (.goto 4, 3) := by decide +kernel
theorem dX12_boat_82 : decode cX12_boat 82 = .ok (.iload_n 1, 1) := by decide +kernel
theorem dX12_boat_83 : decode cX12_boat 83 = .ok (.istore_n 1, 1) := by decide +kernel
theorem dX12_boat_84 : decode cX12_boat 84 = .ok (.goto (-23), 3) := by decide +kernel
theorem dX12_boat_87 : decode cX12_boat 87 = .ok (.iload_n 1, 1) := by decide +kernel
theorem dX12_boat_88 : decode cX12_boat 88 = .ok (.ireturn, 1) := by decide +kernel
theorem dX12_milesWithout_0 : decode cX12_milesWithout 0 = .ok (.aload_n 0, 1) := by decide +kernel
theorem dX12_milesWithout_1 : decode cX12_milesWithout 1 = .ok (.iload_n 1, 1) := by decide +kernel
theorem dX12_milesWithout_2 : decode cX12_milesWithout 2 = .ok (.iconst 1, 1) := by decide +kernel
theorem dX12_milesWithout_3 : decode cX12_milesWithout 3 = .ok (.invokevirtual 184, 3) := by decide +kernel
theorem dX12_milesWithout_6 : decode cX12_milesWithout 6 = .ok (.iload_n 2, 1) := by decide +kernel
theorem dX12_milesWithout_7 : decode cX12_milesWithout 7 = .ok (.aload_n 0, 1) := by decide +kernel
theorem dX12_milesWithout_8 : decode cX12_milesWithout 8 = .ok (.iload_n 2, 1) := by decide +kernel
theorem dX12_milesWithout_9 : decode cX12_milesWithout 9 = .ok (.iconst 0, 1) := by decide +kernel
theorem dX12_milesWithout_10 : decode cX12_milesWithout 10 = .ok (.invokevirtual 188, 3) := by decide +kernel
theorem dX12_milesWithout_13 : decode cX12_milesWithout 13 = .ok (.imul, 1) := by decide +kernel
theorem dX12_milesWithout_14 : decode cX12_milesWithout 14 = .ok (.ireturn, 1) := by decide +kernel
theorem dX12_cut_0 : decode cX12_cut 0 = .ok (.aload_n 0, 1) := by decide +kernel
theorem dX12_cut_1 : decode cX12_cut 1 = .ok (.iload_n 1, 1) := by decide +kernel
theorem dX12_cut_2 : decode cX12_cut 2 = .ok (.invokevirtual 160, 3) := by decide +kernel
theorem dX12_cut_5 : decode cX12_cut 5 = .ok (.ifCond .ne 7, 3) := by decide +kernel
theorem dX12_cut_8 : decode cX12_cut 8 = .ok (.iconst (-1), 1) := by decide +kernel
theorem dX12_cut_9 : decode cX12_cut 9 = .ok (.goto 10, 3) := by decide +kernel
theorem dX12_cut_12 : decode cX12_cut 12 = .ok (.iload_n 2, 1) := by decide +kernel
theorem dX12_cut_13 : decode cX12_cut 13 = .ok (.iconst 1, 1) := by decide +kernel
theorem dX12_cut_14 : decode cX12_cut 14 = .ok (.bipush 9, 2) := by decide +kernel
theorem dX12_cut_16 : decode cX12_cut 16 = .ok (.invokestatic 77, 3) := by decide +kernel
theorem dX12_cut_19 : decode cX12_cut 19 = .ok (.istore_n 3, 1) := by decide +kernel
theorem dX12_cut_20 : decode cX12_cut 20 = .ok (.iload_n 3, 1) := by decide +kernel
theorem dX12_cut_21 : decode cX12_cut 21 = .ok (.ifCond .eq 11, 3) := by decide +kernel
theorem dX12_cut_24 : decode cX12_cut 24 = .ok (.aload_n 0, 1) := by decide +kernel
theorem dX12_cut_25 : decode cX12_cut 25 = .ok (.iload_n 3, 1) := by decide +kernel
theorem dX12_cut_26 : decode cX12_cut 26 = .ok (.invokevirtual 85, 3) := by decide +kernel
theorem dX12_cut_29 : decode cX12_cut 29 = .ok (.goto 9, 3) := by decide +kernel
theorem dX12_cut_32 : decode cX12_cut 32 = .ok (.aload_n 0, 1) := by decide +kernel
theorem dX12_cut_33 : decode cX12_cut 33 = .ok (.iload_n 1, 1) := by decide +kernel
theorem dX12_cut_34 : decode cX12_cut 34 = .ok (.iload_n 2, 1) := by decide +kernel
theorem dX12_cut_35 : decode cX12_cut 35 = .ok (.invokevirtual 231, 3) := by decide +kernel
theorem dX12_cut_38 : decode cX12_cut 38 = .ok (.ireturn, 1) := by decide +kernel
theorem dX12_worstCut_0 : decode cX12_worstCut 0 = .ok (.iload_n 1, 1) := by decide +kernel
theorem dX12_worstCut_1 : decode cX12_worstCut 1 = .ok (.iconst 1, 1) := by decide +kernel
theorem dX12_worstCut_2 : decode cX12_worstCut 2 = .ok (.bipush 9, 2) := by decide +kernel
theorem dX12_worstCut_4 : decode cX12_worstCut 4 = .ok (.invokestatic 77, 3) := by decide +kernel
theorem dX12_worstCut_7 : decode cX12_worstCut 7 = .ok (.istore_n 2, 1) := by decide +kernel
theorem dX12_worstCut_8 : decode cX12_worstCut 8 = .ok (.iload_n 2, 1) := by decide +kernel
theorem dX12_worstCut_9 : decode cX12_worstCut 9 = .ok (.ifCond .eq 9, 3) := by decide +kernel
theorem dX12_worstCut_12 : decode cX12_worstCut 12 = .ok (.aload_n 0, 1) := by decide +kernel
theorem dX12_worstCut_13 : decode cX12_worstCut 13 = .ok (.iload_n 2, 1) := by decide +kernel
theorem dX12_worstCut_14 : decode cX12_worstCut 14 = .ok (.invokevirtual 85, 3) := by decide +kernel
theorem dX12_worstCut_17 : decode cX12_worstCut 17 = .ok (.ireturn, 1) := by decide +kernel
theorem dX12_worstCut_18 : decode cX12_worstCut 18 = .ok (.bipush (-9), 2) := by decide +kernel
theorem dX12_worstCut_20 : decode cX12_worstCut 20 = .ok (.istore_n 3, 1) := by decide +kernel
theorem dX12_worstCut_21 : decode cX12_worstCut 21 = .ok (.iconst 0, 1) := by decide +kernel
theorem dX12_worstCut_22 : decode cX12_worstCut 22 = .ok (.istore 4, 2) := by decide +kernel
theorem dX12_worstCut_24 : decode cX12_worstCut 24 = .ok (.iconst 0, 1) := by decide +kernel
theorem dX12_worstCut_25 : decode cX12_worstCut 25 = .ok (.istore 5, 2) := by decide +kernel
theorem dX12_worstCut_27 : decode cX12_worstCut 27 = .ok (.iload 5, 2) := by decide +kernel
theorem dX12_worstCut_29 : decode cX12_worstCut 29 = .ok (.aload_n 0, 1) := by decide +kernel
theorem dX12_worstCut_30 : decode cX12_worstCut 30 = .ok (.getfield 114, 3) := by decide +kernel
theorem dX12_worstCut_33 : decode cX12_worstCut 33 = .ok (.if_icmp .ge 39, 3) := by decide +kernel
theorem dX12_worstCut_36 : decode cX12_worstCut 36 = .ok (.aload_n 0, 1) := by decide +kernel
theorem dX12_worstCut_37 : decode cX12_worstCut 37 = .ok (.iload 5, 2) := by decide +kernel
theorem dX12_worstCut_39 : decode cX12_worstCut 39 = .ok (.iload_n 1, 1) := by decide +kernel
theorem dX12_worstCut_40 : decode cX12_worstCut 40 = .ok (.invokevirtual 231, 3) := by decide +kernel
theorem dX12_worstCut_43 : decode cX12_worstCut 43 = .ok (.istore 6, 2) := by decide +kernel
theorem dX12_worstCut_45 : decode cX12_worstCut 45 = .ok (.iload_n 3, 1) := by decide +kernel
theorem dX12_worstCut_46 : decode cX12_worstCut 46 = .ok (.ifCond .lt 13, 3) := by decide +kernel
theorem dX12_worstCut_49 : decode cX12_worstCut 49 = .ok (.iload 6, 2) := by decide +kernel
theorem dX12_worstCut_51 : decode cX12_worstCut 51 = .ok (.iload 4, 2) := by decide +kernel
theorem dX12_worstCut_53 : decode cX12_worstCut 53 = .ok (.if_icmp .lt 6, 3) := by decide +kernel
theorem dX12_worstCut_56 : decode cX12_worstCut 56 = .ok (.goto 10, 3) := by decide +kernel
theorem dX12_worstCut_59 : decode cX12_worstCut 59 = .ok (.iload 5, 2) := by decide +kernel
theorem dX12_worstCut_61 : decode cX12_worstCut 61 = .ok (.istore_n 3, 1) := by decide +kernel
theorem dX12_worstCut_62 : decode cX12_worstCut 62 = .ok (.iload 6, 2) := by decide +kernel
theorem dX12_worstCut_64 : decode cX12_worstCut 64 = .ok (.istore 4, 2) := by decide +kernel
theorem dX12_worstCut_66 : decode cX12_worstCut 66 = .ok (.iinc 5 1, 3) := by decide +kernel
theorem dX12_worstCut_69 : decode cX12_worstCut 69 = .ok (.goto (-42), 3) := by decide +kernel
theorem dX12_worstCut_72 : decode cX12_worstCut 72 = .ok (.iload_n 3, 1) := by decide +kernel
theorem dX12_worstCut_73 : decode cX12_worstCut 73 = .ok (.ireturn, 1) := by decide +kernel
theorem dX12_copy_0 : decode cX12_copy 0 = .ok (.iload_n 1, 1) := by decide +kernel
theorem dX12_copy_1 : decode cX12_copy 1 = .ok (.iconst 1, 1) := by decide +kernel
theorem dX12_copy_2 : decode cX12_copy 2 = .ok (.if_icmp .lt 8, 3) := by decide +kernel
theorem dX12_copy_5 : decode cX12_copy 5 = .ok (.iload_n 2, 1) := by decide +kernel
theorem dX12_copy_6 : decode cX12_copy 6 = .ok (.iconst 1, 1) := by decide +kernel
theorem dX12_copy_7 : decode cX12_copy 7 = .ok (.if_icmp .ge 8, 3) := by decide +kernel
theorem dX12_copy_10 : decode cX12_copy 10 = .ok (.bipush (-4), 2) := by decide +kernel
theorem dX12_copy_12 : decode cX12_copy 12 = .ok (.goto 21, 3) := by decide +kernel
theorem dX12_copy_15 : decode cX12_copy 15 = .ok (.iload_n 1, 1) := by decide +kernel
theorem dX12_copy_16 : decode cX12_copy 16 = .ok (.bipush 9, 2) := by decide +kernel
theorem dX12_copy_18 : decode cX12_copy 18 = .ok (.if_icmp .gt 9, 3) := by decide +kernel
theorem dX12_copy_21 : decode cX12_copy 21 = .ok (.iload_n 2, 1) := by decide +kernel
theorem dX12_copy_22 : decode cX12_copy 22 = .ok (.bipush 9, 2) := by decide +kernel
theorem dX12_copy_24 : decode cX12_copy 24 = .ok (.if_icmp .le 8, 3) := by decide +kernel
theorem dX12_copy_27 : decode cX12_copy 27 = .ok (.bipush (-6), 2) := by decide +kernel
theorem dX12_copy_29 : decode cX12_copy 29 = .ok (.goto 4, 3) := by decide +kernel
theorem dX12_copy_32 : decode cX12_copy 32 = .ok (.iconst 0, 1) := by decide +kernel
theorem dX12_copy_33 : decode cX12_copy 33 = .ok (.istore_n 3, 1) := by decide +kernel
theorem dX12_copy_34 : decode cX12_copy 34 = .ok (.iload_n 3, 1) := by decide +kernel
theorem dX12_copy_35 : decode cX12_copy 35 = .ok (.ifCond .eq 9, 3) := by decide +kernel
theorem dX12_copy_38 : decode cX12_copy 38 = .ok (.aload_n 0, 1) := by decide +kernel
theorem dX12_copy_39 : decode cX12_copy 39 = .ok (.iload_n 3, 1) := by decide +kernel
theorem dX12_copy_40 : decode cX12_copy 40 = .ok (.invokevirtual 85, 3) := by decide +kernel
theorem dX12_copy_43 : decode cX12_copy 43 = .ok (.ireturn, 1) := by decide +kernel
theorem dX12_copy_44 : decode cX12_copy 44 = .ok (.aload_n 0, 1) := by decide +kernel
theorem dX12_copy_45 : decode cX12_copy 45 = .ok (.bipush (-9), 2) := by decide +kernel
theorem dX12_copy_47 : decode cX12_copy 47 = .ok (.iload_n 1, 1) := by decide +kernel
theorem dX12_copy_48 : decode cX12_copy 48 = .ok (.invokevirtual 184, 3) := by decide +kernel
theorem dX12_copy_51 : decode cX12_copy 51 = .ok (.iload_n 2, 1) := by decide +kernel
theorem dX12_copy_52 : decode cX12_copy 52 = .ok (.aload_n 0, 1) := by decide +kernel
theorem dX12_copy_53 : decode cX12_copy 53 = .ok (.iload_n 2, 1) := by decide +kernel
theorem dX12_copy_54 : decode cX12_copy 54 = .ok (.iconst 0, 1) := by decide +kernel
theorem dX12_copy_55 : decode cX12_copy 55 = .ok (.invokevirtual 188, 3) := by decide +kernel
theorem dX12_copy_58 : decode cX12_copy 58 = .ok (.imul, 1) := by decide +kernel
theorem dX12_copy_59 : decode cX12_copy 59 = .ok (.ireturn, 1) := by decide +kernel
theorem dX12_sure_0 : decode cX12_sure 0 = .ok (.iload_n 1, 1) := by decide +kernel
theorem dX12_sure_1 : decode cX12_sure 1 = .ok (.iconst 1, 1) := by decide +kernel
theorem dX12_sure_2 : decode cX12_sure 2 = .ok (.bipush 9, 2) := by decide +kernel
theorem dX12_sure_4 : decode cX12_sure 4 = .ok (.invokestatic 77, 3) := by decide +kernel
theorem dX12_sure_7 : decode cX12_sure 7 = .ok (.istore_n 2, 1) := by decide +kernel
theorem dX12_sure_8 : decode cX12_sure 8 = .ok (.iload_n 2, 1) := by decide +kernel
theorem dX12_sure_9 : decode cX12_sure 9 = .ok (.ifCond .eq 9, 3) := by decide +kernel
theorem dX12_sure_12 : decode cX12_sure 12 = .ok (.aload_n 0, 1) := by decide +kernel
theorem dX12_sure_13 : decode cX12_sure 13 = .ok (.iload_n 2, 1) := by decide +kernel
theorem dX12_sure_14 : decode cX12_sure 14 = .ok (.invokevirtual 85, 3) := by decide +kernel
theorem dX12_sure_17 : decode cX12_sure 17 = .ok (.ireturn, 1) := by decide +kernel
theorem dX12_sure_18 : decode cX12_sure 18 = .ok (.aload_n 0, 1) := by decide +kernel
theorem dX12_sure_19 : decode cX12_sure 19 = .ok (.bipush (-9), 2) := by decide +kernel
theorem dX12_sure_21 : decode cX12_sure 21 = .ok (.iconst 1, 1) := by decide +kernel
theorem dX12_sure_22 : decode cX12_sure 22 = .ok (.invokevirtual 184, 3) := by decide +kernel
theorem dX12_sure_25 : decode cX12_sure 25 = .ok (.iconst 0, 1) := by decide +kernel
theorem dX12_sure_26 : decode cX12_sure 26 = .ok (.istore_n 3, 1) := by decide +kernel
theorem dX12_sure_27 : decode cX12_sure 27 = .ok (.iload_n 3, 1) := by decide +kernel
theorem dX12_sure_28 : decode cX12_sure 28 = .ok (.aload_n 0, 1) := by decide +kernel
theorem dX12_sure_29 : decode cX12_sure 29 = .ok (.getfield 117, 3) := by decide +kernel
theorem dX12_sure_32 : decode cX12_sure 32 = .ok (.if_icmp .gt 16, 3) := by decide +kernel
theorem dX12_sure_35 : decode cX12_sure 35 = .ok (.aload_n 0, 1) := by decide +kernel
theorem dX12_sure_36 : decode cX12_sure 36 = .ok (.getfield 70, 3) := by decide +kernel
theorem dX12_sure_39 : decode cX12_sure 39 = .ok (.iload_n 3, 1) := by decide +kernel
theorem dX12_sure_40 : decode cX12_sure 40 = .ok (.iconst 0, 1) := by decide +kernel
theorem dX12_sure_41 : decode cX12_sure 41 = .ok (.iastore, 1) := by decide +kernel
theorem dX12_sure_42 : decode cX12_sure 42 = .ok (.iinc 3 1, 3) := by decide +kernel
theorem dX12_sure_45 : decode cX12_sure 45 = .ok (.goto (-18), 3) := by decide +kernel
theorem dX12_sure_48 : decode cX12_sure 48 = .ok (.iconst 1, 1) := by decide +kernel
theorem dX12_sure_49 : decode cX12_sure 49 = .ok (.istore_n 3, 1) := by decide +kernel
theorem dX12_sure_50 : decode cX12_sure 50 = .ok (.iload_n 3, 1) := by decide +kernel
theorem dX12_sure_51 : decode cX12_sure 51 = .ok (.iload_n 1, 1) := by decide +kernel
theorem dX12_sure_52 : decode cX12_sure 52 = .ok (.if_icmp .gt 50, 3) := by decide +kernel
theorem dX12_sure_55 : decode cX12_sure 55 = .ok (.aload_n 0, 1) := by decide +kernel
theorem dX12_sure_56 : decode cX12_sure 56 = .ok (.iload_n 3, 1) := by decide +kernel
theorem dX12_sure_57 : decode cX12_sure 57 = .ok (.iconst 0, 1) := by decide +kernel
theorem dX12_sure_58 : decode cX12_sure 58 = .ok (.invokevirtual 188, 3) := by decide +kernel
theorem dX12_sure_61 : decode cX12_sure 61 = .ok (.pop, 1) := by decide +kernel
theorem dX12_sure_62 : decode cX12_sure 62 = .ok (.iconst 0, 1) := by decide +kernel
theorem dX12_sure_63 : decode cX12_sure 63 = .ok (.istore 4, 2) := by decide +kernel
theorem dX12_sure_65 : decode cX12_sure 65 = .ok (.iload 4, 2) := by decide +kernel
theorem dX12_sure_67 : decode cX12_sure 67 = .ok (.aload_n 0, 1) := by decide +kernel
theorem dX12_sure_68 : decode cX12_sure 68 = .ok (.getfield 178, 3) := by decide +kernel
theorem dX12_sure_71 : decode cX12_sure 71 = .ok (.if_icmp .ge 25, 3) := by decide +kernel
theorem dX12_sure_74 : decode cX12_sure 74 = .ok (.aload_n 0, 1) := by decide +kernel
theorem dX12_sure_75 : decode cX12_sure 75 = .ok (.getfield 70, 3) := by decide +kernel
theorem dX12_sure_78 : decode cX12_sure 78 = .ok (.aload_n 0, 1) := by decide +kernel
theorem dX12_sure_79 : decode cX12_sure 79 = .ok (.getfield 64, 3) := by decide +kernel
theorem dX12_sure_82 : decode cX12_sure 82 = .ok (.iload 4, 2) := by decide +kernel
theorem dX12_sure_84 : decode cX12_sure 84 = .ok (.iaload, 1) := by decide +kernel
theorem dX12_sure_85 : decode cX12_sure 85 = .ok (.dup2, 1) := by decide +kernel
theorem dX12_sure_86 : decode cX12_sure 86 = .ok (.iaload, 1) := by decide +kernel
theorem dX12_sure_87 : decode cX12_sure 87 = .ok (.iconst 1, 1) := by decide +kernel
theorem dX12_sure_88 : decode cX12_sure 88 = .ok (.iadd, 1) := by decide +kernel
theorem dX12_sure_89 : decode cX12_sure 89 = .ok (.iastore, 1) := by decide +kernel
theorem dX12_sure_90 : decode cX12_sure 90 = .ok (.iinc 4 1, 3) := by decide +kernel
theorem dX12_sure_93 : decode cX12_sure 93 = .ok (.goto (-28), 3) := by decide +kernel
theorem dX12_sure_96 : decode cX12_sure 96 = .ok (.iinc 3 1, 3) := by decide +kernel
theorem dX12_sure_99 : decode cX12_sure 99 = .ok (.goto (-49), 3) := by decide +kernel
theorem dX12_sure_102 : decode cX12_sure 102 = .ok (.iconst 0, 1) := by decide +kernel
theorem dX12_sure_103 : decode cX12_sure 103 = .ok (.istore_n 3, 1) := by decide +kernel
theorem dX12_sure_104 : decode cX12_sure 104 = .ok (.iconst 0, 1) := by decide +kernel
theorem dX12_sure_105 : decode cX12_sure 105 = .ok (.istore 4, 2) := by decide +kernel
theorem dX12_sure_107 : decode cX12_sure 107 = .ok (.iload 4, 2) := by decide +kernel
theorem dX12_sure_109 : decode cX12_sure 109 = .ok (.aload_n 0, 1) := by decide +kernel
theorem dX12_sure_110 : decode cX12_sure 110 = .ok (.getfield 117, 3) := by decide +kernel
theorem dX12_sure_113 : decode cX12_sure 113 = .ok (.if_icmp .gt 28, 3) := by decide +kernel
theorem dX12_sure_116 : decode cX12_sure 116 = .ok (.iload_n 3, 1) := by decide +kernel
theorem dX12_sure_117 : decode cX12_sure 117 = .ok (.aload_n 0, 1) := by decide +kernel
theorem dX12_sure_118 : decode cX12_sure 118 = .ok (.getfield 70, 3) := by decide +kernel
theorem dX12_sure_121 : decode cX12_sure 121 = .ok (.iload 4, 2) := by decide +kernel
theorem dX12_sure_123 : decode cX12_sure 123 = .ok (.iaload, 1) := by decide +kernel
theorem dX12_sure_124 : decode cX12_sure 124 = .ok (.iload_n 1, 1) := by decide +kernel
theorem dX12_sure_125 : decode cX12_sure 125 = .ok (.if_icmp .ne 7, 3) := by decide +kernel
theorem dX12_sure_128 : decode cX12_sure 128 = .ok (.iconst 1, 1) := by decide +kernel
theorem dX12_sure_129 : decode cX12_sure 129 = .ok (.goto 4, 3) := by decide +kernel
theorem dX12_sure_132 : decode cX12_sure 132 = .ok (.iconst 0, 1) := by decide +kernel
theorem dX12_sure_133 : decode cX12_sure 133 = .ok (.iadd, 1) := by decide +kernel
theorem dX12_sure_134 : decode cX12_sure 134 = .ok (.istore_n 3, 1) := by decide +kernel
theorem dX12_sure_135 : decode cX12_sure 135 = .ok (.iinc 4 1, 3) := by decide +kernel
theorem dX12_sure_138 : decode cX12_sure 138 = .ok (.goto (-31), 3) := by decide +kernel
theorem dX12_sure_141 : decode cX12_sure 141 = .ok (.iload_n 3, 1) := by decide +kernel
theorem dX12_sure_142 : decode cX12_sure 142 = .ok (.ireturn, 1) := by decide +kernel
theorem dX12_row_0 : decode cX12_row 0 = .ok (.iload_n 1, 1) := by decide +kernel
theorem dX12_row_1 : decode cX12_row 1 = .ok (.iconst 0, 1) := by decide +kernel
theorem dX12_row_2 : decode cX12_row 2 = .ok (.bipush 48, 2) := by decide +kernel
theorem dX12_row_4 : decode cX12_row 4 = .ok (.invokestatic 77, 3) := by decide +kernel
theorem dX12_row_7 : decode cX12_row 7 = .ok (.istore_n 2, 1) := by decide +kernel
theorem dX12_row_8 : decode cX12_row 8 = .ok (.iload_n 2, 1) := by decide +kernel
theorem dX12_row_9 : decode cX12_row 9 = .ok (.ifCond .ne 15, 3) := by decide +kernel
theorem dX12_row_12 : decode cX12_row 12 = .ok (.aload_n 0, 1) := by decide +kernel
theorem dX12_row_13 : decode cX12_row 13 = .ok (.getfield 234, 3) := by decide +kernel
theorem dX12_row_16 : decode cX12_row 16 = .ok (.bipush 12, 2) := by decide +kernel
theorem dX12_row_18 : decode cX12_row 18 = .ok (.if_icmp .ne 6, 3) := by decide +kernel
theorem dX12_row_21 : decode cX12_row 21 = .ok (.bipush (-6), 2) := by decide +kernel
theorem dX12_row_23 : decode cX12_row 23 = .ok (.istore_n 2, 1) := by decide +kernel
theorem dX12_row_24 : decode cX12_row 24 = .ok (.iload_n 2, 1) := by decide +kernel
theorem dX12_row_25 : decode cX12_row 25 = .ok (.ifCond .eq 9, 3) := by decide +kernel
theorem dX12_row_28 : decode cX12_row 28 = .ok (.aload_n 0, 1) := by decide +kernel
theorem dX12_row_29 : decode cX12_row 29 = .ok (.iload_n 2, 1) := by decide +kernel
theorem dX12_row_30 : decode cX12_row 30 = .ok (.invokevirtual 85, 3) := by decide +kernel
theorem dX12_row_33 : decode cX12_row 33 = .ok (.ireturn, 1) := by decide +kernel
theorem dX12_row_34 : decode cX12_row 34 = .ok (.aload_n 0, 1) := by decide +kernel
theorem dX12_row_35 : decode cX12_row 35 = .ok (.getfield 73, 3) := by decide +kernel
theorem dX12_row_38 : decode cX12_row 38 = .ok (.aload_n 0, 1) := by decide +kernel
theorem dX12_row_39 : decode cX12_row 39 = .ok (.getfield 234, 3) := by decide +kernel
theorem dX12_row_42 : decode cX12_row 42 = .ok (.iload_n 1, 1) := by decide +kernel
theorem dX12_row_43 : decode cX12_row 43 = .ok (.iastore, 1) := by decide +kernel
theorem dX12_row_44 : decode cX12_row 44 = .ok (.aload_n 0, 1) := by decide +kernel
theorem dX12_row_45 : decode cX12_row 45 = .ok (.dup, 1) := by decide +kernel
theorem dX12_row_46 : decode cX12_row 46 = .ok (.getfield 234, 3) := by decide +kernel
theorem dX12_row_49 : decode cX12_row 49 = .ok (.iconst 1, 1) := by decide +kernel
theorem dX12_row_50 : decode cX12_row 50 = .ok (.iadd, 1) := by decide +kernel
theorem dX12_row_51 : decode cX12_row 51 = .ok (.putfield 234, 3) := by decide +kernel
theorem dX12_row_54 : decode cX12_row 54 = .ok (.aload_n 0, 1) := by decide +kernel
theorem dX12_row_55 : decode cX12_row 55 = .ok (.getfield 234, 3) := by decide +kernel
theorem dX12_row_58 : decode cX12_row 58 = .ok (.ireturn, 1) := by decide +kernel
theorem dX12_judge_0 : decode cX12_judge 0 = .ok (.iload_n 1, 1) := by decide +kernel
theorem dX12_judge_1 : decode cX12_judge 1 = .ok (.iload_n 2, 1) := by decide +kernel
theorem dX12_judge_2 : decode cX12_judge 2 = .ok (.invokestatic 195, 3) := by decide +kernel
theorem dX12_judge_5 : decode cX12_judge 5 = .ok (.istore_n 3, 1) := by decide +kernel
theorem dX12_judge_6 : decode cX12_judge 6 = .ok (.iload_n 3, 1) := by decide +kernel
theorem dX12_judge_7 : decode cX12_judge 7 = .ok (.ifCond .eq 9, 3) := by decide +kernel
theorem dX12_judge_10 : decode cX12_judge 10 = .ok (.aload_n 0, 1) := by decide +kernel
theorem dX12_judge_11 : decode cX12_judge 11 = .ok (.iload_n 3, 1) := by decide +kernel
theorem dX12_judge_12 : decode cX12_judge 12 = .ok (.invokevirtual 85, 3) := by decide +kernel
theorem dX12_judge_15 : decode cX12_judge 15 = .ok (.ireturn, 1) := by decide +kernel
theorem dX12_judge_16 : decode cX12_judge 16 = .ok (.aload_n 0, 1) := by decide +kernel
theorem dX12_judge_17 : decode cX12_judge 17 = .ok (.getfield 234, 3) := by decide +kernel
theorem dX12_judge_20 : decode cX12_judge 20 = .ok (.istore 4, 2) := by decide +kernel
theorem dX12_judge_22 : decode cX12_judge 22 = .ok (.aload_n 0, 1) := by decide +kernel
theorem dX12_judge_23 : decode cX12_judge 23 = .ok (.iconst 0, 1) := by decide +kernel
theorem dX12_judge_24 : decode cX12_judge 24 = .ok (.putfield 234, 3) := by decide +kernel
theorem dX12_judge_27 : decode cX12_judge 27 = .ok (.aload_n 0, 1) := by decide +kernel
theorem dX12_judge_28 : decode cX12_judge 28 = .ok (.bipush (-9), 2) := by decide +kernel
theorem dX12_judge_30 : decode cX12_judge 30 = .ok (.iconst 1, 1) := by decide +kernel
theorem dX12_judge_31 : decode cX12_judge 31 = .ok (.invokevirtual 184, 3) := by decide +kernel
theorem dX12_judge_34 : decode cX12_judge 34 = .ok (.aload_n 0, 1) := by decide +kernel
theorem dX12_judge_35 : decode cX12_judge 35 = .ok (.iload_n 1, 1) := by decide +kernel
theorem dX12_judge_36 : decode cX12_judge 36 = .ok (.iload_n 2, 1) := by decide +kernel
theorem dX12_judge_37 : decode cX12_judge 37 = .ok (.invokevirtual 188, 3) := by decide +kernel
theorem dX12_judge_40 : decode cX12_judge 40 = .ok (.pop, 1) := by decide +kernel
theorem dX12_judge_41 : decode cX12_judge 41 = .ok (.iconst 0, 1) := by decide +kernel
theorem dX12_judge_42 : decode cX12_judge 42 = .ok (.istore 5, 2) := by decide +kernel
theorem dX12_judge_44 : decode cX12_judge 44 = .ok (.iload 5, 2) := by decide +kernel
theorem dX12_judge_46 : decode cX12_judge 46 = .ok (.iload 4, 2) := by decide +kernel
theorem dX12_judge_48 : decode cX12_judge 48 = .ok (.if_icmp .ge 38, 3) := by decide +kernel
theorem dX12_judge_51 : decode cX12_judge 51 = .ok (.iload 5, 2) := by decide +kernel
theorem dX12_judge_53 : decode cX12_judge 53 = .ok (.aload_n 0, 1) := by decide +kernel
theorem dX12_judge_54 : decode cX12_judge 54 = .ok (.getfield 178, 3) := by decide +kernel
theorem dX12_judge_57 : decode cX12_judge 57 = .ok (.if_icmp .ge 20, 3) := by decide +kernel
theorem dX12_judge_60 : decode cX12_judge 60 = .ok (.aload_n 0, 1) := by decide +kernel
theorem dX12_judge_61 : decode cX12_judge 61 = .ok (.getfield 73, 3) := by decide +kernel
theorem dX12_judge_64 : decode cX12_judge 64 = .ok (.iload 5, 2) := by decide +kernel
theorem dX12_judge_66 : decode cX12_judge 66 = .ok (.iaload, 1) := by decide +kernel
theorem dX12_judge_67 : decode cX12_judge 67 = .ok (.aload_n 0, 1) := by decide +kernel
theorem dX12_judge_68 : decode cX12_judge 68 = .ok (.getfield 64, 3) := by decide +kernel
theorem dX12_judge_71 : decode cX12_judge 71 = .ok (.iload 5, 2) := by decide +kernel
theorem dX12_judge_73 : decode cX12_judge 73 = .ok (.iaload, 1) := by decide +kernel
theorem dX12_judge_74 : decode cX12_judge 74 = .ok (.if_icmp .eq 6, 3) := by decide +kernel
theorem dX12_judge_77 : decode cX12_judge 77 = .ok (.iload 5, 2) := by decide +kernel
theorem dX12_judge_79 : decode cX12_judge 79 = .ok (.ireturn, 1) := by decide +kernel
theorem dX12_judge_80 : decode cX12_judge 80 = .ok (.iinc 5 1, 3) := by decide +kernel
theorem dX12_judge_83 : decode cX12_judge 83 = .ok (.goto (-39), 3) := by decide +kernel
theorem dX12_judge_86 : decode cX12_judge 86 = .ok (.bipush (-9), 2) := by decide +kernel
theorem dX12_judge_88 : decode cX12_judge 88 = .ok (.ireturn, 1) := by decide +kernel
theorem dX12_draw_0 : decode cX12_draw 0 = .ok (.aload_n 0, 1) := by decide +kernel
theorem dX12_draw_1 : decode cX12_draw 1 = .ok (.aload_n 0, 1) := by decide +kernel
theorem dX12_draw_2 : decode cX12_draw 2 = .ok (.getfield 237, 3) := by decide +kernel
theorem dX12_draw_5 : decode cX12_draw 5 = .ok (.ldc 240, 2) := by decide +kernel
theorem dX12_draw_7 : decode cX12_draw 7 = .ok (.imul, 1) := by decide +kernel
theorem dX12_draw_8 : decode cX12_draw 8 = .ok (.sipush 12345, 3) := by decide +kernel
theorem dX12_draw_11 : decode cX12_draw 11 = .ok (.iadd, 1) := by decide +kernel
theorem dX12_draw_12 : decode cX12_draw 12 = .ok (.putfield 237, 3) := by decide +kernel
theorem dX12_draw_15 : decode cX12_draw 15 = .ok (.aload_n 0, 1) := by decide +kernel
theorem dX12_draw_16 : decode cX12_draw 16 = .ok (.getfield 237, 3) := by decide +kernel
theorem dX12_draw_19 : decode cX12_draw 19 = .ok (.ldc 241, 2) := by decide +kernel
theorem dX12_draw_21 : decode cX12_draw 21 = .ok (.iand, 1) := by decide +kernel
theorem dX12_draw_22 : decode cX12_draw 22 = .ok (.ldc 242, 2) := by decide +kernel
theorem dX12_draw_24 : decode cX12_draw 24 = .ok (.idiv, 1) := by decide +kernel
theorem dX12_draw_25 : decode cX12_draw 25 = .ok (.iload_n 1, 1) := by decide +kernel
theorem dX12_draw_26 : decode cX12_draw 26 = .ok (.irem, 1) := by decide +kernel
theorem dX12_draw_27 : decode cX12_draw 27 = .ok (.ireturn, 1) := by decide +kernel
theorem dX12_seeds_0 : decode cX12_seeds 0 = .ok (.iload_n 1, 1) := by decide +kernel
theorem dX12_seeds_1 : decode cX12_seeds 1 = .ok (.iconst 1, 1) := by decide +kernel
theorem dX12_seeds_2 : decode cX12_seeds 2 = .ok (.bipush 60, 2) := by decide +kernel
theorem dX12_seeds_4 : decode cX12_seeds 4 = .ok (.invokestatic 77, 3) := by decide +kernel
theorem dX12_seeds_7 : decode cX12_seeds 7 = .ok (.istore_n 3, 1) := by decide +kernel
theorem dX12_seeds_8 : decode cX12_seeds 8 = .ok (.iload_n 3, 1) := by decide +kernel
theorem dX12_seeds_9 : decode cX12_seeds 9 = .ok (.ifCond .eq 9, 3) := by decide +kernel
theorem dX12_seeds_12 : decode cX12_seeds 12 = .ok (.aload_n 0, 1) := by decide +kernel
theorem dX12_seeds_13 : decode cX12_seeds 13 = .ok (.iload_n 3, 1) := by decide +kernel
theorem dX12_seeds_14 : decode cX12_seeds 14 = .ok (.invokevirtual 85, 3) := by decide +kernel
theorem dX12_seeds_17 : decode cX12_seeds 17 = .ok (.ireturn, 1) := by decide +kernel
theorem dX12_seeds_18 : decode cX12_seeds 18 = .ok (.aload_n 0, 1) := by decide +kernel
theorem dX12_seeds_19 : decode cX12_seeds 19 = .ok (.getfield 129, 3) := by decide +kernel
theorem dX12_seeds_22 : decode cX12_seeds 22 = .ok (.istore 4, 2) := by decide +kernel
theorem dX12_seeds_24 : decode cX12_seeds 24 = .ok (.aload_n 0, 1) := by decide +kernel
theorem dX12_seeds_25 : decode cX12_seeds 25 = .ok (.iload_n 2, 1) := by decide +kernel
theorem dX12_seeds_26 : decode cX12_seeds 26 = .ok (.putfield 237, 3) := by decide +kernel
theorem dX12_seeds_29 : decode cX12_seeds 29 = .ok (.iconst 0, 1) := by decide +kernel
theorem dX12_seeds_30 : decode cX12_seeds 30 = .ok (.istore 5, 2) := by decide +kernel
theorem dX12_seeds_32 : decode cX12_seeds 32 = .ok (.iconst 0, 1) := by decide +kernel
theorem dX12_seeds_33 : decode cX12_seeds 33 = .ok (.istore 6, 2) := by decide +kernel
theorem dX12_seeds_35 : decode cX12_seeds 35 = .ok (.iload 6, 2) := by decide +kernel
theorem dX12_seeds_37 : decode cX12_seeds 37 = .ok (.iload_n 1, 1) := by decide +kernel
theorem dX12_seeds_38 : decode cX12_seeds 38 = .ok (.if_icmp .ge 50, 3) := by decide +kernel
theorem dX12_seeds_41 : decode cX12_seeds 41 = .ok (.iconst 1, 1) := by decide +kernel
theorem dX12_seeds_42 : decode cX12_seeds 42 = .ok (.aload_n 0, 1) := by decide +kernel
theorem dX12_seeds_43 : decode cX12_seeds 43 = .ok (.bipush 9, 2) := by decide +kernel
theorem dX12_seeds_45 : decode cX12_seeds 45 = .ok (.invokevirtual 243, 3) := by decide +kernel
theorem dX12_seeds_48 : decode cX12_seeds 48 = .ok (.iadd, 1) := by decide +kernel
theorem dX12_seeds_49 : decode cX12_seeds 49 = .ok (.istore 7, 2) := by decide +kernel
theorem dX12_seeds_51 : decode cX12_seeds 51 = .ok (.aload_n 0, 1) := by decide +kernel
theorem dX12_seeds_52 : decode cX12_seeds 52 = .ok (.bipush 10, 2) := by decide +kernel
theorem dX12_seeds_54 : decode cX12_seeds 54 = .ok (.invokevirtual 243, 3) := by decide +kernel
theorem dX12_seeds_57 : decode cX12_seeds 57 = .ok (.istore 8, 2) := by decide +kernel
theorem dX12_seeds_59 : decode cX12_seeds 59 = .ok (.aload_n 0, 1) := by decide +kernel
theorem dX12_seeds_60 : decode cX12_seeds 60 = .ok (.aload_n 0, 1) := by decide +kernel
theorem dX12_seeds_61 : decode cX12_seeds 61 = .ok (.bipush 10, 2) := by decide +kernel
theorem dX12_seeds_63 : decode cX12_seeds 63 = .ok (.invokevirtual 243, 3) := by decide +kernel
theorem dX12_seeds_66 : decode cX12_seeds 66 = .ok (.putfield 129, 3) := by decide +kernel
theorem dX12_seeds_69 : decode cX12_seeds 69 = .ok (.iload 5, 2) := by decide +kernel
theorem dX12_seeds_71 : decode cX12_seeds 71 = .ok (.aload_n 0, 1) := by decide +kernel
theorem dX12_seeds_72 : decode cX12_seeds 72 = .ok (.iload 7, 2) := by decide +kernel
theorem dX12_seeds_74 : decode cX12_seeds 74 = .ok (.iload 8, 2) := by decide +kernel
theorem dX12_seeds_76 : decode cX12_seeds 76 = .ok (.invokevirtual 192, 3) := by decide +kernel
theorem dX12_seeds_79 : decode cX12_seeds 79 = .ok (.iadd, 1) := by decide +kernel
theorem dX12_seeds_80 : decode cX12_seeds 80 = .ok (.istore 5, 2) := by decide +kernel
theorem dX12_seeds_82 : decode cX12_seeds 82 = .ok (.iinc 6 1, 3) := by decide +kernel
theorem dX12_seeds_85 : decode cX12_seeds 85 = .ok (.goto (-50), 3) := by decide +kernel
theorem dX12_seeds_88 : decode cX12_seeds 88 = .ok (.aload_n 0, 1) := by decide +kernel
theorem dX12_seeds_89 : decode cX12_seeds 89 = .ok (.iload 4, 2) := by decide +kernel
theorem dX12_seeds_91 : decode cX12_seeds 91 = .ok (.putfield 129, 3) := by decide +kernel
theorem dX12_seeds_94 : decode cX12_seeds 94 = .ok (.iload 5, 2) := by decide +kernel
theorem dX12_seeds_96 : decode cX12_seeds 96 = .ok (.ireturn, 1) := by decide +kernel
theorem dX12_fees_0 : decode cX12_fees 0 = .ok (.iconst 0, 1) := by decide +kernel
theorem dX12_fees_1 : decode cX12_fees 1 = .ok (.istore_n 1, 1) := by decide +kernel
theorem dX12_fees_2 : decode cX12_fees 2 = .ok (.iconst 0, 1) := by decide +kernel
theorem dX12_fees_3 : decode cX12_fees 3 = .ok (.istore_n 2, 1) := by decide +kernel
theorem dX12_fees_4 : decode cX12_fees 4 = .ok (.iload_n 2, 1) := by decide +kernel
theorem dX12_fees_5 : decode cX12_fees 5 = .ok (.aload_n 0, 1) := by decide +kernel
theorem dX12_fees_6 : decode cX12_fees 6 = .ok (.getfield 114, 3) := by decide +kernel
theorem dX12_fees_9 : decode cX12_fees 9 = .ok (.if_icmp .ge 17, 3) := by decide +kernel
theorem dX12_fees_12 : decode cX12_fees 12 = .ok (.iload_n 1, 1) := by decide +kernel
theorem dX12_fees_13 : decode cX12_fees 13 = .ok (.aload_n 0, 1) := by decide +kernel
theorem dX12_fees_14 : decode cX12_fees 14 = .ok (.iload_n 2, 1) := by decide +kernel
theorem dX12_fees_15 : decode cX12_fees 15 = .ok (.invokevirtual 166, 3) := by decide +kernel
theorem dX12_fees_18 : decode cX12_fees 18 = .ok (.iadd, 1) := by decide +kernel
theorem dX12_fees_19 : decode cX12_fees 19 = .ok (.istore_n 1, 1) := by decide +kernel
theorem dX12_fees_20 : decode cX12_fees 20 = .ok (.iinc 2 1, 3) := by decide +kernel
theorem dX12_fees_23 : decode cX12_fees 23 = .ok (.goto (-19), 3) := by decide +kernel
theorem dX12_fees_26 : decode cX12_fees 26 = .ok (.iload_n 1, 1) := by decide +kernel
theorem dX12_fees_27 : decode cX12_fees 27 = .ok (.ireturn, 1) := by decide +kernel
theorem dX12_count_0 : decode cX12_count 0 = .ok (.iload_n 1, 1) := by decide +kernel
theorem dX12_count_1 : decode cX12_count 1 = .ok (.bipush 11, 2) := by decide +kernel
theorem dX12_count_3 : decode cX12_count 3 = .ok (.bipush 16, 2) := by decide +kernel
theorem dX12_count_5 : decode cX12_count 5 = .ok (.invokestatic 96, 3) := by decide +kernel
theorem dX12_count_8 : decode cX12_count 8 = .ok (.ifCond .eq 13, 3) := by decide +kernel
theorem dX12_count_11 : decode cX12_count 11 = .ok (.aload_n 0, 1) := by decide +kernel
theorem dX12_count_12 : decode cX12_count 12 = .ok (.getfield 7, 3) := by decide +kernel
theorem dX12_count_15 : decode cX12_count 15 = .ok (.iload_n 1, 1) := by decide +kernel
theorem dX12_count_16 : decode cX12_count 16 = .ok (.bipush 10, 2) := by decide +kernel
theorem dX12_count_18 : decode cX12_count 18 = .ok (.isub, 1) := by decide +kernel
theorem dX12_count_19 : decode cX12_count 19 = .ok (.iaload, 1) := by decide +kernel
theorem dX12_count_20 : decode cX12_count 20 = .ok (.ireturn, 1) := by decide +kernel
theorem dX12_count_21 : decode cX12_count 21 = .ok (.iload_n 1, 1) := by decide +kernel
theorem dX12_count_22 : decode cX12_count 22 = .ok (.tableswitch 93 0 7 #[46, 51, 56, 61, 73, 78, 83, 88], 46) := by decide +kernel
theorem dX12_count_68 : decode cX12_count 68 = .ok (.aload_n 0, 1) := by decide +kernel
theorem dX12_count_69 : decode cX12_count 69 = .ok (.getfield 114, 3) := by decide +kernel
theorem dX12_count_72 : decode cX12_count 72 = .ok (.ireturn, 1) := by decide +kernel
theorem dX12_count_73 : decode cX12_count 73 = .ok (.aload_n 0, 1) := by decide +kernel
theorem dX12_count_74 : decode cX12_count 74 = .ok (.getfield 117, 3) := by decide +kernel
theorem dX12_count_77 : decode cX12_count 77 = .ok (.ireturn, 1) := by decide +kernel
theorem dX12_count_78 : decode cX12_count 78 = .ok (.aload_n 0, 1) := by decide +kernel
theorem dX12_count_79 : decode cX12_count 79 = .ok (.getfield 129, 3) := by decide +kernel
theorem dX12_count_82 : decode cX12_count 82 = .ok (.ireturn, 1) := by decide +kernel
theorem dX12_count_83 : decode cX12_count 83 = .ok (.aload_n 0, 1) := by decide +kernel
theorem dX12_count_84 : decode cX12_count 84 = .ok (.bipush (-9), 2) := by decide +kernel
theorem dX12_count_86 : decode cX12_count 86 = .ok (.iconst 1, 1) := by decide +kernel
theorem dX12_count_87 : decode cX12_count 87 = .ok (.invokevirtual 184, 3) := by decide +kernel
theorem dX12_count_90 : decode cX12_count 90 = .ok (.aload_n 0, 1) := by decide +kernel
theorem dX12_count_91 : decode cX12_count 91 = .ok (.getfield 175, 3) := by decide +kernel
theorem dX12_count_94 : decode cX12_count 94 = .ok (.ireturn, 1) := by decide +kernel
theorem dX12_count_95 : decode cX12_count 95 = .ok (.aload_n 0, 1) := by decide +kernel
theorem dX12_count_96 : decode cX12_count 96 = .ok (.getfield 120, 3) := by decide +kernel
theorem dX12_count_99 : decode cX12_count 99 = .ok (.ireturn, 1) := by decide +kernel
theorem dX12_count_100 : decode cX12_count 100 = .ok (.aload_n 0, 1) := by decide +kernel
theorem dX12_count_101 : decode cX12_count 101 = .ok (.getfield 81, 3) := by decide +kernel
theorem dX12_count_104 : decode cX12_count 104 = .ok (.ireturn, 1) := by decide +kernel
theorem dX12_count_105 : decode cX12_count 105 = .ok (.aload_n 0, 1) := by decide +kernel
theorem dX12_count_106 : decode cX12_count 106 = .ok (.getfield 234, 3) := by decide +kernel
theorem dX12_count_109 : decode cX12_count 109 = .ok (.ireturn, 1) := by decide +kernel
theorem dX12_count_110 : decode cX12_count 110 = .ok (.aload_n 0, 1) := by decide +kernel
theorem dX12_count_111 : decode cX12_count 111 = .ok (.invokevirtual 246, 3) := by decide +kernel
theorem dX12_count_114 : decode cX12_count 114 = .ok (.ireturn, 1) := by decide +kernel
theorem dX12_count_115 : decode cX12_count 115 = .ok (.bipush (-9), 2) := by decide +kernel
theorem dX12_count_117 : decode cX12_count 117 = .ok (.ireturn, 1) := by decide +kernel
