theorem dX6_init_0 : decode cX6_init 0 = .ok (.aload_n 0, 1) := by decide +kernel
theorem dX6_init_1 : decode cX6_init 1 = .ok (.invokespecial 1, 3) := by decide +kernel
theorem dX6_init_4 : decode cX6_init 4 = .ok (.aload_n 0, 1) := by decide +kernel
theorem dX6_init_5 : decode cX6_init 5 = .ok (.bipush 6, 2) := by decide +kernel
theorem dX6_init_7 : decode cX6_init 7 = .ok (.newarray .int, 2) := by decide +kernel
theorem dX6_init_9 : decode cX6_init 9 = .ok (.putfield 7, 3) := by decide +kernel
theorem dX6_init_12 : decode cX6_init 12 = .ok (.aload_n 0, 1) := by decide +kernel
theorem dX6_init_13 : decode cX6_init 13 = .ok (.bipush 6, 2) := by decide +kernel
theorem dX6_init_15 : decode cX6_init 15 = .ok (.newarray .int, 2) := by decide +kernel
theorem dX6_init_17 : decode cX6_init 17 = .ok (.putfield 13, 3) := by decide +kernel
theorem dX6_init_20 : decode cX6_init 20 = .ok (.aload_n 0, 1) := by decide +kernel
theorem dX6_init_21 : decode cX6_init 21 = .ok (.bipush 6, 2) := by decide +kernel
theorem dX6_init_23 : decode cX6_init 23 = .ok (.newarray .int, 2) := by decide +kernel
theorem dX6_init_25 : decode cX6_init 25 = .ok (.putfield 16, 3) := by decide +kernel
theorem dX6_init_28 : decode cX6_init 28 = .ok (.aload_n 0, 1) := by decide +kernel
theorem dX6_init_29 : decode cX6_init 29 = .ok (.bipush 6, 2) := by decide +kernel
theorem dX6_init_31 : decode cX6_init 31 = .ok (.newarray .int, 2) := by decide +kernel
theorem dX6_init_33 : decode cX6_init 33 = .ok (.putfield 19, 3) := by decide +kernel
theorem dX6_init_36 : decode cX6_init 36 = .ok (.aload_n 0, 1) := by decide +kernel
theorem dX6_init_37 : decode cX6_init 37 = .ok (.bipush 6, 2) := by decide +kernel
theorem dX6_init_39 : decode cX6_init 39 = .ok (.newarray .int, 2) := by decide +kernel
theorem dX6_init_41 : decode cX6_init 41 = .ok (.putfield 22, 3) := by decide +kernel
theorem dX6_init_44 : decode cX6_init 44 = .ok (.aload_n 0, 1) := by decide +kernel
theorem dX6_init_45 : decode cX6_init 45 = .ok (.bipush 6, 2) := by decide +kernel
theorem dX6_init_47 : decode cX6_init 47 = .ok (.newarray .int, 2) := by decide +kernel
theorem dX6_init_49 : decode cX6_init 49 = .ok (.putfield 25, 3) := by decide +kernel
theorem dX6_init_52 : decode cX6_init 52 = .ok (.aload_n 0, 1) := by decide +kernel
theorem dX6_init_53 : decode cX6_init 53 = .ok (.bipush 6, 2) := by decide +kernel
theorem dX6_init_55 : decode cX6_init 55 = .ok (.newarray .int, 2) := by decide +kernel
theorem dX6_init_57 : decode cX6_init 57 = .ok (.putfield 28, 3) := by decide +kernel
theorem dX6_init_60 : decode cX6_init 60 = .ok (.aload_n 0, 1) := by decide +kernel
theorem dX6_init_61 : decode cX6_init 61 = .ok (.bipush 6, 2) := by decide +kernel
theorem dX6_init_63 : decode cX6_init 63 = .ok (.newarray .int, 2) := by decide +kernel
theorem dX6_init_65 : decode cX6_init 65 = .ok (.putfield 31, 3) := by decide +kernel
theorem dX6_init_68 : decode cX6_init 68 = .ok (.aload_n 0, 1) := by decide +kernel
theorem dX6_init_69 : decode cX6_init 69 = .ok (.bipush 6, 2) := by decide +kernel
theorem dX6_init_71 : decode cX6_init 71 = .ok (.newarray .int, 2) := by decide +kernel
theorem dX6_init_73 : decode cX6_init 73 = .ok (.putfield 34, 3) := by decide +kernel
theorem dX6_init_76 : decode cX6_init 76 = .ok (.aload_n 0, 1) := by decide +kernel
theorem dX6_init_77 : decode cX6_init 77 = .ok (.bipush 6, 2) := by decide +kernel
theorem dX6_init_79 : decode cX6_init 79 = .ok (.newarray .int, 2) := by decide +kernel
theorem dX6_init_81 : decode cX6_init 81 = .ok (.putfield 37, 3) := by decide +kernel
theorem dX6_init_84 : decode cX6_init 84 = .ok (.aload_n 0, 1) := by decide +kernel
theorem dX6_init_85 : decode cX6_init 85 = .ok (.bipush 16, 2) := by decide +kernel
theorem dX6_init_87 : decode cX6_init 87 = .ok (.newarray .int, 2) := by decide +kernel
theorem dX6_init_89 : decode cX6_init 89 = .ok (.putfield 40, 3) := by decide +kernel
theorem dX6_init_92 : decode cX6_init 92 = .ok (.aload_n 0, 1) := by decide +kernel
theorem dX6_init_93 : decode cX6_init 93 = .ok (.bipush 16, 2) := by decide +kernel
theorem dX6_init_95 : decode cX6_init 95 = .ok (.newarray .int, 2) := by decide +kernel
theorem dX6_init_97 : decode cX6_init 97 = .ok (.putfield 43, 3) := by decide +kernel
theorem dX6_init_100 : decode cX6_init 100 = .ok (.aload_n 0, 1) := by decide +kernel
theorem dX6_init_101 : decode cX6_init 101 = .ok (.bipush 16, 2) := by decide +kernel
theorem dX6_init_103 : decode cX6_init 103 = .ok (.newarray .int, 2) := by decide +kernel
theorem dX6_init_105 : decode cX6_init 105 = .ok (.putfield 46, 3) := by decide +kernel
theorem dX6_init_108 : decode cX6_init 108 = .ok (.aload_n 0, 1) := by decide +kernel
theorem dX6_init_109 : decode cX6_init 109 = .ok (.bipush 96, 2) := by decide +kernel
theorem dX6_init_111 : decode cX6_init 111 = .ok (.newarray .int, 2) := by decide +kernel
theorem dX6_init_113 : decode cX6_init 113 = .ok (.putfield 49, 3) := by decide +kernel
theorem dX6_init_116 : decode cX6_init 116 = .ok (.aload_n 0, 1) := by decide +kernel
theorem dX6_init_117 : decode cX6_init 117 = .ok (.bipush 12, 2) := by decide +kernel
theorem dX6_init_119 : decode cX6_init 119 = .ok (.newarray .int, 2) := by decide +kernel
theorem dX6_init_121 : decode cX6_init 121 = .ok (.putfield 52, 3) := by decide +kernel
theorem dX6_init_124 : decode cX6_init 124 = .ok (.aload_n 0, 1) := by decide +kernel
theorem dX6_init_125 : decode cX6_init 125 = .ok (.bipush 12, 2) := by decide +kernel
theorem dX6_init_127 : decode cX6_init 127 = .ok (.newarray .int, 2) := by decide +kernel
theorem dX6_init_129 : decode cX6_init 129 = .ok (.putfield 55, 3) := by decide +kernel
theorem dX6_init_132 : decode cX6_init 132 = .ok (.aload_n 0, 1) := by decide +kernel
theorem dX6_init_133 : decode cX6_init 133 = .ok (.bipush 12, 2) := by decide +kernel
theorem dX6_init_135 : decode cX6_init 135 = .ok (.newarray .int, 2) := by decide +kernel
theorem dX6_init_137 : decode cX6_init 137 = .ok (.putfield 58, 3) := by decide +kernel
theorem dX6_init_140 : decode cX6_init 140 = .ok (.aload_n 0, 1) := by decide +kernel
theorem dX6_init_141 : decode cX6_init 141 = .ok (.bipush 12, 2) := by decide +kernel
theorem dX6_init_143 : decode cX6_init 143 = .ok (.newarray .int, 2) := by decide +kernel
theorem dX6_init_145 : decode cX6_init 145 = .ok (.putfield 61, 3) := by decide +kernel
theorem dX6_init_148 : decode cX6_init 148 = .ok (.aload_n 0, 1) := by decide +kernel
theorem dX6_init_149 : decode cX6_init 149 = .ok (.bipush 16, 2) := by decide +kernel
theorem dX6_init_151 : decode cX6_init 151 = .ok (.newarray .int, 2) := by decide +kernel
theorem dX6_init_153 : decode cX6_init 153 = .ok (.putfield 64, 3) := by decide +kernel
theorem dX6_init_156 : decode cX6_init 156 = .ok (.aload_n 0, 1) := by decide +kernel
theorem dX6_init_157 : decode cX6_init 157 = .ok (.bipush 12, 2) := by decide +kernel
theorem dX6_init_159 : decode cX6_init 159 = .ok (.newarray .int, 2) := by decide +kernel
theorem dX6_init_161 : decode cX6_init 161 = .ok (.putfield 67, 3) := by decide +kernel
theorem dX6_init_164 : decode cX6_init 164 = .ok (.aload_n 0, 1) := by decide +kernel
theorem dX6_init_165 : decode cX6_init 165 = .ok (.sipush 192, 3) := by decide +kernel
theorem dX6_init_168 : decode cX6_init 168 = .ok (.newarray .int, 2) := by decide +kernel
theorem dX6_init_170 : decode cX6_init 170 = .ok (.putfield 70, 3) := by decide +kernel
theorem dX6_init_173 : decode cX6_init 173 = .ok (.aload_n 0, 1) := by decide +kernel
theorem dX6_init_174 : decode cX6_init 174 = .ok (.sipush 4096, 3) := by decide +kernel
theorem dX6_init_177 : decode cX6_init 177 = .ok (.newarray .int, 2) := by decide +kernel
theorem dX6_init_179 : decode cX6_init 179 = .ok (.putfield 73, 3) := by decide +kernel
theorem dX6_init_182 : decode cX6_init 182 = .ok (.aload_n 0, 1) := by decide +kernel
theorem dX6_init_183 : decode cX6_init 183 = .ok (.sipush 4096, 3) := by decide +kernel
theorem dX6_init_186 : decode cX6_init 186 = .ok (.newarray .int, 2) := by decide +kernel
theorem dX6_init_188 : decode cX6_init 188 = .ok (.putfield 76, 3) := by decide +kernel
theorem dX6_init_191 : decode cX6_init 191 = .ok (.aload_n 0, 1) := by decide +kernel
theorem dX6_init_192 : decode cX6_init 192 = .ok (.bipush 6, 2) := by decide +kernel
theorem dX6_init_194 : decode cX6_init 194 = .ok (.newarray .int, 2) := by decide +kernel
theorem dX6_init_196 : decode cX6_init 196 = .ok (.putfield 79, 3) := by decide +kernel
theorem dX6_init_199 : decode cX6_init 199 = .ok (.return_, 1) := by decide +kernel
theorem dX6_thrown_0 : decode cX6_thrown 0 = .ok (.aload_n 0, 1) := by decide +kernel
theorem dX6_thrown_1 : decode cX6_thrown 1 = .ok (.getfield 82, 3) := by decide +kernel
theorem dX6_thrown_4 : decode cX6_thrown 4 = .ok (.ireturn, 1) := by decide +kernel
theorem dX6_fails_0 : decode cX6_fails 0 = .ok (.aload_n 0, 1) := by decide +kernel
theorem dX6_fails_1 : decode cX6_fails 1 = .ok (.iload_n 1, 1) := by decide +kernel
theorem dX6_fails_2 : decode cX6_fails 2 = .ok (.putfield 82, 3) := by decide +kernel
theorem dX6_fails_5 : decode cX6_fails 5 = .ok (.iconst 0, 1) := by decide +kernel
theorem dX6_fails_6 : decode cX6_fails 6 = .ok (.ireturn, 1) := by decide +kernel
theorem dX6_in_0 : decode cX6_in 0 = .ok (.lload_n 0, 1) := by decide +kernel
theorem dX6_in_1 : decode cX6_in 1 = .ok (.lload_n 2, 1) := by decide +kernel
theorem dX6_in_2 : decode cX6_in 2 = .ok (.lcmp, 1) := by decide +kernel
theorem dX6_in_3 : decode cX6_in 3 = .ok (.ifCond .lt 14, 3) := by decide +kernel
theorem dX6_in_6 : decode cX6_in 6 = .ok (.lload_n 0, 1) := by decide +kernel
theorem dX6_in_7 : decode cX6_in 7 = .ok (.lload 4, 2) := by decide +kernel
theorem dX6_in_9 : decode cX6_in 9 = .ok (.lcmp, 1) := by decide +kernel
theorem dX6_in_10 : decode cX6_in 10 = .ok (.ifCond .gt 7, 3) := by decide +kernel
theorem dX6_in_13 : decode cX6_in 13 = .ok (.iconst 1, 1) := by decide +kernel
theorem dX6_in_14 : decode cX6_in 14 = .ok (.goto 4, 3) := by decide +kernel
theorem dX6_in_17 : decode cX6_in 17 = .ok (.iconst 0, 1) := by decide +kernel
theorem dX6_in_18 : decode cX6_in 18 = .ok (.ireturn, 1) := by decide +kernel
theorem dX6_isFund_0 : decode cX6_isFund 0 = .ok (.aload_n 0, 1) := by decide +kernel
theorem dX6_isFund_1 : decode cX6_isFund 1 = .ok (.iload_n 1, 1) := by decide +kernel
theorem dX6_isFund_2 : decode cX6_isFund 2 = .ok (.i2l, 1) := by decide +kernel
theorem dX6_isFund_3 : decode cX6_isFund 3 = .ok (.lconst 0, 1) := by decide +kernel
theorem dX6_isFund_4 : decode cX6_isFund 4 = .ok (.aload_n 0, 1) := by decide +kernel
theorem dX6_isFund_5 : decode cX6_isFund 5 = .ok (.getfield 86, 3) := by decide +kernel
theorem dX6_isFund_8 : decode cX6_isFund 8 = .ok (.iconst 1, 1) := by decide +kernel
theorem dX6_isFund_9 : decode cX6_isFund 9 = .ok (.isub, 1) := by decide +kernel
theorem dX6_isFund_10 : decode cX6_isFund 10 = .ok (.i2l, 1) := by decide +kernel
theorem dX6_isFund_11 : decode cX6_isFund 11 = .ok (.invokestatic 89, 3) := by decide +kernel
theorem dX6_isFund_14 : decode cX6_isFund 14 = .ok (.ifCond .eq 7, 3) := by decide +kernel
theorem dX6_isFund_17 : decode cX6_isFund 17 = .ok (.iconst 0, 1) := by decide +kernel
theorem dX6_isFund_18 : decode cX6_isFund 18 = .ok (.goto 4, 3) := by decide +kernel
theorem dX6_isFund_21 : decode cX6_isFund 21 = .ok (.iconst 1, 1) := by decide +kernel
theorem dX6_isFund_22 : decode cX6_isFund 22 = .ok (.putfield 82, 3) := by decide +kernel
theorem dX6_isFund_25 : decode cX6_isFund 25 = .ok (.aload_n 0, 1) := by decide +kernel
theorem dX6_isFund_26 : decode cX6_isFund 26 = .ok (.getfield 82, 3) := by decide +kernel
theorem dX6_isFund_29 : decode cX6_isFund 29 = .ok (.ifCond .ne 7, 3) := by decide +kernel
theorem dX6_isFund_32 : decode cX6_isFund 32 = .ok (.iconst 1, 1) := by decide +kernel
theorem dX6_isFund_33 : decode cX6_isFund 33 = .ok (.goto 4, 3) := by decide +kernel
theorem dX6_isFund_36 : decode cX6_isFund 36 = .ok (.iconst 0, 1) := by decide +kernel
theorem dX6_isFund_37 : decode cX6_isFund 37 = .ok (.ireturn, 1) := by decide +kernel
theorem dX6_isCommitment_0 : decode cX6_isCommitment 0 = .ok (.aload_n 0, 1) := by decide +kernel
theorem dX6_isCommitment_1 : decode cX6_isCommitment 1 = .ok (.iload_n 1, 1) := by decide +kernel
theorem dX6_isCommitment_2 : decode cX6_isCommitment 2 = .ok (.i2l, 1) := by decide +kernel
theorem dX6_isCommitment_3 : decode cX6_isCommitment 3 = .ok (.lconst 0, 1) := by decide +kernel
theorem dX6_isCommitment_4 : decode cX6_isCommitment 4 = .ok (.aload_n 0, 1) := by decide +kernel
theorem dX6_isCommitment_5 : decode cX6_isCommitment 5 = .ok (.getfield 93, 3) := by decide +kernel
theorem dX6_isCommitment_8 : decode cX6_isCommitment 8 = .ok (.iconst 1, 1) := by decide +kernel
theorem dX6_isCommitment_9 : decode cX6_isCommitment 9 = .ok (.isub, 1) := by decide +kernel
theorem dX6_isCommitment_10 : decode cX6_isCommitment 10 = .ok (.i2l, 1) := by decide +kernel
theorem dX6_isCommitment_11 : decode cX6_isCommitment 11 = .ok (.invokestatic 89, 3) := by decide +kernel
theorem dX6_isCommitment_14 : decode cX6_isCommitment 14 = .ok (.ifCond .eq 7, 3) := by decide +kernel
theorem dX6_isCommitment_17 : decode cX6_isCommitment 17 = .ok (.iconst 0, 1) := by decide +kernel
theorem dX6_isCommitment_18 : decode cX6_isCommitment 18 = .ok (.goto 4, 3) := by decide +kernel
theorem dX6_isCommitment_21 : decode cX6_isCommitment 21 = .ok (.iconst 1, 1) := by decide +kernel
theorem dX6_isCommitment_22 : decode cX6_isCommitment 22 = .ok (.putfield 82, 3) := by decide +kernel
theorem dX6_isCommitment_25 : decode cX6_isCommitment 25 = .ok (.aload_n 0, 1) := by decide +kernel
theorem dX6_isCommitment_26 : decode cX6_isCommitment 26 = .ok (.getfield 82, 3) := by decide +kernel
theorem dX6_isCommitment_29 : decode cX6_isCommitment 29 = .ok (.ifCond .ne 7, 3) := by decide +kernel
theorem dX6_isCommitment_32 : decode cX6_isCommitment 32 = .ok (.iconst 1, 1) := by decide +kernel
theorem dX6_isCommitment_33 : decode cX6_isCommitment 33 = .ok (.goto 4, 3) := by decide +kernel
theorem dX6_isCommitment_36 : decode cX6_isCommitment 36 = .ok (.iconst 0, 1) := by decide +kernel
theorem dX6_isCommitment_37 : decode cX6_isCommitment 37 = .ok (.ireturn, 1) := by decide +kernel
theorem dX6_isCost_0 : decode cX6_isCost 0 = .ok (.aload_n 0, 1) := by decide +kernel
theorem dX6_isCost_1 : decode cX6_isCost 1 = .ok (.iload_n 1, 1) := by decide +kernel
theorem dX6_isCost_2 : decode cX6_isCost 2 = .ok (.i2l, 1) := by decide +kernel
theorem dX6_isCost_3 : decode cX6_isCost 3 = .ok (.lconst 0, 1) := by decide +kernel
theorem dX6_isCost_4 : decode cX6_isCost 4 = .ok (.aload_n 0, 1) := by decide +kernel
theorem dX6_isCost_5 : decode cX6_isCost 5 = .ok (.getfield 96, 3) := by decide +kernel
theorem dX6_isCost_8 : decode cX6_isCost 8 = .ok (.iconst 1, 1) := by decide +kernel
theorem dX6_isCost_9 : decode cX6_isCost 9 = .ok (.isub, 1) := by decide +kernel
theorem dX6_isCost_10 : decode cX6_isCost 10 = .ok (.i2l, 1) := by decide +kernel
theorem dX6_isCost_11 : decode cX6_isCost 11 = .ok (.invokestatic 89, 3) := by decide +kernel
theorem dX6_isCost_14 : decode cX6_isCost 14 = .ok (.ifCond .eq 7, 3) := by decide +kernel
theorem dX6_isCost_17 : decode cX6_isCost 17 = .ok (.iconst 0, 1) := by decide +kernel
theorem dX6_isCost_18 : decode cX6_isCost 18 = .ok (.goto 4, 3) := by decide +kernel
theorem dX6_isCost_21 : decode cX6_isCost 21 = .ok (.iconst 1, 1) := by decide +kernel
theorem dX6_isCost_22 : decode cX6_isCost 22 = .ok (.putfield 82, 3) := by decide +kernel
theorem dX6_isCost_25 : decode cX6_isCost 25 = .ok (.aload_n 0, 1) := by decide +kernel
theorem dX6_isCost_26 : decode cX6_isCost 26 = .ok (.getfield 82, 3) := by decide +kernel
theorem dX6_isCost_29 : decode cX6_isCost 29 = .ok (.ifCond .ne 7, 3) := by decide +kernel
theorem dX6_isCost_32 : decode cX6_isCost 32 = .ok (.iconst 1, 1) := by decide +kernel
theorem dX6_isCost_33 : decode cX6_isCost 33 = .ok (.goto 4, 3) := by decide +kernel
theorem dX6_isCost_36 : decode cX6_isCost 36 = .ok (.iconst 0, 1) := by decide +kernel
theorem dX6_isCost_37 : decode cX6_isCost 37 = .ok (.ireturn, 1) := by decide +kernel
theorem dX6_allows_0 : decode cX6_allows 0 = .ok (.aload_n 0, 1) := by decide +kernel
theorem dX6_allows_1 : decode cX6_allows 1 = .ok (.getfield 13, 3) := by decide +kernel
theorem dX6_allows_4 : decode cX6_allows 4 = .ok (.iload_n 1, 1) := by decide +kernel
theorem dX6_allows_5 : decode cX6_allows 5 = .ok (.iaload, 1) := by decide +kernel
theorem dX6_allows_6 : decode cX6_allows 6 = .ok (.iload_n 2, 1) := by decide +kernel
theorem dX6_allows_7 : decode cX6_allows 7 = .ok (.ishr, 1) := by decide +kernel
theorem dX6_allows_8 : decode cX6_allows 8 = .ok (.iconst 1, 1) := by decide +kernel
theorem dX6_allows_9 : decode cX6_allows 9 = .ok (.iand, 1) := by decide +kernel
theorem dX6_allows_10 : decode cX6_allows 10 = .ok (.iconst 1, 1) := by decide +kernel
theorem dX6_allows_11 : decode cX6_allows 11 = .ok (.if_icmp .ne 7, 3) := by decide +kernel
theorem dX6_allows_14 : decode cX6_allows 14 = .ok (.iconst 1, 1) := by decide +kernel
theorem dX6_allows_15 : decode cX6_allows 15 = .ok (.goto 4, 3) := by decide +kernel
theorem dX6_allows_18 : decode cX6_allows 18 = .ok (.iconst 0, 1) := by decide +kernel
theorem dX6_allows_19 : decode cX6_allows 19 = .ok (.ireturn, 1) := by decide +kernel
theorem dX6_suits_0 : decode cX6_suits 0 = .ok (.aload_n 0, 1) := by decide +kernel
theorem dX6_suits_1 : decode cX6_suits 1 = .ok (.iload_n 1, 1) := by decide +kernel
theorem dX6_suits_2 : decode cX6_suits 2 = .ok (.aload_n 0, 1) := by decide +kernel
theorem dX6_suits_3 : decode cX6_suits 3 = .ok (.getfield 40, 3) := by decide +kernel
theorem dX6_suits_6 : decode cX6_suits 6 = .ok (.iload_n 2, 1) := by decide +kernel
theorem dX6_suits_7 : decode cX6_suits 7 = .ok (.iaload, 1) := by decide +kernel
theorem dX6_suits_8 : decode cX6_suits 8 = .ok (.invokevirtual 99, 3) := by decide +kernel
theorem dX6_suits_11 : decode cX6_suits 11 = .ok (.ifCond .eq 22, 3) := by decide +kernel
theorem dX6_suits_14 : decode cX6_suits 14 = .ok (.aload_n 0, 1) := by decide +kernel
theorem dX6_suits_15 : decode cX6_suits 15 = .ok (.getfield 43, 3) := by decide +kernel
theorem dX6_suits_18 : decode cX6_suits 18 = .ok (.iload_n 2, 1) := by decide +kernel
theorem dX6_suits_19 : decode cX6_suits 19 = .ok (.iaload, 1) := by decide +kernel
theorem dX6_suits_20 : decode cX6_suits 20 = .ok (.aload_n 0, 1) := by decide +kernel
theorem dX6_suits_21 : decode cX6_suits 21 = .ok (.getfield 16, 3) := by decide +kernel
theorem dX6_suits_24 : decode cX6_suits 24 = .ok (.iload_n 1, 1) := by decide +kernel
theorem dX6_suits_25 : decode cX6_suits 25 = .ok (.iaload, 1) := by decide +kernel
theorem dX6_suits_26 : decode cX6_suits 26 = .ok (.if_icmp .gt 7, 3) := by decide +kernel
theorem dX6_suits_29 : decode cX6_suits 29 = .ok (.iconst 1, 1) := by decide +kernel
theorem dX6_suits_30 : decode cX6_suits 30 = .ok (.goto 4, 3) := by decide +kernel
theorem dX6_suits_33 : decode cX6_suits 33 = .ok (.iconst 0, 1) := by decide +kernel
theorem dX6_suits_34 : decode cX6_suits 34 = .ok (.ireturn, 1) := by decide +kernel
theorem dX6_addFund_0 : decode cX6_addFund 0 = .ok (.aload_n 0, 1) := by decide +kernel
theorem dX6_addFund_1 : decode cX6_addFund 1 = .ok (.iconst 0, 1) := by decide +kernel
theorem dX6_addFund_2 : decode cX6_addFund 2 = .ok (.putfield 82, 3) := by decide +kernel
theorem dX6_addFund_5 : decode cX6_addFund 5 = .ok (.iload_n 1, 1) := by decide +kernel
theorem dX6_addFund_6 : decode cX6_addFund 6 = .ok (.i2l, 1) := by decide +kernel
theorem dX6_addFund_7 : decode cX6_addFund 7 = .ok (.lconst 0, 1) := by decide +kernel
theorem dX6_addFund_8 : decode cX6_addFund 8 = .ok (.ldc2_w 103, 3) := by decide +kernel
theorem dX6_addFund_11 : decode cX6_addFund 11 = .ok (.invokestatic 89, 3) := by decide +kernel
theorem dX6_addFund_14 : decode cX6_addFund 14 = .ok (.ifCond .eq 40, 3) := by decide +kernel
theorem dX6_addFund_17 : decode cX6_addFund 17 = .ok (.iload_n 2, 1) := by decide +kernel
theorem dX6_addFund_18 : decode cX6_addFund 18 = .ok (.i2l, 1) := by decide +kernel
theorem dX6_addFund_19 : decode cX6_addFund 19 = .ok (.lconst 0, 1) := by decide +kernel
theorem dX6_addFund_20 : decode cX6_addFund 20 = .ok (.ldc2_w 105, 3) := by decide +kernel
theorem dX6_addFund_23 : decode cX6_addFund 23 = .ok (.invokestatic 89, 3) := by decide +kernel
theorem dX6_addFund_26 : decode cX6_addFund 26 = .ok (.ifCond .eq 28, 3) := by decide +kernel
theorem dX6_addFund_29 : decode cX6_addFund 29 = .ok (.iload_n 3, 1) := by decide +kernel
theorem dX6_addFund_30 : decode cX6_addFund 30 = .ok (.i2l, 1) := by decide +kernel
theorem dX6_addFund_31 : decode cX6_addFund 31 = .ok (.lconst 0, 1) := by decide +kernel
theorem dX6_addFund_32 : decode cX6_addFund 32 = .ok (.ldc2_w 107, 3) := by decide +kernel
theorem dX6_addFund_35 : decode cX6_addFund 35 = .ok (.invokestatic 89, 3) := by decide +kernel
theorem dX6_addFund_38 : decode cX6_addFund 38 = .ok (.ifCond .eq 16, 3) := by decide +kernel
theorem dX6_addFund_41 : decode cX6_addFund 41 = .ok (.iload 4, 2) := by decide +kernel
theorem dX6_addFund_43 : decode cX6_addFund 43 = .ok (.i2l, 1) := by decide +kernel
theorem dX6_addFund_44 : decode cX6_addFund 44 = .ok (.lconst 0, 1) := by decide +kernel
theorem dX6_addFund_45 : decode cX6_addFund 45 = .ok (.ldc2_w 109, 3) := by decide +kernel
theorem dX6_addFund_48 : decode cX6_addFund 48 = .ok (.invokestatic 89, 3) := by decide +kernel
theorem dX6_addFund_51 : decode cX6_addFund 51 = .ok (.ifCond .ne 9, 3) := by decide +kernel
theorem dX6_addFund_54 : decode cX6_addFund 54 = .ok (.aload_n 0, 1) := by decide +kernel
theorem dX6_addFund_55 : decode cX6_addFund 55 = .ok (.iconst 1, 1) := by decide +kernel
theorem dX6_addFund_56 : decode cX6_addFund 56 = .ok (.invokevirtual 111, 3) := by decide +kernel
theorem dX6_addFund_59 : decode cX6_addFund 59 = .ok (.ireturn, 1) := by decide +kernel
theorem dX6_addFund_60 : decode cX6_addFund 60 = .ok (.aload_n 0, 1) := by decide +kernel
theorem dX6_addFund_61 : decode cX6_addFund 61 = .ok (.getfield 86, 3) := by decide +kernel
theorem dX6_addFund_64 : decode cX6_addFund 64 = .ok (.bipush 6, 2) := by decide +kernel
theorem dX6_addFund_66 : decode cX6_addFund 66 = .ok (.if_icmp .ne 9, 3) := by decide +kernel
theorem dX6_addFund_69 : decode cX6_addFund 69 = .ok (.aload_n 0, 1) := by decide +kernel
theorem dX6_addFund_70 : decode cX6_addFund 70 = .ok (.iconst 2, 1) := by decide +kernel
theorem dX6_addFund_71 : decode cX6_addFund 71 = .ok (.invokevirtual 111, 3) := by decide +kernel
theorem dX6_addFund_74 : decode cX6_addFund 74 = .ok (.ireturn, 1) := by decide +kernel
theorem dX6_addFund_75 : decode cX6_addFund 75 = .ok (.aload_n 0, 1) := by decide +kernel
theorem dX6_addFund_76 : decode cX6_addFund 76 = .ok (.getfield 7, 3) := by decide +kernel
theorem dX6_addFund_79 : decode cX6_addFund 79 = .ok (.aload_n 0, 1) := by decide +kernel
theorem dX6_addFund_80 : decode cX6_addFund 80 = .ok (.getfield 86, 3) := by decide +kernel
theorem dX6_addFund_83 : decode cX6_addFund 83 = .ok (.iload_n 1, 1) := by decide +kernel
theorem dX6_addFund_84 : decode cX6_addFund 84 = .ok (.iastore, 1) := by decide +kernel
theorem dX6_addFund_85 : decode cX6_addFund 85 = .ok (.aload_n 0, 1) := by decide +kernel
theorem dX6_addFund_86 : decode cX6_addFund 86 = .ok (.getfield 13, 3) := by decide +kernel
theorem dX6_addFund_89 : decode cX6_addFund 89 = .ok (.aload_n 0, 1) := by decide +kernel
theorem dX6_addFund_90 : decode cX6_addFund 90 = .ok (.getfield 86, 3) := by decide +kernel
theorem dX6_addFund_93 : decode cX6_addFund 93 = .ok (.iload_n 2, 1) := by decide +kernel
theorem dX6_addFund_94 : decode cX6_addFund 94 = .ok (.iastore, 1) := by decide +kernel
theorem dX6_addFund_95 : decode cX6_addFund 95 = .ok (.aload_n 0, 1) := by decide +kernel
theorem dX6_addFund_96 : decode cX6_addFund 96 = .ok (.getfield 16, 3) := by decide +kernel
theorem dX6_addFund_99 : decode cX6_addFund 99 = .ok (.aload_n 0, 1) := by decide +kernel
theorem dX6_addFund_100 : decode cX6_addFund 100 = .ok (.getfield 86, 3) := by decide +kernel
theorem dX6_addFund_103 : decode cX6_addFund 103 = .ok (.iload_n 3, 1) := by decide +kernel
theorem dX6_addFund_104 : decode cX6_addFund 104 = .ok (.iastore, 1) := by decide +kernel
theorem dX6_addFund_105 : decode cX6_addFund 105 = .ok (.aload_n 0, 1) := by decide +kernel
theorem dX6_addFund_106 : decode cX6_addFund 106 = .ok (.getfield 19, 3) := by decide +kernel
theorem dX6_addFund_109 : decode cX6_addFund 109 = .ok (.aload_n 0, 1) := by decide +kernel
theorem dX6_addFund_110 : decode cX6_addFund 110 = .ok (.getfield 86, 3) := by decide +kernel
theorem dX6_addFund_113 : decode cX6_addFund 113 = .ok (.iload 4, 2) := by decide +kernel
theorem dX6_addFund_115 : decode cX6_addFund 115 = .ok (.iastore, 1) := by decide +kernel
theorem dX6_addFund_116 : decode cX6_addFund 116 = .ok (.aload_n 0, 1) := by decide +kernel
theorem dX6_addFund_117 : decode cX6_addFund 117 = .ok (.dup, 1) := by decide +kernel
theorem dX6_addFund_118 : decode cX6_addFund 118 = .ok (.getfield 86, 3) := by decide +kernel
theorem dX6_addFund_121 : decode cX6_addFund 121 = .ok (.iconst 1, 1) := by decide +kernel
theorem dX6_addFund_122 : decode cX6_addFund 122 = .ok (.iadd, 1) := by decide +kernel
theorem dX6_addFund_123 : decode cX6_addFund 123 = .ok (.putfield 86, 3) := by decide +kernel
theorem dX6_addFund_126 : decode cX6_addFund 126 = .ok (.aload_n 0, 1) := by decide +kernel
theorem dX6_addFund_127 : decode cX6_addFund 127 = .ok (.getfield 86, 3) := by decide +kernel
theorem dX6_addFund_130 : decode cX6_addFund 130 = .ok (.iconst 1, 1) := by decide +kernel
theorem dX6_addFund_131 : decode cX6_addFund 131 = .ok (.isub, 1) := by decide +kernel
theorem dX6_addFund_132 : decode cX6_addFund 132 = .ok (.ireturn, 1) := by decide +kernel
theorem dX6_deposit_0 : decode cX6_deposit 0 = .ok (.aload_n 0, 1) := by decide +kernel
theorem dX6_deposit_1 : decode cX6_deposit 1 = .ok (.iload_n 1, 1) := by decide +kernel
theorem dX6_deposit_2 : decode cX6_deposit 2 = .ok (.invokevirtual 115, 3) := by decide +kernel
theorem dX6_deposit_5 : decode cX6_deposit 5 = .ok (.ifCond .ne 5, 3) := by decide +kernel
theorem dX6_deposit_8 : decode cX6_deposit 8 = .ok (.iconst 0, 1) := by decide +kernel
theorem dX6_deposit_9 : decode cX6_deposit 9 = .ok (.ireturn, 1) := by decide +kernel
theorem dX6_deposit_10 : decode cX6_deposit 10 = .ok (.iload_n 2, 1) := by decide +kernel
theorem dX6_deposit_11 : decode cX6_deposit 11 = .ok (.i2l, 1) := by decide +kernel
theorem dX6_deposit_12 : decode cX6_deposit 12 = .ok (.lconst 1, 1) := by decide +kernel
theorem dX6_deposit_13 : decode cX6_deposit 13 = .ok (.ldc2_w 103, 3) := by decide +kernel
theorem dX6_deposit_16 : decode cX6_deposit 16 = .ok (.invokestatic 89, 3) := by decide +kernel
theorem dX6_deposit_19 : decode cX6_deposit 19 = .ok (.ifCond .ne 9, 3) := by decide +kernel
theorem dX6_deposit_22 : decode cX6_deposit 22 = .ok (.aload_n 0, 1) := by decide +kernel
theorem dX6_deposit_23 : decode cX6_deposit 23 = .ok (.iconst 2, 1) := by decide +kernel
theorem dX6_deposit_24 : decode cX6_deposit 24 = .ok (.invokevirtual 111, 3) := by decide +kernel
theorem dX6_deposit_27 : decode cX6_deposit 27 = .ok (.ireturn, 1) := by decide +kernel
theorem dX6_deposit_28 : decode cX6_deposit 28 = .ok (.aload_n 0, 1) := by decide +kernel
theorem dX6_deposit_29 : decode cX6_deposit 29 = .ok (.getfield 7, 3) := by decide +kernel
theorem dX6_deposit_32 : decode cX6_deposit 32 = .ok (.iload_n 1, 1) := by decide +kernel
theorem dX6_deposit_33 : decode cX6_deposit 33 = .ok (.dup2, 1) := by decide +kernel
theorem dX6_deposit_34 : decode cX6_deposit 34 = .ok (.iaload, 1) := by decide +kernel
theorem dX6_deposit_35 : decode cX6_deposit 35 = .ok (.iload_n 2, 1) := by decide +kernel
theorem dX6_deposit_36 : decode cX6_deposit 36 = .ok (.iadd, 1) := by decide +kernel
theorem dX6_deposit_37 : decode cX6_deposit 37 = .ok (.iastore, 1) := by decide +kernel
theorem dX6_deposit_38 : decode cX6_deposit 38 = .ok (.aload_n 0, 1) := by decide +kernel
theorem dX6_deposit_39 : decode cX6_deposit 39 = .ok (.getfield 7, 3) := by decide +kernel
theorem dX6_deposit_42 : decode cX6_deposit 42 = .ok (.iload_n 1, 1) := by decide +kernel
theorem dX6_deposit_43 : decode cX6_deposit 43 = .ok (.iaload, 1) := by decide +kernel
theorem dX6_deposit_44 : decode cX6_deposit 44 = .ok (.ireturn, 1) := by decide +kernel
theorem dX6_commit_0 : decode cX6_commit 0 = .ok (.aload_n 0, 1) := by decide +kernel
theorem dX6_commit_1 : decode cX6_commit 1 = .ok (.iload_n 1, 1) := by decide +kernel
theorem dX6_commit_2 : decode cX6_commit 2 = .ok (.invokevirtual 115, 3) := by decide +kernel
theorem dX6_commit_5 : decode cX6_commit 5 = .ok (.ifCond .ne 5, 3) := by decide +kernel
theorem dX6_commit_8 : decode cX6_commit 8 = .ok (.iconst 0, 1) := by decide +kernel
theorem dX6_commit_9 : decode cX6_commit 9 = .ok (.ireturn, 1) := by decide +kernel
theorem dX6_commit_10 : decode cX6_commit 10 = .ok (.iload_n 2, 1) := by decide +kernel
theorem dX6_commit_11 : decode cX6_commit 11 = .ok (.i2l, 1) := by decide +kernel
theorem dX6_commit_12 : decode cX6_commit 12 = .ok (.lconst 0, 1) := by decide +kernel
theorem dX6_commit_13 : decode cX6_commit 13 = .ok (.ldc2_w 119, 3) := by decide +kernel
theorem dX6_commit_16 : decode cX6_commit 16 = .ok (.invokestatic 89, 3) := by decide +kernel
theorem dX6_commit_19 : decode cX6_commit 19 = .ok (.ifCond .eq 32, 3) := by decide +kernel
theorem dX6_commit_22 : decode cX6_commit 22 = .ok (.iload_n 3, 1) := by decide +kernel
theorem dX6_commit_23 : decode cX6_commit 23 = .ok (.i2l, 1) := by decide +kernel
theorem dX6_commit_24 : decode cX6_commit 24 = .ok (.lconst 1, 1) := by decide +kernel
theorem dX6_commit_25 : decode cX6_commit 25 = .ok (.ldc2_w 103, 3) := by decide +kernel
theorem dX6_commit_28 : decode cX6_commit 28 = .ok (.invokestatic 89, 3) := by decide +kernel
theorem dX6_commit_31 : decode cX6_commit 31 = .ok (.ifCond .eq 20, 3) := by decide +kernel
theorem dX6_commit_34 : decode cX6_commit 34 = .ok (.iload 4, 2) := by decide +kernel
theorem dX6_commit_36 : decode cX6_commit 36 = .ok (.i2l, 1) := by decide +kernel
theorem dX6_commit_37 : decode cX6_commit 37 = .ok (.aload_n 0, 1) := by decide +kernel
theorem dX6_commit_38 : decode cX6_commit 38 = .ok (.getfield 121, 3) := by decide +kernel
theorem dX6_commit_41 : decode cX6_commit 41 = .ok (.i2l, 1) := by decide +kernel
theorem dX6_commit_42 : decode cX6_commit 42 = .ok (.ldc2_w 107, 3) := by decide +kernel
theorem dX6_commit_45 : decode cX6_commit 45 = .ok (.invokestatic 89, 3) := by decide +kernel
theorem dX6_commit_48 : decode cX6_commit 48 = .ok (.ifCond .ne 9, 3) := by decide +kernel
theorem dX6_commit_51 : decode cX6_commit 51 = .ok (.aload_n 0, 1) := by decide +kernel
theorem dX6_commit_52 : decode cX6_commit 52 = .ok (.iconst 2, 1) := by decide +kernel
theorem dX6_commit_53 : decode cX6_commit 53 = .ok (.invokevirtual 111, 3) := by decide +kernel
theorem dX6_commit_56 : decode cX6_commit 56 = .ok (.ireturn, 1) := by decide +kernel
theorem dX6_commit_57 : decode cX6_commit 57 = .ok (.aload_n 0, 1) := by decide +kernel
theorem dX6_commit_58 : decode cX6_commit 58 = .ok (.iload_n 1, 1) := by decide +kernel
theorem dX6_commit_59 : decode cX6_commit 59 = .ok (.iload_n 2, 1) := by decide +kernel
theorem dX6_commit_60 : decode cX6_commit 60 = .ok (.invokevirtual 99, 3) := by decide +kernel
theorem dX6_commit_63 : decode cX6_commit 63 = .ok (.ifCond .eq 22, 3) := by decide +kernel
theorem dX6_commit_66 : decode cX6_commit 66 = .ok (.aload_n 0, 1) := by decide +kernel
theorem dX6_commit_67 : decode cX6_commit 67 = .ok (.getfield 7, 3) := by decide +kernel
theorem dX6_commit_70 : decode cX6_commit 70 = .ok (.iload_n 1, 1) := by decide +kernel
theorem dX6_commit_71 : decode cX6_commit 71 = .ok (.iaload, 1) := by decide +kernel
theorem dX6_commit_72 : decode cX6_commit 72 = .ok (.iload_n 3, 1) := by decide +kernel
theorem dX6_commit_73 : decode cX6_commit 73 = .ok (.if_icmp .lt 12, 3) := by decide +kernel
theorem dX6_commit_76 : decode cX6_commit 76 = .ok (.aload_n 0, 1) := by decide +kernel
theorem dX6_commit_77 : decode cX6_commit 77 = .ok (.getfield 93, 3) := by decide +kernel
theorem dX6_commit_80 : decode cX6_commit 80 = .ok (.bipush 6, 2) := by decide +kernel
theorem dX6_commit_82 : decode cX6_commit 82 = .ok (.if_icmp .ne 9, 3) := by decide +kernel
theorem dX6_commit_85 : decode cX6_commit 85 = .ok (.aload_n 0, 1) := by decide +kernel
theorem dX6_commit_86 : decode cX6_commit 86 = .ok (.iconst 3, 1) := by decide +kernel
theorem dX6_commit_87 : decode cX6_commit 87 = .ok (.invokevirtual 111, 3) := by decide +kernel
theorem dX6_commit_90 : decode cX6_commit 90 = .ok (.ireturn, 1) := by decide +kernel
theorem dX6_commit_91 : decode cX6_commit 91 = .ok (.aload_n 0, 1) := by decide +kernel
theorem dX6_commit_92 : decode cX6_commit 92 = .ok (.getfield 7, 3) := by decide +kernel
theorem dX6_commit_95 : decode cX6_commit 95 = .ok (.iload_n 1, 1) := by decide +kernel
theorem dX6_commit_96 : decode cX6_commit 96 = .ok (.dup2, 1) := by decide +kernel
theorem dX6_commit_97 : decode cX6_commit 97 = .ok (.iaload, 1) := by decide +kernel
theorem dX6_commit_98 : decode cX6_commit 98 = .ok (.iload_n 3, 1) := by decide +kernel
theorem dX6_commit_99 : decode cX6_commit 99 = .ok (.isub, 1) := by decide +kernel
theorem dX6_commit_100 : decode cX6_commit 100 = .ok (.iastore, 1) := by decide +kernel
theorem dX6_commit_101 : decode cX6_commit 101 = .ok (.aload_n 0, 1) := by decide +kernel
theorem dX6_commit_102 : decode cX6_commit 102 = .ok (.getfield 28, 3) := by decide +kernel
theorem dX6_commit_105 : decode cX6_commit 105 = .ok (.aload_n 0, 1) := by decide +kernel
theorem dX6_commit_106 : decode cX6_commit 106 = .ok (.getfield 93, 3) := by decide +kernel
theorem dX6_commit_109 : decode cX6_commit 109 = .ok (.iload_n 1, 1) := by decide +kernel
theorem dX6_commit_110 : decode cX6_commit 110 = .ok (.iastore, 1) := by decide +kernel
theorem dX6_commit_111 : decode cX6_commit 111 = .ok (.aload_n 0, 1) := by decide +kernel
theorem dX6_commit_112 : decode cX6_commit 112 = .ok (.getfield 31, 3) := by decide +kernel
theorem dX6_commit_115 : decode cX6_commit 115 = .ok (.aload_n 0, 1) := by decide +kernel
theorem dX6_commit_116 : decode cX6_commit 116 = .ok (.getfield 93, 3) := by decide +kernel
theorem dX6_commit_119 : decode cX6_commit 119 = .ok (.iload_n 2, 1) := by decide +kernel
theorem dX6_commit_120 : decode cX6_commit 120 = .ok (.iastore, 1) := by decide +kernel
theorem dX6_commit_121 : decode cX6_commit 121 = .ok (.aload_n 0, 1) := by decide +kernel
theorem dX6_commit_122 : decode cX6_commit 122 = .ok (.getfield 34, 3) := by decide +kernel
theorem dX6_commit_125 : decode cX6_commit 125 = .ok (.aload_n 0, 1) := by decide +kernel
theorem dX6_commit_126 : decode cX6_commit 126 = .ok (.getfield 93, 3) := by decide +kernel
theorem dX6_commit_129 : decode cX6_commit 129 = .ok (.iload_n 3, 1) := by decide +kernel
theorem dX6_commit_130 : decode cX6_commit 130 = .ok (.iastore, 1) := by decide +kernel
theorem dX6_commit_131 : decode cX6_commit 131 = .ok (.aload_n 0, 1) := by decide +kernel
theorem dX6_commit_132 : decode cX6_commit 132 = .ok (.getfield 37, 3) := by decide +kernel
theorem dX6_commit_135 : decode cX6_commit 135 = .ok (.aload_n 0, 1) := by decide +kernel
theorem dX6_commit_136 : decode cX6_commit 136 = .ok (.getfield 93, 3) := by decide +kernel
theorem dX6_commit_139 : decode cX6_commit 139 = .ok (.iload 4, 2) := by decide +kernel
theorem dX6_commit_141 : decode cX6_commit 141 = .ok (.iastore, 1) := by decide +kernel
theorem dX6_commit_142 : decode cX6_commit 142 = .ok (.aload_n 0, 1) := by decide +kernel
theorem dX6_commit_143 : decode cX6_commit 143 = .ok (.dup, 1) := by decide +kernel
theorem dX6_commit_144 : decode cX6_commit 144 = .ok (.getfield 93, 3) := by decide +kernel
theorem dX6_commit_147 : decode cX6_commit 147 = .ok (.iconst 1, 1) := by decide +kernel
theorem dX6_commit_148 : decode cX6_commit 148 = .ok (.iadd, 1) := by decide +kernel
theorem dX6_commit_149 : decode cX6_commit 149 = .ok (.putfield 93, 3) := by decide +kernel
theorem dX6_commit_152 : decode cX6_commit 152 = .ok (.aload_n 0, 1) := by decide +kernel
theorem dX6_commit_153 : decode cX6_commit 153 = .ok (.getfield 93, 3) := by decide +kernel
theorem dX6_commit_156 : decode cX6_commit 156 = .ok (.ireturn, 1) := by decide +kernel
theorem dX6_ends_0 : decode cX6_ends 0 = .ok (.aload_n 0, 1) := by decide +kernel
theorem dX6_ends_1 : decode cX6_ends 1 = .ok (.getfield 7, 3) := by decide +kernel
theorem dX6_ends_4 : decode cX6_ends 4 = .ok (.aload_n 0, 1) := by decide +kernel
theorem dX6_ends_5 : decode cX6_ends 5 = .ok (.getfield 28, 3) := by decide +kernel
theorem dX6_ends_8 : decode cX6_ends 8 = .ok (.iload_n 1, 1) := by decide +kernel
theorem dX6_ends_9 : decode cX6_ends 9 = .ok (.iaload, 1) := by decide +kernel
theorem dX6_ends_10 : decode cX6_ends 10 = .ok (.dup2, 1) := by decide +kernel
theorem dX6_ends_11 : decode cX6_ends 11 = .ok (.iaload, 1) := by decide +kernel
theorem dX6_ends_12 : decode cX6_ends 12 = .ok (.aload_n 0, 1) := by decide +kernel
theorem dX6_ends_13 : decode cX6_ends 13 = .ok (.getfield 34, 3) := by decide +kernel
theorem dX6_ends_16 : decode cX6_ends 16 = .ok (.iload_n 1, 1) := by decide +kernel
theorem dX6_ends_17 : decode cX6_ends 17 = .ok (.iaload, 1) := by decide +kernel
theorem dX6_ends_18 : decode cX6_ends 18 = .ok (.iadd, 1) := by decide +kernel
theorem dX6_ends_19 : decode cX6_ends 19 = .ok (.iastore, 1) := by decide +kernel
theorem dX6_ends_20 : decode cX6_ends 20 = .ok (.aload_n 0, 1) := by decide +kernel
theorem dX6_ends_21 : decode cX6_ends 21 = .ok (.dup, 1) := by decide +kernel
theorem dX6_ends_22 : decode cX6_ends 22 = .ok (.getfield 93, 3) := by decide +kernel
theorem dX6_ends_25 : decode cX6_ends 25 = .ok (.iconst 1, 1) := by decide +kernel
theorem dX6_ends_26 : decode cX6_ends 26 = .ok (.isub, 1) := by decide +kernel
theorem dX6_ends_27 : decode cX6_ends 27 = .ok (.putfield 93, 3) := by decide +kernel
theorem dX6_ends_30 : decode cX6_ends 30 = .ok (.iload_n 1, 1) := by decide +kernel
theorem dX6_ends_31 : decode cX6_ends 31 = .ok (.istore_n 2, 1) := by decide +kernel
theorem dX6_ends_32 : decode cX6_ends 32 = .ok (.iload_n 2, 1) := by decide +kernel
theorem dX6_ends_33 : decode cX6_ends 33 = .ok (.aload_n 0, 1) := by decide +kernel
theorem dX6_ends_34 : decode cX6_ends 34 = .ok (.getfield 93, 3) := by decide +kernel
theorem dX6_ends_37 : decode cX6_ends 37 = .ok (.if_icmp .ge 65, 3) := by decide +kernel
theorem dX6_ends_40 : decode cX6_ends 40 = .ok (.aload_n 0, 1) := by decide +kernel
theorem dX6_ends_41 : decode cX6_ends 41 = .ok (.getfield 28, 3) := by decide +kernel
theorem dX6_ends_44 : decode cX6_ends 44 = .ok (.iload_n 2, 1) := by decide +kernel
theorem dX6_ends_45 : decode cX6_ends 45 = .ok (.aload_n 0, 1) := by decide +kernel
theorem dX6_ends_46 : decode cX6_ends 46 = .ok (.getfield 28, 3) := by decide +kernel
theorem dX6_ends_49 : decode cX6_ends 49 = .ok (.iload_n 2, 1) := by decide +kernel
theorem dX6_ends_50 : decode cX6_ends 50 = .ok (.iconst 1, 1) := by decide +kernel
theorem dX6_ends_51 : decode cX6_ends 51 = .ok (.iadd, 1) := by decide +kernel
theorem dX6_ends_52 : decode cX6_ends 52 = .ok (.iaload, 1) := by decide +kernel
theorem dX6_ends_53 : decode cX6_ends 53 = .ok (.iastore, 1) := by decide +kernel
theorem dX6_ends_54 : decode cX6_ends 54 = .ok (.aload_n 0, 1) := by decide +kernel
theorem dX6_ends_55 : decode cX6_ends 55 = .ok (.getfield 31, 3) := by decide +kernel
theorem dX6_ends_58 : decode cX6_ends 58 = .ok (.iload_n 2, 1) := by decide +kernel
theorem dX6_ends_59 : decode cX6_ends 59 = .ok (.aload_n 0, 1) := by decide +kernel
theorem dX6_ends_60 : decode cX6_ends 60 = .ok (.getfield 31, 3) := by decide +kernel
theorem dX6_ends_63 : decode cX6_ends 63 = .ok (.iload_n 2, 1) := by decide +kernel
theorem dX6_ends_64 : decode cX6_ends 64 = .ok (.iconst 1, 1) := by decide +kernel
theorem dX6_ends_65 : decode cX6_ends 65 = .ok (.iadd, 1) := by decide +kernel
theorem dX6_ends_66 : decode cX6_ends 66 = .ok (.iaload, 1) := by decide +kernel
theorem dX6_ends_67 : decode cX6_ends 67 = .ok (.iastore, 1) := by decide +kernel
theorem dX6_ends_68 : decode cX6_ends 68 = .ok (.aload_n 0, 1) := by decide +kernel
theorem dX6_ends_69 : decode cX6_ends 69 = .ok (.getfield 34, 3) := by decide +kernel
theorem dX6_ends_72 : decode cX6_ends 72 = .ok (.iload_n 2, 1) := by decide +kernel
theorem dX6_ends_73 : decode cX6_ends 73 = .ok (.aload_n 0, 1) := by decide +kernel
theorem dX6_ends_74 : decode cX6_ends 74 = .ok (.getfield 34, 3) := by decide +kernel
theorem dX6_ends_77 : decode cX6_ends 77 = .ok (.iload_n 2, 1) := by decide +kernel
theorem dX6_ends_78 : decode cX6_ends 78 = .ok (.iconst 1, 1) := by decide +kernel
theorem dX6_ends_79 : decode cX6_ends 79 = .ok (.iadd, 1) := by decide +kernel
theorem dX6_ends_80 : decode cX6_ends 80 = .ok (.iaload, 1) := by decide +kernel
theorem dX6_ends_81 : decode cX6_ends 81 = .ok (.iastore, 1) := by decide +kernel
theorem dX6_ends_82 : decode cX6_ends 82 = .ok (.aload_n 0, 1) := by decide +kernel
theorem dX6_ends_83 : decode cX6_ends 83 = .ok (.getfield 37, 3) := by decide +kernel
theorem dX6_ends_86 : decode cX6_ends 86 = .ok (.iload_n 2, 1) := by decide +kernel
theorem dX6_ends_87 : decode cX6_ends 87 = .ok (.aload_n 0, 1) := by decide +kernel
theorem dX6_ends_88 : decode cX6_ends 88 = .ok (.getfield 37, 3) := by decide +kernel
theorem dX6_ends_91 : decode cX6_ends 91 = .ok (.iload_n 2, 1) := by decide +kernel
theorem dX6_ends_92 : decode cX6_ends 92 = .ok (.iconst 1, 1) := by decide +kernel
theorem dX6_ends_93 : decode cX6_ends 93 = .ok (.iadd, 1) := by decide +kernel
theorem dX6_ends_94 : decode cX6_ends 94 = .ok (.iaload, 1) := by decide +kernel
theorem dX6_ends_95 : decode cX6_ends 95 = .ok (.iastore, 1) := by decide +kernel
theorem dX6_ends_96 : decode cX6_ends 96 = .ok (.iinc 2 1, 3) := by decide +kernel
theorem dX6_ends_99 : decode cX6_ends 99 = .ok (.goto (-67), 3) := by decide +kernel
theorem dX6_ends_102 : decode cX6_ends 102 = .ok (.return_, 1) := by decide +kernel
theorem dX6_cancel_0 : decode cX6_cancel 0 = .ok (.aload_n 0, 1) := by decide +kernel
theorem dX6_cancel_1 : decode cX6_cancel 1 = .ok (.iload_n 1, 1) := by decide +kernel
theorem dX6_cancel_2 : decode cX6_cancel 2 = .ok (.invokevirtual 124, 3) := by decide +kernel
theorem dX6_cancel_5 : decode cX6_cancel 5 = .ok (.ifCond .ne 5, 3) := by decide +kernel
theorem dX6_cancel_8 : decode cX6_cancel 8 = .ok (.iconst 0, 1) := by decide +kernel
theorem dX6_cancel_9 : decode cX6_cancel 9 = .ok (.ireturn, 1) := by decide +kernel
theorem dX6_cancel_10 : decode cX6_cancel 10 = .ok (.aload_n 0, 1) := by decide +kernel
theorem dX6_cancel_11 : decode cX6_cancel 11 = .ok (.getfield 34, 3) := by decide +kernel
theorem dX6_cancel_14 : decode cX6_cancel 14 = .ok (.iload_n 1, 1) := by decide +kernel
theorem dX6_cancel_15 : decode cX6_cancel 15 = .ok (.iaload, 1) := by decide +kernel
theorem dX6_cancel_16 : decode cX6_cancel 16 = .ok (.istore_n 2, 1) := by decide +kernel
theorem dX6_cancel_17 : decode cX6_cancel 17 = .ok (.aload_n 0, 1) := by decide +kernel
theorem dX6_cancel_18 : decode cX6_cancel 18 = .ok (.iload_n 1, 1) := by decide +kernel
theorem dX6_cancel_19 : decode cX6_cancel 19 = .ok (.invokevirtual 127, 3) := by decide +kernel
theorem dX6_cancel_22 : decode cX6_cancel 22 = .ok (.iload_n 2, 1) := by decide +kernel
theorem dX6_cancel_23 : decode cX6_cancel 23 = .ok (.ireturn, 1) := by decide +kernel
theorem dX6_advance_0 : decode cX6_advance 0 = .ok (.aload_n 0, 1) := by decide +kernel
theorem dX6_advance_1 : decode cX6_advance 1 = .ok (.iconst 0, 1) := by decide +kernel
theorem dX6_advance_2 : decode cX6_advance 2 = .ok (.putfield 82, 3) := by decide +kernel
theorem dX6_advance_5 : decode cX6_advance 5 = .ok (.iload_n 1, 1) := by decide +kernel
theorem dX6_advance_6 : decode cX6_advance 6 = .ok (.i2l, 1) := by decide +kernel
theorem dX6_advance_7 : decode cX6_advance 7 = .ok (.lconst 1, 1) := by decide +kernel
theorem dX6_advance_8 : decode cX6_advance 8 = .ok (.ldc2_w 107, 3) := by decide +kernel
theorem dX6_advance_11 : decode cX6_advance 11 = .ok (.invokestatic 89, 3) := by decide +kernel
theorem dX6_advance_14 : decode cX6_advance 14 = .ok (.ifCond .eq 15, 3) := by decide +kernel
theorem dX6_advance_17 : decode cX6_advance 17 = .ok (.aload_n 0, 1) := by decide +kernel
theorem dX6_advance_18 : decode cX6_advance 18 = .ok (.getfield 121, 3) := by decide +kernel
theorem dX6_advance_21 : decode cX6_advance 21 = .ok (.iload_n 1, 1) := by decide +kernel
theorem dX6_advance_22 : decode cX6_advance 22 = .ok (.iadd, 1) := by decide +kernel
theorem dX6_advance_23 : decode cX6_advance 23 = .ok (.sipush 999, 3) := by decide +kernel
theorem dX6_advance_26 : decode cX6_advance 26 = .ok (.if_icmp .le 9, 3) := by decide +kernel
theorem dX6_advance_29 : decode cX6_advance 29 = .ok (.aload_n 0, 1) := by decide +kernel
theorem dX6_advance_30 : decode cX6_advance 30 = .ok (.iconst 1, 1) := by decide +kernel
theorem dX6_advance_31 : decode cX6_advance 31 = .ok (.invokevirtual 111, 3) := by decide +kernel
theorem dX6_advance_34 : decode cX6_advance 34 = .ok (.ireturn, 1) := by decide +kernel
theorem dX6_advance_35 : decode cX6_advance 35 = .ok (.aload_n 0, 1) := by decide +kernel
theorem dX6_advance_36 : decode cX6_advance 36 = .ok (.dup, 1) := by decide +kernel
theorem dX6_advance_37 : decode cX6_advance 37 = .ok (.getfield 121, 3) := by decide +kernel
theorem dX6_advance_40 : decode cX6_advance 40 = .ok (.iload_n 1, 1) := by decide +kernel
theorem dX6_advance_41 : decode cX6_advance 41 = .ok (.iadd, 1) := by decide +kernel
theorem dX6_advance_42 : decode cX6_advance 42 = .ok (.putfield 121, 3) := by decide +kernel
theorem dX6_advance_45 : decode cX6_advance 45 = .ok (.iconst 0, 1) := by decide +kernel
theorem dX6_advance_46 : decode cX6_advance 46 = .ok (.istore_n 2, 1) := by decide +kernel
theorem dX6_advance_47 : decode cX6_advance 47 = .ok (.aload_n 0, 1) := by decide +kernel
theorem dX6_advance_48 : decode cX6_advance 48 = .ok (.getfield 93, 3) := by decide +kernel
theorem dX6_advance_51 : decode cX6_advance 51 = .ok (.iconst 1, 1) := by decide +kernel
theorem dX6_advance_52 : decode cX6_advance 52 = .ok (.isub, 1) := by decide +kernel
theorem dX6_advance_53 : decode cX6_advance 53 = .ok (.istore_n 3, 1) := by decide +kernel
theorem dX6_advance_54 : decode cX6_advance 54 = .ok (.iload_n 3, 1) := by decide +kernel
theorem dX6_advance_55 : decode cX6_advance 55 = .ok (.ifCond .lt 30, 3) := by decide +kernel
theorem dX6_advance_58 : decode cX6_advance 58 = .ok (.aload_n 0, 1) := by decide +kernel
theorem dX6_advance_59 : decode cX6_advance 59 = .ok (.getfield 37, 3) := by decide +kernel
theorem dX6_advance_62 : decode cX6_advance 62 = .ok (.iload_n 3, 1) := by decide +kernel
theorem dX6_advance_63 : decode cX6_advance 63 = .ok (.iaload, 1) := by decide +kernel
theorem dX6_advance_64 : decode cX6_advance 64 = .ok (.aload_n 0, 1) := by decide +kernel
theorem dX6_advance_65 : decode cX6_advance 65 = .ok (.getfield 121, 3) := by decide +kernel
theorem dX6_advance_68 : decode cX6_advance 68 = .ok (.if_icmp .ge 11, 3) := by decide +kernel
theorem dX6_advance_71 : decode cX6_advance 71 = .ok (.aload_n 0, 1) := by decide +kernel
theorem dX6_advance_72 : decode cX6_advance 72 = .ok (.iload_n 3, 1) := by decide +kernel
theorem dX6_advance_73 : decode cX6_advance 73 = .ok (.invokevirtual 127, 3) := by decide +kernel
theorem dX6_advance_76 : decode cX6_advance 76 = .ok (.iinc 2 1, 3) := by decide +kernel
theorem dX6_advance_79 : decode cX6_advance 79 = .ok (.iinc 3 (-1), 3) := by decide +kernel
theorem dX6_advance_82 : decode cX6_advance 82 = .ok (.goto (-28), 3) := by decide +kernel
theorem dX6_advance_85 : decode cX6_advance 85 = .ok (.iload_n 2, 1) := by decide +kernel
theorem dX6_advance_86 : decode cX6_advance 86 = .ok (.ireturn, 1) := by decide +kernel
theorem dX6_addCost_0 : decode cX6_addCost 0 = .ok (.aload_n 0, 1) := by decide +kernel
theorem dX6_addCost_1 : decode cX6_addCost 1 = .ok (.iconst 0, 1) := by decide +kernel
theorem dX6_addCost_2 : decode cX6_addCost 2 = .ok (.putfield 82, 3) := by decide +kernel
theorem dX6_addCost_5 : decode cX6_addCost 5 = .ok (.iload_n 1, 1) := by decide +kernel
theorem dX6_addCost_6 : decode cX6_addCost 6 = .ok (.i2l, 1) := by decide +kernel
theorem dX6_addCost_7 : decode cX6_addCost 7 = .ok (.lconst 0, 1) := by decide +kernel
theorem dX6_addCost_8 : decode cX6_addCost 8 = .ok (.ldc2_w 119, 3) := by decide +kernel
theorem dX6_addCost_11 : decode cX6_addCost 11 = .ok (.invokestatic 89, 3) := by decide +kernel
theorem dX6_addCost_14 : decode cX6_addCost 14 = .ok (.ifCond .eq 29, 3) := by decide +kernel
theorem dX6_addCost_17 : decode cX6_addCost 17 = .ok (.iload_n 2, 1) := by decide +kernel
theorem dX6_addCost_18 : decode cX6_addCost 18 = .ok (.i2l, 1) := by decide +kernel
theorem dX6_addCost_19 : decode cX6_addCost 19 = .ok (.lconst 0, 1) := by decide +kernel
theorem dX6_addCost_20 : decode cX6_addCost 20 = .ok (.aload_n 0, 1) := by decide +kernel
theorem dX6_addCost_21 : decode cX6_addCost 21 = .ok (.getfield 121, 3) := by decide +kernel
theorem dX6_addCost_24 : decode cX6_addCost 24 = .ok (.i2l, 1) := by decide +kernel
theorem dX6_addCost_25 : decode cX6_addCost 25 = .ok (.invokestatic 89, 3) := by decide +kernel
theorem dX6_addCost_28 : decode cX6_addCost 28 = .ok (.ifCond .eq 15, 3) := by decide +kernel
theorem dX6_addCost_31 : decode cX6_addCost 31 = .ok (.iload_n 3, 1) := by decide +kernel
theorem dX6_addCost_32 : decode cX6_addCost 32 = .ok (.i2l, 1) := by decide +kernel
theorem dX6_addCost_33 : decode cX6_addCost 33 = .ok (.lconst 1, 1) := by decide +kernel
theorem dX6_addCost_34 : decode cX6_addCost 34 = .ok (.ldc2_w 103, 3) := by decide +kernel
theorem dX6_addCost_37 : decode cX6_addCost 37 = .ok (.invokestatic 89, 3) := by decide +kernel
theorem dX6_addCost_40 : decode cX6_addCost 40 = .ok (.ifCond .ne 9, 3) := by decide +kernel
theorem dX6_addCost_43 : decode cX6_addCost 43 = .ok (.aload_n 0, 1) := by decide +kernel
theorem dX6_addCost_44 : decode cX6_addCost 44 = .ok (.iconst 1, 1) := by decide +kernel
theorem dX6_addCost_45 : decode cX6_addCost 45 = .ok (.invokevirtual 111, 3) := by decide +kernel
theorem dX6_addCost_48 : decode cX6_addCost 48 = .ok (.ireturn, 1) := by decide +kernel
theorem dX6_addCost_49 : decode cX6_addCost 49 = .ok (.aload_n 0, 1) := by decide +kernel
theorem dX6_addCost_50 : decode cX6_addCost 50 = .ok (.getfield 96, 3) := by decide +kernel
theorem dX6_addCost_53 : decode cX6_addCost 53 = .ok (.bipush 16, 2) := by decide +kernel
theorem dX6_addCost_55 : decode cX6_addCost 55 = .ok (.if_icmp .ne 9, 3) := by decide +kernel
theorem dX6_addCost_58 : decode cX6_addCost 58 = .ok (.aload_n 0, 1) := by decide +kernel
theorem dX6_addCost_59 : decode cX6_addCost 59 = .ok (.iconst 2, 1) := by decide +kernel
theorem dX6_addCost_60 : decode cX6_addCost 60 = .ok (.invokevirtual 111, 3) := by decide +kernel
theorem dX6_addCost_63 : decode cX6_addCost 63 = .ok (.ireturn, 1) := by decide +kernel
theorem dX6_addCost_64 : decode cX6_addCost 64 = .ok (.aload_n 0, 1) := by decide +kernel
theorem dX6_addCost_65 : decode cX6_addCost 65 = .ok (.getfield 40, 3) := by decide +kernel
theorem dX6_addCost_68 : decode cX6_addCost 68 = .ok (.aload_n 0, 1) := by decide +kernel
theorem dX6_addCost_69 : decode cX6_addCost 69 = .ok (.getfield 96, 3) := by decide +kernel
theorem dX6_addCost_72 : decode cX6_addCost 72 = .ok (.iload_n 1, 1) := by decide +kernel
theorem dX6_addCost_73 : decode cX6_addCost 73 = .ok (.iastore, 1) := by decide +kernel
theorem dX6_addCost_74 : decode cX6_addCost 74 = .ok (.aload_n 0, 1) := by decide +kernel
theorem dX6_addCost_75 : decode cX6_addCost 75 = .ok (.getfield 43, 3) := by decide +kernel
theorem dX6_addCost_78 : decode cX6_addCost 78 = .ok (.aload_n 0, 1) := by decide +kernel
theorem dX6_addCost_79 : decode cX6_addCost 79 = .ok (.getfield 96, 3) := by decide +kernel
theorem dX6_addCost_82 : decode cX6_addCost 82 = .ok (.iload_n 2, 1) := by decide +kernel
theorem dX6_addCost_83 : decode cX6_addCost 83 = .ok (.iastore, 1) := by decide +kernel
theorem dX6_addCost_84 : decode cX6_addCost 84 = .ok (.aload_n 0, 1) := by decide +kernel
theorem dX6_addCost_85 : decode cX6_addCost 85 = .ok (.getfield 46, 3) := by decide +kernel
theorem dX6_addCost_88 : decode cX6_addCost 88 = .ok (.aload_n 0, 1) := by decide +kernel
theorem dX6_addCost_89 : decode cX6_addCost 89 = .ok (.getfield 96, 3) := by decide +kernel
theorem dX6_addCost_92 : decode cX6_addCost 92 = .ok (.iload_n 3, 1) := by decide +kernel
theorem dX6_addCost_93 : decode cX6_addCost 93 = .ok (.iastore, 1) := by decide +kernel
theorem dX6_addCost_94 : decode cX6_addCost 94 = .ok (.aload_n 0, 1) := by decide +kernel
theorem dX6_addCost_95 : decode cX6_addCost 95 = .ok (.dup, 1) := by decide +kernel
theorem dX6_addCost_96 : decode cX6_addCost 96 = .ok (.getfield 96, 3) := by decide +kernel
theorem dX6_addCost_99 : decode cX6_addCost 99 = .ok (.iconst 1, 1) := by decide +kernel
theorem dX6_addCost_100 : decode cX6_addCost 100 = .ok (.iadd, 1) := by decide +kernel
theorem dX6_addCost_101 : decode cX6_addCost 101 = .ok (.putfield 96, 3) := by decide +kernel
theorem dX6_addCost_104 : decode cX6_addCost 104 = .ok (.aload_n 0, 1) := by decide +kernel
theorem dX6_addCost_105 : decode cX6_addCost 105 = .ok (.getfield 96, 3) := by decide +kernel
theorem dX6_addCost_108 : decode cX6_addCost 108 = .ok (.iconst 1, 1) := by decide +kernel
theorem dX6_addCost_109 : decode cX6_addCost 109 = .ok (.isub, 1) := by decide +kernel
theorem dX6_addCost_110 : decode cX6_addCost 110 = .ok (.ireturn, 1) := by decide +kernel
theorem dX6_rank_0 : decode cX6_rank 0 = .ok (.iload_n 1, 1) := by decide +kernel
theorem dX6_rank_1 : decode cX6_rank 1 = .ok (.ifCond .lt 17, 3) := by decide +kernel
theorem dX6_rank_4 : decode cX6_rank 4 = .ok (.bipush 16, 2) := by decide +kernel
theorem dX6_rank_6 : decode cX6_rank 6 = .ok (.aload_n 0, 1) := by decide +kernel
theorem dX6_rank_7 : decode cX6_rank 7 = .ok (.getfield 37, 3) := by decide +kernel
theorem dX6_rank_10 : decode cX6_rank 10 = .ok (.iload_n 1, 1) := by decide +kernel
theorem dX6_rank_11 : decode cX6_rank 11 = .ok (.iaload, 1) := by decide +kernel
theorem dX6_rank_12 : decode cX6_rank 12 = .ok (.imul, 1) := by decide +kernel
theorem dX6_rank_13 : decode cX6_rank 13 = .ok (.iload_n 1, 1) := by decide +kernel
theorem dX6_rank_14 : decode cX6_rank 14 = .ok (.iadd, 1) := by decide +kernel
theorem dX6_rank_15 : decode cX6_rank 15 = .ok (.goto 17, 3) := by decide +kernel
theorem dX6_rank_18 : decode cX6_rank 18 = .ok (.bipush 16, 2) := by decide +kernel
theorem dX6_rank_20 : decode cX6_rank 20 = .ok (.aload_n 0, 1) := by decide +kernel
theorem dX6_rank_21 : decode cX6_rank 21 = .ok (.getfield 16, 3) := by decide +kernel
theorem dX6_rank_24 : decode cX6_rank 24 = .ok (.iload_n 2, 1) := by decide +kernel
theorem dX6_rank_25 : decode cX6_rank 25 = .ok (.iaload, 1) := by decide +kernel
theorem dX6_rank_26 : decode cX6_rank 26 = .ok (.imul, 1) := by decide +kernel
theorem dX6_rank_27 : decode cX6_rank 27 = .ok (.bipush 6, 2) := by decide +kernel
theorem dX6_rank_29 : decode cX6_rank 29 = .ok (.iadd, 1) := by decide +kernel
theorem dX6_rank_30 : decode cX6_rank 30 = .ok (.iload_n 2, 1) := by decide +kernel
theorem dX6_rank_31 : decode cX6_rank 31 = .ok (.iadd, 1) := by decide +kernel
theorem dX6_rank_32 : decode cX6_rank 32 = .ok (.ireturn, 1) := by decide +kernel
theorem dX6_addPot_0 : decode cX6_addPot 0 = .ok (.aload_n 0, 1) := by decide +kernel
theorem dX6_addPot_1 : decode cX6_addPot 1 = .ok (.getfield 131, 3) := by decide +kernel
theorem dX6_addPot_4 : decode cX6_addPot 4 = .ok (.istore_n 3, 1) := by decide +kernel
theorem dX6_addPot_5 : decode cX6_addPot 5 = .ok (.iload_n 3, 1) := by decide +kernel
theorem dX6_addPot_6 : decode cX6_addPot 6 = .ok (.ifCond .le 66, 3) := by decide +kernel
theorem dX6_addPot_9 : decode cX6_addPot 9 = .ok (.aload_n 0, 1) := by decide +kernel
theorem dX6_addPot_10 : decode cX6_addPot 10 = .ok (.aload_n 0, 1) := by decide +kernel
theorem dX6_addPot_11 : decode cX6_addPot 11 = .ok (.getfield 55, 3) := by decide +kernel
theorem dX6_addPot_14 : decode cX6_addPot 14 = .ok (.iload_n 3, 1) := by decide +kernel
theorem dX6_addPot_15 : decode cX6_addPot 15 = .ok (.iconst 1, 1) := by decide +kernel
theorem dX6_addPot_16 : decode cX6_addPot 16 = .ok (.isub, 1) := by decide +kernel
theorem dX6_addPot_17 : decode cX6_addPot 17 = .ok (.iaload, 1) := by decide +kernel
theorem dX6_addPot_18 : decode cX6_addPot 18 = .ok (.aload_n 0, 1) := by decide +kernel
theorem dX6_addPot_19 : decode cX6_addPot 19 = .ok (.getfield 52, 3) := by decide +kernel
theorem dX6_addPot_22 : decode cX6_addPot 22 = .ok (.iload_n 3, 1) := by decide +kernel
theorem dX6_addPot_23 : decode cX6_addPot 23 = .ok (.iconst 1, 1) := by decide +kernel
theorem dX6_addPot_24 : decode cX6_addPot 24 = .ok (.isub, 1) := by decide +kernel
theorem dX6_addPot_25 : decode cX6_addPot 25 = .ok (.iaload, 1) := by decide +kernel
theorem dX6_addPot_26 : decode cX6_addPot 26 = .ok (.invokevirtual 134, 3) := by decide +kernel
theorem dX6_addPot_29 : decode cX6_addPot 29 = .ok (.aload_n 0, 1) := by decide +kernel
theorem dX6_addPot_30 : decode cX6_addPot 30 = .ok (.iload_n 1, 1) := by decide +kernel
theorem dX6_addPot_31 : decode cX6_addPot 31 = .ok (.iload_n 2, 1) := by decide +kernel
theorem dX6_addPot_32 : decode cX6_addPot 32 = .ok (.invokevirtual 134, 3) := by decide +kernel
theorem dX6_addPot_35 : decode cX6_addPot 35 = .ok (.if_icmp .le 37, 3) := by decide +kernel
theorem dX6_addPot_38 : decode cX6_addPot 38 = .ok (.aload_n 0, 1) := by decide +kernel
theorem dX6_addPot_39 : decode cX6_addPot 39 = .ok (.getfield 55, 3) := by decide +kernel
theorem dX6_addPot_42 : decode cX6_addPot 42 = .ok (.iload_n 3, 1) := by decide +kernel
theorem dX6_addPot_43 : decode cX6_addPot 43 = .ok (.aload_n 0, 1) := by decide +kernel
theorem dX6_addPot_44 : decode cX6_addPot 44 = .ok (.getfield 55, 3) := by decide +kernel
theorem dX6_addPot_47 : decode cX6_addPot 47 = .ok (.iload_n 3, 1) := by decide +kernel
theorem dX6_addPot_48 : decode cX6_addPot 48 = .ok (.iconst 1, 1) := by decide +kernel
theorem dX6_addPot_49 : decode cX6_addPot 49 = .ok (.isub, 1) := by decide +kernel
theorem dX6_addPot_50 : decode cX6_addPot 50 = .ok (.iaload, 1) := by decide +kernel
theorem dX6_addPot_51 : decode cX6_addPot 51 = .ok (.iastore, 1) := by decide +kernel
theorem dX6_addPot_52 : decode cX6_addPot 52 = .ok (.aload_n 0, 1) := by decide +kernel
theorem dX6_addPot_53 : decode cX6_addPot 53 = .ok (.getfield 52, 3) := by decide +kernel
theorem dX6_addPot_56 : decode cX6_addPot 56 = .ok (.iload_n 3, 1) := by decide +kernel
theorem dX6_addPot_57 : decode cX6_addPot 57 = .ok (.aload_n 0, 1) := by decide +kernel
theorem dX6_addPot_58 : decode cX6_addPot 58 = .ok (.getfield 52, 3) := by decide +kernel
theorem dX6_addPot_61 : decode cX6_addPot 61 = .ok (.iload_n 3, 1) := by decide +kernel
theorem dX6_addPot_62 : decode cX6_addPot 62 = .ok (.iconst 1, 1) := by decide +kernel
theorem dX6_addPot_63 : decode cX6_addPot 63 = .ok (.isub, 1) := by decide +kernel
theorem dX6_addPot_64 : decode cX6_addPot 64 = .ok (.iaload, 1) := by decide +kernel
theorem dX6_addPot_65 : decode cX6_addPot 65 = .ok (.iastore, 1) := by decide +kernel
theorem dX6_addPot_66 : decode cX6_addPot 66 = .ok (.iinc 3 (-1), 3) := by decide +kernel
theorem dX6_addPot_69 : decode cX6_addPot 69 = .ok (.goto (-64), 3) := by decide +kernel
theorem dX6_addPot_72 : decode cX6_addPot 72 = .ok (.aload_n 0, 1) := by decide +kernel
theorem dX6_addPot_73 : decode cX6_addPot 73 = .ok (.getfield 55, 3) := by decide +kernel
theorem dX6_addPot_76 : decode cX6_addPot 76 = .ok (.iload_n 3, 1) := by decide +kernel
theorem dX6_addPot_77 : decode cX6_addPot 77 = .ok (.iload_n 1, 1) := by decide +kernel
theorem dX6_addPot_78 : decode cX6_addPot 78 = .ok (.iastore, 1) := by decide +kernel
theorem dX6_addPot_79 : decode cX6_addPot 79 = .ok (.aload_n 0, 1) := by decide +kernel
theorem dX6_addPot_80 : decode cX6_addPot 80 = .ok (.getfield 52, 3) := by decide +kernel
theorem dX6_addPot_83 : decode cX6_addPot 83 = .ok (.iload_n 3, 1) := by decide +kernel
theorem dX6_addPot_84 : decode cX6_addPot 84 = .ok (.iload_n 2, 1) := by decide +kernel
theorem dX6_addPot_85 : decode cX6_addPot 85 = .ok (.iastore, 1) := by decide +kernel
theorem dX6_addPot_86 : decode cX6_addPot 86 = .ok (.aload_n 0, 1) := by decide +kernel
theorem dX6_addPot_87 : decode cX6_addPot 87 = .ok (.dup, 1) := by decide +kernel
theorem dX6_addPot_88 : decode cX6_addPot 88 = .ok (.getfield 131, 3) := by decide +kernel
theorem dX6_addPot_91 : decode cX6_addPot 91 = .ok (.iconst 1, 1) := by decide +kernel
theorem dX6_addPot_92 : decode cX6_addPot 92 = .ok (.iadd, 1) := by decide +kernel
theorem dX6_addPot_93 : decode cX6_addPot 93 = .ok (.putfield 131, 3) := by decide +kernel
theorem dX6_addPot_96 : decode cX6_addPot 96 = .ok (.return_, 1) := by decide +kernel
theorem dX6_laysPots_0 : decode cX6_laysPots 0 = .ok (.aload_n 0, 1) := by decide +kernel
theorem dX6_laysPots_1 : decode cX6_laysPots 1 = .ok (.iconst 0, 1) := by decide +kernel
theorem dX6_laysPots_2 : decode cX6_laysPots 2 = .ok (.putfield 131, 3) := by decide +kernel
theorem dX6_laysPots_5 : decode cX6_laysPots 5 = .ok (.iconst 0, 1) := by decide +kernel
theorem dX6_laysPots_6 : decode cX6_laysPots 6 = .ok (.istore_n 1, 1) := by decide +kernel
theorem dX6_laysPots_7 : decode cX6_laysPots 7 = .ok (.iload_n 1, 1) := by decide +kernel
theorem dX6_laysPots_8 : decode cX6_laysPots 8 = .ok (.aload_n 0, 1) := by decide +kernel
theorem dX6_laysPots_9 : decode cX6_laysPots 9 = .ok (.getfield 93, 3) := by decide +kernel
theorem dX6_laysPots_12 : decode cX6_laysPots 12 = .ok (.if_icmp .ge 20, 3) := by decide +kernel
theorem dX6_laysPots_15 : decode cX6_laysPots 15 = .ok (.aload_n 0, 1) := by decide +kernel
theorem dX6_laysPots_16 : decode cX6_laysPots 16 = .ok (.iload_n 1, 1) := by decide +kernel
theorem dX6_laysPots_17 : decode cX6_laysPots 17 = .ok (.aload_n 0, 1) := by decide +kernel
theorem dX6_laysPots_18 : decode cX6_laysPots 18 = .ok (.getfield 28, 3) := by decide +kernel
theorem dX6_laysPots_21 : decode cX6_laysPots 21 = .ok (.iload_n 1, 1) := by decide +kernel
theorem dX6_laysPots_22 : decode cX6_laysPots 22 = .ok (.iaload, 1) := by decide +kernel
theorem dX6_laysPots_23 : decode cX6_laysPots 23 = .ok (.invokevirtual 138, 3) := by decide +kernel
theorem dX6_laysPots_26 : decode cX6_laysPots 26 = .ok (.iinc 1 1, 3) := by decide +kernel
theorem dX6_laysPots_29 : decode cX6_laysPots 29 = .ok (.goto (-22), 3) := by decide +kernel
theorem dX6_laysPots_32 : decode cX6_laysPots 32 = .ok (.iconst 0, 1) := by decide +kernel
theorem dX6_laysPots_33 : decode cX6_laysPots 33 = .ok (.istore_n 1, 1) := by decide +kernel
theorem dX6_laysPots_34 : decode cX6_laysPots 34 = .ok (.iload_n 1, 1) := by decide +kernel
theorem dX6_laysPots_35 : decode cX6_laysPots 35 = .ok (.aload_n 0, 1) := by decide +kernel
theorem dX6_laysPots_36 : decode cX6_laysPots 36 = .ok (.getfield 86, 3) := by decide +kernel
theorem dX6_laysPots_39 : decode cX6_laysPots 39 = .ok (.if_icmp .ge 15, 3) := by decide +kernel
theorem dX6_laysPots_42 : decode cX6_laysPots 42 = .ok (.aload_n 0, 1) := by decide +kernel
theorem dX6_laysPots_43 : decode cX6_laysPots 43 = .ok (.iconst (-1), 1) := by decide +kernel
theorem dX6_laysPots_44 : decode cX6_laysPots 44 = .ok (.iload_n 1, 1) := by decide +kernel
theorem dX6_laysPots_45 : decode cX6_laysPots 45 = .ok (.invokevirtual 138, 3) := by decide +kernel
theorem dX6_laysPots_48 : decode cX6_laysPots 48 = .ok (.iinc 1 1, 3) := by decide +kernel
theorem dX6_laysPots_51 : decode cX6_laysPots 51 = .ok (.goto (-17), 3) := by decide +kernel
theorem dX6_laysPots_54 : decode cX6_laysPots 54 = .ok (.iconst 0, 1) := by decide +kernel
theorem dX6_laysPots_55 : decode cX6_laysPots 55 = .ok (.istore_n 1, 1) := by decide +kernel
theorem dX6_laysPots_56 : decode cX6_laysPots 56 = .ok (.iload_n 1, 1) := by decide +kernel
theorem dX6_laysPots_57 : decode cX6_laysPots 57 = .ok (.aload_n 0, 1) := by decide +kernel
theorem dX6_laysPots_58 : decode cX6_laysPots 58 = .ok (.getfield 131, 3) := by decide +kernel
theorem dX6_laysPots_61 : decode cX6_laysPots 61 = .ok (.if_icmp .ge 114, 3) := by decide +kernel
theorem dX6_laysPots_64 : decode cX6_laysPots 64 = .ok (.aload_n 0, 1) := by decide +kernel
theorem dX6_laysPots_65 : decode cX6_laysPots 65 = .ok (.getfield 55, 3) := by decide +kernel
theorem dX6_laysPots_68 : decode cX6_laysPots 68 = .ok (.iload_n 1, 1) := by decide +kernel
theorem dX6_laysPots_69 : decode cX6_laysPots 69 = .ok (.iaload, 1) := by decide +kernel
theorem dX6_laysPots_70 : decode cX6_laysPots 70 = .ok (.istore_n 2, 1) := by decide +kernel
theorem dX6_laysPots_71 : decode cX6_laysPots 71 = .ok (.aload_n 0, 1) := by decide +kernel
theorem dX6_laysPots_72 : decode cX6_laysPots 72 = .ok (.getfield 58, 3) := by decide +kernel
theorem dX6_laysPots_75 : decode cX6_laysPots 75 = .ok (.iload_n 1, 1) := by decide +kernel
theorem dX6_laysPots_76 : decode cX6_laysPots 76 = .ok (.iload_n 2, 1) := by decide +kernel
theorem dX6_laysPots_77 : decode cX6_laysPots 77 = .ok (.ifCond .lt 12, 3) := by decide +kernel
theorem dX6_laysPots_80 : decode cX6_laysPots 80 = .ok (.aload_n 0, 1) := by decide +kernel
theorem dX6_laysPots_81 : decode cX6_laysPots 81 = .ok (.getfield 34, 3) := by decide +kernel
theorem dX6_laysPots_84 : decode cX6_laysPots 84 = .ok (.iload_n 2, 1) := by decide +kernel
theorem dX6_laysPots_85 : decode cX6_laysPots 85 = .ok (.iaload, 1) := by decide +kernel
theorem dX6_laysPots_86 : decode cX6_laysPots 86 = .ok (.goto 14, 3) := by decide +kernel
theorem dX6_laysPots_89 : decode cX6_laysPots 89 = .ok (.aload_n 0, 1) := by decide +kernel
theorem dX6_laysPots_90 : decode cX6_laysPots 90 = .ok (.getfield 7, 3) := by decide +kernel
theorem dX6_laysPots_93 : decode cX6_laysPots 93 = .ok (.aload_n 0, 1) := by decide +kernel
theorem dX6_laysPots_94 : decode cX6_laysPots 94 = .ok (.getfield 52, 3) := by decide +kernel
theorem dX6_laysPots_97 : decode cX6_laysPots 97 = .ok (.iload_n 1, 1) := by decide +kernel
theorem dX6_laysPots_98 : decode cX6_laysPots 98 = .ok (.iaload, 1) := by decide +kernel
theorem dX6_laysPots_99 : decode cX6_laysPots 99 = .ok (.iaload, 1) := by decide +kernel
theorem dX6_laysPots_100 : decode cX6_laysPots 100 = .ok (.iastore, 1) := by decide +kernel
theorem dX6_laysPots_101 : decode cX6_laysPots 101 = .ok (.aload_n 0, 1) := by decide +kernel
theorem dX6_laysPots_102 : decode cX6_laysPots 102 = .ok (.getfield 61, 3) := by decide +kernel
theorem dX6_laysPots_105 : decode cX6_laysPots 105 = .ok (.iload_n 1, 1) := by decide +kernel
theorem dX6_laysPots_106 : decode cX6_laysPots 106 = .ok (.iconst 0, 1) := by decide +kernel
theorem dX6_laysPots_107 : decode cX6_laysPots 107 = .ok (.iastore, 1) := by decide +kernel
theorem dX6_laysPots_108 : decode cX6_laysPots 108 = .ok (.iconst 0, 1) := by decide +kernel
theorem dX6_laysPots_109 : decode cX6_laysPots 109 = .ok (.istore_n 3, 1) := by decide +kernel
theorem dX6_laysPots_110 : decode cX6_laysPots 110 = .ok (.iload_n 3, 1) := by decide +kernel
theorem dX6_laysPots_111 : decode cX6_laysPots 111 = .ok (.aload_n 0, 1) := by decide +kernel
theorem dX6_laysPots_112 : decode cX6_laysPots 112 = .ok (.getfield 96, 3) := by decide +kernel
theorem dX6_laysPots_115 : decode cX6_laysPots 115 = .ok (.if_icmp .ge 54, 3) := by decide +kernel
theorem dX6_laysPots_118 : decode cX6_laysPots 118 = .ok (.aload_n 0, 1) := by decide +kernel
theorem dX6_laysPots_119 : decode cX6_laysPots 119 = .ok (.aload_n 0, 1) := by decide +kernel
theorem dX6_laysPots_120 : decode cX6_laysPots 120 = .ok (.getfield 52, 3) := by decide +kernel
theorem dX6_laysPots_123 : decode cX6_laysPots 123 = .ok (.iload_n 1, 1) := by decide +kernel
theorem dX6_laysPots_124 : decode cX6_laysPots 124 = .ok (.iaload, 1) := by decide +kernel
theorem dX6_laysPots_125 : decode cX6_laysPots 125 = .ok (.iload_n 3, 1) := by decide +kernel
theorem dX6_laysPots_126 : decode cX6_laysPots 126 = .ok (.invokevirtual 142, 3) := by decide +kernel
theorem dX6_laysPots_129 : decode cX6_laysPots 129 = .ok (.ifCond .eq 34, 3) := by decide +kernel
theorem dX6_laysPots_132 : decode cX6_laysPots 132 = .ok (.iload_n 2, 1) := by decide +kernel
theorem dX6_laysPots_133 : decode cX6_laysPots 133 = .ok (.ifCond .lt 18, 3) := by decide +kernel
theorem dX6_laysPots_136 : decode cX6_laysPots 136 = .ok (.aload_n 0, 1) := by decide +kernel
theorem dX6_laysPots_137 : decode cX6_laysPots 137 = .ok (.getfield 31, 3) := by decide +kernel
theorem dX6_laysPots_140 : decode cX6_laysPots 140 = .ok (.iload_n 2, 1) := by decide +kernel
theorem dX6_laysPots_141 : decode cX6_laysPots 141 = .ok (.iaload, 1) := by decide +kernel
theorem dX6_laysPots_142 : decode cX6_laysPots 142 = .ok (.aload_n 0, 1) := by decide +kernel
theorem dX6_laysPots_143 : decode cX6_laysPots 143 = .ok (.getfield 40, 3) := by decide +kernel
theorem dX6_laysPots_146 : decode cX6_laysPots 146 = .ok (.iload_n 3, 1) := by decide +kernel
theorem dX6_laysPots_147 : decode cX6_laysPots 147 = .ok (.iaload, 1) := by decide +kernel
theorem dX6_laysPots_148 : decode cX6_laysPots 148 = .ok (.if_icmp .ne 15, 3) := by decide +kernel
theorem dX6_laysPots_151 : decode cX6_laysPots 151 = .ok (.aload_n 0, 1) := by decide +kernel
theorem dX6_laysPots_152 : decode cX6_laysPots 152 = .ok (.getfield 61, 3) := by decide +kernel
theorem dX6_laysPots_155 : decode cX6_laysPots 155 = .ok (.iload_n 1, 1) := by decide +kernel
theorem dX6_laysPots_156 : decode cX6_laysPots 156 = .ok (.dup2, 1) := by decide +kernel
theorem dX6_laysPots_157 : decode cX6_laysPots 157 = .ok (.iaload, 1) := by decide +kernel
theorem dX6_laysPots_158 : decode cX6_laysPots 158 = .ok (.iconst 1, 1) := by decide +kernel
theorem dX6_laysPots_159 : decode cX6_laysPots 159 = .ok (.iload_n 3, 1) := by decide +kernel
theorem dX6_laysPots_160 : decode cX6_laysPots 160 = .ok (.ishl, 1) := by decide +kernel
theorem dX6_laysPots_161 : decode cX6_laysPots 161 = .ok (.ior, 1) := by decide +kernel
theorem dX6_laysPots_162 : decode cX6_laysPots 162 = .ok (.iastore, 1) := by decide +kernel
theorem dX6_laysPots_163 : decode cX6_laysPots 163 = .ok (.iinc 3 1, 3) := by decide +kernel
theorem dX6_laysPots_166 : decode cX6_laysPots 166 = .ok (.goto (-56), 3) := by decide +kernel
theorem dX6_laysPots_169 : decode cX6_laysPots 169 = .ok (.iinc 1 1, 3) := by decide +kernel
theorem dX6_laysPots_172 : decode cX6_laysPots 172 = .ok (.goto (-116), 3) := by decide +kernel
theorem dX6_laysPots_175 : decode cX6_laysPots 175 = .ok (.return_, 1) := by decide +kernel
theorem dX6_laysSets_0 : decode cX6_laysSets 0 = .ok (.aload_n 0, 1) := by decide +kernel
theorem dX6_laysSets_1 : decode cX6_laysSets 1 = .ok (.getfield 73, 3) := by decide +kernel
theorem dX6_laysSets_4 : decode cX6_laysSets 4 = .ok (.iconst 0, 1) := by decide +kernel
theorem dX6_laysSets_5 : decode cX6_laysSets 5 = .ok (.iconst 0, 1) := by decide +kernel
theorem dX6_laysSets_6 : decode cX6_laysSets 6 = .ok (.iastore, 1) := by decide +kernel
theorem dX6_laysSets_7 : decode cX6_laysSets 7 = .ok (.aload_n 0, 1) := by decide +kernel
theorem dX6_laysSets_8 : decode cX6_laysSets 8 = .ok (.getfield 76, 3) := by decide +kernel
theorem dX6_laysSets_11 : decode cX6_laysSets 11 = .ok (.iconst 0, 1) := by decide +kernel
theorem dX6_laysSets_12 : decode cX6_laysSets 12 = .ok (.iconst 0, 1) := by decide +kernel
theorem dX6_laysSets_13 : decode cX6_laysSets 13 = .ok (.iastore, 1) := by decide +kernel
theorem dX6_laysSets_14 : decode cX6_laysSets 14 = .ok (.iconst 0, 1) := by decide +kernel
theorem dX6_laysSets_15 : decode cX6_laysSets 15 = .ok (.istore_n 2, 1) := by decide +kernel
theorem dX6_laysSets_16 : decode cX6_laysSets 16 = .ok (.iload_n 2, 1) := by decide +kernel
theorem dX6_laysSets_17 : decode cX6_laysSets 17 = .ok (.aload_n 0, 1) := by decide +kernel
theorem dX6_laysSets_18 : decode cX6_laysSets 18 = .ok (.getfield 131, 3) := by decide +kernel
theorem dX6_laysSets_21 : decode cX6_laysSets 21 = .ok (.if_icmp .ge 67, 3) := by decide +kernel
theorem dX6_laysSets_24 : decode cX6_laysSets 24 = .ok (.iconst 0, 1) := by decide +kernel
theorem dX6_laysSets_25 : decode cX6_laysSets 25 = .ok (.istore_n 3, 1) := by decide +kernel
theorem dX6_laysSets_26 : decode cX6_laysSets 26 = .ok (.iload_n 3, 1) := by decide +kernel
theorem dX6_laysSets_27 : decode cX6_laysSets 27 = .ok (.iconst 1, 1) := by decide +kernel
theorem dX6_laysSets_28 : decode cX6_laysSets 28 = .ok (.iload_n 2, 1) := by decide +kernel
theorem dX6_laysSets_29 : decode cX6_laysSets 29 = .ok (.ishl, 1) := by decide +kernel
theorem dX6_laysSets_30 : decode cX6_laysSets 30 = .ok (.if_icmp .ge 52, 3) := by decide +kernel
theorem dX6_laysSets_33 : decode cX6_laysSets 33 = .ok (.aload_n 0, 1) := by decide +kernel
theorem dX6_laysSets_34 : decode cX6_laysSets 34 = .ok (.getfield 73, 3) := by decide +kernel
theorem dX6_laysSets_37 : decode cX6_laysSets 37 = .ok (.iconst 1, 1) := by decide +kernel
theorem dX6_laysSets_38 : decode cX6_laysSets 38 = .ok (.iload_n 2, 1) := by decide +kernel
theorem dX6_laysSets_39 : decode cX6_laysSets 39 = .ok (.ishl, 1) := by decide +kernel
theorem dX6_laysSets_40 : decode cX6_laysSets 40 = .ok (.iload_n 3, 1) := by decide +kernel
theorem dX6_laysSets_41 : decode cX6_laysSets 41 = .ok (.iadd, 1) := by decide +kernel
theorem dX6_laysSets_42 : decode cX6_laysSets 42 = .ok (.aload_n 0, 1) := by decide +kernel
theorem dX6_laysSets_43 : decode cX6_laysSets 43 = .ok (.getfield 73, 3) := by decide +kernel
theorem dX6_laysSets_46 : decode cX6_laysSets 46 = .ok (.iload_n 3, 1) := by decide +kernel
theorem dX6_laysSets_47 : decode cX6_laysSets 47 = .ok (.iaload, 1) := by decide +kernel
theorem dX6_laysSets_48 : decode cX6_laysSets 48 = .ok (.aload_n 1, 1) := by decide +kernel
theorem dX6_laysSets_49 : decode cX6_laysSets 49 = .ok (.iload_n 2, 1) := by decide +kernel
theorem dX6_laysSets_50 : decode cX6_laysSets 50 = .ok (.iaload, 1) := by decide +kernel
theorem dX6_laysSets_51 : decode cX6_laysSets 51 = .ok (.iadd, 1) := by decide +kernel
theorem dX6_laysSets_52 : decode cX6_laysSets 52 = .ok (.iastore, 1) := by decide +kernel
theorem dX6_laysSets_53 : decode cX6_laysSets 53 = .ok (.aload_n 0, 1) := by decide +kernel
theorem dX6_laysSets_54 : decode cX6_laysSets 54 = .ok (.getfield 76, 3) := by decide +kernel
theorem dX6_laysSets_57 : decode cX6_laysSets 57 = .ok (.iconst 1, 1) := by decide +kernel
theorem dX6_laysSets_58 : decode cX6_laysSets 58 = .ok (.iload_n 2, 1) := by decide +kernel
theorem dX6_laysSets_59 : decode cX6_laysSets 59 = .ok (.ishl, 1) := by decide +kernel
theorem dX6_laysSets_60 : decode cX6_laysSets 60 = .ok (.iload_n 3, 1) := by decide +kernel
theorem dX6_laysSets_61 : decode cX6_laysSets 61 = .ok (.iadd, 1) := by decide +kernel
theorem dX6_laysSets_62 : decode cX6_laysSets 62 = .ok (.aload_n 0, 1) := by decide +kernel
theorem dX6_laysSets_63 : decode cX6_laysSets 63 = .ok (.getfield 76, 3) := by decide +kernel
theorem dX6_laysSets_66 : decode cX6_laysSets 66 = .ok (.iload_n 3, 1) := by decide +kernel
theorem dX6_laysSets_67 : decode cX6_laysSets 67 = .ok (.iaload, 1) := by decide +kernel
theorem dX6_laysSets_68 : decode cX6_laysSets 68 = .ok (.aload_n 0, 1) := by decide +kernel
theorem dX6_laysSets_69 : decode cX6_laysSets 69 = .ok (.getfield 61, 3) := by decide +kernel
theorem dX6_laysSets_72 : decode cX6_laysSets 72 = .ok (.iload_n 2, 1) := by decide +kernel
theorem dX6_laysSets_73 : decode cX6_laysSets 73 = .ok (.iaload, 1) := by decide +kernel
theorem dX6_laysSets_74 : decode cX6_laysSets 74 = .ok (.ior, 1) := by decide +kernel
theorem dX6_laysSets_75 : decode cX6_laysSets 75 = .ok (.iastore, 1) := by decide +kernel
theorem dX6_laysSets_76 : decode cX6_laysSets 76 = .ok (.iinc 3 1, 3) := by decide +kernel
theorem dX6_laysSets_79 : decode cX6_laysSets 79 = .ok (.goto (-53), 3) := by decide +kernel
theorem dX6_laysSets_82 : decode cX6_laysSets 82 = .ok (.iinc 2 1, 3) := by decide +kernel
theorem dX6_laysSets_85 : decode cX6_laysSets 85 = .ok (.goto (-69), 3) := by decide +kernel
theorem dX6_laysSets_88 : decode cX6_laysSets 88 = .ok (.return_, 1) := by decide +kernel
theorem dX6_sum_0 : decode cX6_sum 0 = .ok (.iconst 0, 1) := by decide +kernel
theorem dX6_sum_1 : decode cX6_sum 1 = .ok (.istore_n 2, 1) := by decide +kernel
theorem dX6_sum_2 : decode cX6_sum 2 = .ok (.iconst 0, 1) := by decide +kernel
theorem dX6_sum_3 : decode cX6_sum 3 = .ok (.istore_n 3, 1) := by decide +kernel
theorem dX6_sum_4 : decode cX6_sum 4 = .ok (.iload_n 3, 1) := by decide +kernel
theorem dX6_sum_5 : decode cX6_sum 5 = .ok (.bipush 16, 2) := by decide +kernel
theorem dX6_sum_7 : decode cX6_sum 7 = .ok (.if_icmp .ge 28, 3) := by decide +kernel
theorem dX6_sum_10 : decode cX6_sum 10 = .ok (.iload_n 2, 1) := by decide +kernel
theorem dX6_sum_11 : decode cX6_sum 11 = .ok (.iload_n 0, 1) := by decide +kernel
theorem dX6_sum_12 : decode cX6_sum 12 = .ok (.iload_n 3, 1) := by decide +kernel
theorem dX6_sum_13 : decode cX6_sum 13 = .ok (.ishr, 1) := by decide +kernel
theorem dX6_sum_14 : decode cX6_sum 14 = .ok (.iconst 1, 1) := by decide +kernel
theorem dX6_sum_15 : decode cX6_sum 15 = .ok (.iand, 1) := by decide +kernel
theorem dX6_sum_16 : decode cX6_sum 16 = .ok (.iconst 1, 1) := by decide +kernel
theorem dX6_sum_17 : decode cX6_sum 17 = .ok (.if_icmp .ne 9, 3) := by decide +kernel
theorem dX6_sum_20 : decode cX6_sum 20 = .ok (.aload_n 1, 1) := by decide +kernel
theorem dX6_sum_21 : decode cX6_sum 21 = .ok (.iload_n 3, 1) := by decide +kernel
theorem dX6_sum_22 : decode cX6_sum 22 = .ok (.iaload, 1) := by decide +kernel
theorem dX6_sum_23 : decode cX6_sum 23 = .ok (.goto 4, 3) := by decide +kernel
theorem dX6_sum_26 : decode cX6_sum 26 = .ok (.iconst 0, 1) := by decide +kernel
theorem dX6_sum_27 : decode cX6_sum 27 = .ok (.iadd, 1) := by decide +kernel
theorem dX6_sum_28 : decode cX6_sum 28 = .ok (.istore_n 2, 1) := by decide +kernel
theorem dX6_sum_29 : decode cX6_sum 29 = .ok (.iinc 3 1, 3) := by decide +kernel
theorem dX6_sum_32 : decode cX6_sum 32 = .ok (.goto (-28), 3) := by decide +kernel
theorem dX6_sum_35 : decode cX6_sum 35 = .ok (.iload_n 2, 1) := by decide +kernel
theorem dX6_sum_36 : decode cX6_sum 36 = .ok (.ireturn, 1) := by decide +kernel
theorem dX6_most_0 : decode cX6_most 0 = .ok (.iconst 1, 1) := by decide +kernel
theorem dX6_most_1 : decode cX6_most 1 = .ok (.iload_n 1, 1) := by decide +kernel
theorem dX6_most_2 : decode cX6_most 2 = .ok (.ishl, 1) := by decide +kernel
theorem dX6_most_3 : decode cX6_most 3 = .ok (.iconst 1, 1) := by decide +kernel
theorem dX6_most_4 : decode cX6_most 4 = .ok (.isub, 1) := by decide +kernel
theorem dX6_most_5 : decode cX6_most 5 = .ok (.istore 4, 2) := by decide +kernel
theorem dX6_most_7 : decode cX6_most 7 = .ok (.ldc 145, 2) := by decide +kernel
theorem dX6_most_9 : decode cX6_most 9 = .ok (.istore 5, 2) := by decide +kernel
theorem dX6_most_11 : decode cX6_most 11 = .ok (.iconst 0, 1) := by decide +kernel
theorem dX6_most_12 : decode cX6_most 12 = .ok (.istore 6, 2) := by decide +kernel
theorem dX6_most_14 : decode cX6_most 14 = .ok (.iload 6, 2) := by decide +kernel
theorem dX6_most_16 : decode cX6_most 16 = .ok (.iload 4, 2) := by decide +kernel
theorem dX6_most_18 : decode cX6_most 18 = .ok (.if_icmp .gt 55, 3) := by decide +kernel
theorem dX6_most_21 : decode cX6_most 21 = .ok (.aload_n 0, 1) := by decide +kernel
theorem dX6_most_22 : decode cX6_most 22 = .ok (.getfield 73, 3) := by decide +kernel
theorem dX6_most_25 : decode cX6_most 25 = .ok (.iload 6, 2) := by decide +kernel
theorem dX6_most_27 : decode cX6_most 27 = .ok (.iaload, 1) := by decide +kernel
theorem dX6_most_28 : decode cX6_most 28 = .ok (.aload_n 0, 1) := by decide +kernel
theorem dX6_most_29 : decode cX6_most 29 = .ok (.getfield 76, 3) := by decide +kernel
theorem dX6_most_32 : decode cX6_most 32 = .ok (.iload 4, 2) := by decide +kernel
theorem dX6_most_34 : decode cX6_most 34 = .ok (.iload 6, 2) := by decide +kernel
theorem dX6_most_36 : decode cX6_most 36 = .ok (.isub, 1) := by decide +kernel
theorem dX6_most_37 : decode cX6_most 37 = .ok (.iaload, 1) := by decide +kernel
theorem dX6_most_38 : decode cX6_most 38 = .ok (.iconst 1, 1) := by decide +kernel
theorem dX6_most_39 : decode cX6_most 39 = .ok (.iload_n 2, 1) := by decide +kernel
theorem dX6_most_40 : decode cX6_most 40 = .ok (.ishl, 1) := by decide +kernel
theorem dX6_most_41 : decode cX6_most 41 = .ok (.iconst 1, 1) := by decide +kernel
theorem dX6_most_42 : decode cX6_most 42 = .ok (.isub, 1) := by decide +kernel
theorem dX6_most_43 : decode cX6_most 43 = .ok (.iand, 1) := by decide +kernel
theorem dX6_most_44 : decode cX6_most 44 = .ok (.aload_n 3, 1) := by decide +kernel
theorem dX6_most_45 : decode cX6_most 45 = .ok (.invokestatic 146, 3) := by decide +kernel
theorem dX6_most_48 : decode cX6_most 48 = .ok (.iadd, 1) := by decide +kernel
theorem dX6_most_49 : decode cX6_most 49 = .ok (.istore 7, 2) := by decide +kernel
theorem dX6_most_51 : decode cX6_most 51 = .ok (.iload 7, 2) := by decide +kernel
theorem dX6_most_53 : decode cX6_most 53 = .ok (.iload 5, 2) := by decide +kernel
theorem dX6_most_55 : decode cX6_most 55 = .ok (.if_icmp .ge 8, 3) := by decide +kernel
theorem dX6_most_58 : decode cX6_most 58 = .ok (.iload 7, 2) := by decide +kernel
theorem dX6_most_60 : decode cX6_most 60 = .ok (.goto 5, 3) := by decide +kernel
theorem dX6_most_63 : decode cX6_most 63 = .ok (.iload 5, 2) := by decide +kernel
theorem dX6_most_65 : decode cX6_most 65 = .ok (.istore 5, 2) := by decide +kernel
theorem dX6_most_67 : decode cX6_most 67 = .ok (.iinc 6 1, 3) := by decide +kernel
theorem dX6_most_70 : decode cX6_most 70 = .ok (.goto (-56), 3) := by decide +kernel
theorem dX6_most_73 : decode cX6_most 73 = .ok (.iload 5, 2) := by decide +kernel
theorem dX6_most_75 : decode cX6_most 75 = .ok (.ireturn, 1) := by decide +kernel
theorem dX6_plans_0 : decode cX6_plans 0 = .ok (.aload_n 0, 1) := by decide +kernel
theorem dX6_plans_1 : decode cX6_plans 1 = .ok (.invokevirtual 150, 3) := by decide +kernel
theorem dX6_plans_4 : decode cX6_plans 4 = .ok (.aload_n 0, 1) := by decide +kernel
theorem dX6_plans_5 : decode cX6_plans 5 = .ok (.aload_n 0, 1) := by decide +kernel
theorem dX6_plans_6 : decode cX6_plans 6 = .ok (.getfield 58, 3) := by decide +kernel
theorem dX6_plans_9 : decode cX6_plans 9 = .ok (.invokevirtual 153, 3) := by decide +kernel
theorem dX6_plans_12 : decode cX6_plans 12 = .ok (.iconst 0, 1) := by decide +kernel
theorem dX6_plans_13 : decode cX6_plans 13 = .ok (.istore_n 1, 1) := by decide +kernel
theorem dX6_plans_14 : decode cX6_plans 14 = .ok (.iconst 0, 1) := by decide +kernel
theorem dX6_plans_15 : decode cX6_plans 15 = .ok (.istore_n 2, 1) := by decide +kernel
theorem dX6_plans_16 : decode cX6_plans 16 = .ok (.iload_n 2, 1) := by decide +kernel
theorem dX6_plans_17 : decode cX6_plans 17 = .ok (.aload_n 0, 1) := by decide +kernel
theorem dX6_plans_18 : decode cX6_plans 18 = .ok (.getfield 96, 3) := by decide +kernel
theorem dX6_plans_21 : decode cX6_plans 21 = .ok (.if_icmp .ge 36, 3) := by decide +kernel
theorem dX6_plans_24 : decode cX6_plans 24 = .ok (.aload_n 0, 1) := by decide +kernel
theorem dX6_plans_25 : decode cX6_plans 25 = .ok (.aload_n 0, 1) := by decide +kernel
theorem dX6_plans_26 : decode cX6_plans 26 = .ok (.getfield 131, 3) := by decide +kernel
theorem dX6_plans_29 : decode cX6_plans 29 = .ok (.iload_n 2, 1) := by decide +kernel
theorem dX6_plans_30 : decode cX6_plans 30 = .ok (.iconst 1, 1) := by decide +kernel
theorem dX6_plans_31 : decode cX6_plans 31 = .ok (.iadd, 1) := by decide +kernel
theorem dX6_plans_32 : decode cX6_plans 32 = .ok (.aload_n 0, 1) := by decide +kernel
theorem dX6_plans_33 : decode cX6_plans 33 = .ok (.getfield 46, 3) := by decide +kernel
theorem dX6_plans_36 : decode cX6_plans 36 = .ok (.invokevirtual 157, 3) := by decide +kernel
theorem dX6_plans_39 : decode cX6_plans 39 = .ok (.istore_n 3, 1) := by decide +kernel
theorem dX6_plans_40 : decode cX6_plans 40 = .ok (.aload_n 0, 1) := by decide +kernel
theorem dX6_plans_41 : decode cX6_plans 41 = .ok (.getfield 64, 3) := by decide +kernel
theorem dX6_plans_44 : decode cX6_plans 44 = .ok (.iload_n 2, 1) := by decide +kernel
theorem dX6_plans_45 : decode cX6_plans 45 = .ok (.iload_n 3, 1) := by decide +kernel
theorem dX6_plans_46 : decode cX6_plans 46 = .ok (.iload_n 1, 1) := by decide +kernel
theorem dX6_plans_47 : decode cX6_plans 47 = .ok (.isub, 1) := by decide +kernel
theorem dX6_plans_48 : decode cX6_plans 48 = .ok (.iastore, 1) := by decide +kernel
theorem dX6_plans_49 : decode cX6_plans 49 = .ok (.iload_n 3, 1) := by decide +kernel
theorem dX6_plans_50 : decode cX6_plans 50 = .ok (.istore_n 1, 1) := by decide +kernel
theorem dX6_plans_51 : decode cX6_plans 51 = .ok (.iinc 2 1, 3) := by decide +kernel
theorem dX6_plans_54 : decode cX6_plans 54 = .ok (.goto (-38), 3) := by decide +kernel
theorem dX6_plans_57 : decode cX6_plans 57 = .ok (.aload_n 0, 1) := by decide +kernel
theorem dX6_plans_58 : decode cX6_plans 58 = .ok (.getfield 96, 3) := by decide +kernel
theorem dX6_plans_61 : decode cX6_plans 61 = .ok (.istore_n 2, 1) := by decide +kernel
theorem dX6_plans_62 : decode cX6_plans 62 = .ok (.iload_n 2, 1) := by decide +kernel
theorem dX6_plans_63 : decode cX6_plans 63 = .ok (.bipush 16, 2) := by decide +kernel
theorem dX6_plans_65 : decode cX6_plans 65 = .ok (.if_icmp .ge 16, 3) := by decide +kernel
theorem dX6_plans_68 : decode cX6_plans 68 = .ok (.aload_n 0, 1) := by decide +kernel
theorem dX6_plans_69 : decode cX6_plans 69 = .ok (.getfield 64, 3) := by decide +kernel
theorem dX6_plans_72 : decode cX6_plans 72 = .ok (.iload_n 2, 1) := by decide +kernel
theorem dX6_plans_73 : decode cX6_plans 73 = .ok (.iconst 0, 1) := by decide +kernel
theorem dX6_plans_74 : decode cX6_plans 74 = .ok (.iastore, 1) := by decide +kernel
theorem dX6_plans_75 : decode cX6_plans 75 = .ok (.iinc 2 1, 3) := by decide +kernel
theorem dX6_plans_78 : decode cX6_plans 78 = .ok (.goto (-16), 3) := by decide +kernel
theorem dX6_plans_81 : decode cX6_plans 81 = .ok (.iconst 0, 1) := by decide +kernel
theorem dX6_plans_82 : decode cX6_plans 82 = .ok (.istore_n 1, 1) := by decide +kernel
theorem dX6_plans_83 : decode cX6_plans 83 = .ok (.iconst 0, 1) := by decide +kernel
theorem dX6_plans_84 : decode cX6_plans 84 = .ok (.istore_n 2, 1) := by decide +kernel
theorem dX6_plans_85 : decode cX6_plans 85 = .ok (.iload_n 2, 1) := by decide +kernel
theorem dX6_plans_86 : decode cX6_plans 86 = .ok (.aload_n 0, 1) := by decide +kernel
theorem dX6_plans_87 : decode cX6_plans 87 = .ok (.getfield 131, 3) := by decide +kernel
theorem dX6_plans_90 : decode cX6_plans 90 = .ok (.if_icmp .ge 36, 3) := by decide +kernel
theorem dX6_plans_93 : decode cX6_plans 93 = .ok (.aload_n 0, 1) := by decide +kernel
theorem dX6_plans_94 : decode cX6_plans 94 = .ok (.iload_n 2, 1) := by decide +kernel
theorem dX6_plans_95 : decode cX6_plans 95 = .ok (.iconst 1, 1) := by decide +kernel
theorem dX6_plans_96 : decode cX6_plans 96 = .ok (.iadd, 1) := by decide +kernel
theorem dX6_plans_97 : decode cX6_plans 97 = .ok (.aload_n 0, 1) := by decide +kernel
theorem dX6_plans_98 : decode cX6_plans 98 = .ok (.getfield 96, 3) := by decide +kernel
theorem dX6_plans_101 : decode cX6_plans 101 = .ok (.aload_n 0, 1) := by decide +kernel
theorem dX6_plans_102 : decode cX6_plans 102 = .ok (.getfield 64, 3) := by decide +kernel
theorem dX6_plans_105 : decode cX6_plans 105 = .ok (.invokevirtual 157, 3) := by decide +kernel
theorem dX6_plans_108 : decode cX6_plans 108 = .ok (.istore_n 3, 1) := by decide +kernel
theorem dX6_plans_109 : decode cX6_plans 109 = .ok (.aload_n 0, 1) := by decide +kernel
theorem dX6_plans_110 : decode cX6_plans 110 = .ok (.getfield 67, 3) := by decide +kernel
theorem dX6_plans_113 : decode cX6_plans 113 = .ok (.iload_n 2, 1) := by decide +kernel
theorem dX6_plans_114 : decode cX6_plans 114 = .ok (.iload_n 3, 1) := by decide +kernel
theorem dX6_plans_115 : decode cX6_plans 115 = .ok (.iload_n 1, 1) := by decide +kernel
theorem dX6_plans_116 : decode cX6_plans 116 = .ok (.isub, 1) := by decide +kernel
theorem dX6_plans_117 : decode cX6_plans 117 = .ok (.iastore, 1) := by decide +kernel
theorem dX6_plans_118 : decode cX6_plans 118 = .ok (.iload_n 3, 1) := by decide +kernel
theorem dX6_plans_119 : decode cX6_plans 119 = .ok (.istore_n 1, 1) := by decide +kernel
theorem dX6_plans_120 : decode cX6_plans 120 = .ok (.iinc 2 1, 3) := by decide +kernel
theorem dX6_plans_123 : decode cX6_plans 123 = .ok (.goto (-38), 3) := by decide +kernel
theorem dX6_plans_126 : decode cX6_plans 126 = .ok (.return_, 1) := by decide +kernel
theorem dX6_parts_0 : decode cX6_parts 0 = .ok (.iconst 0, 1) := by decide +kernel
theorem dX6_parts_1 : decode cX6_parts 1 = .ok (.istore_n 1, 1) := by decide +kernel
theorem dX6_parts_2 : decode cX6_parts 2 = .ok (.iload_n 1, 1) := by decide +kernel
theorem dX6_parts_3 : decode cX6_parts 3 = .ok (.aload_n 0, 1) := by decide +kernel
theorem dX6_parts_4 : decode cX6_parts 4 = .ok (.getfield 96, 3) := by decide +kernel
theorem dX6_parts_7 : decode cX6_parts 7 = .ok (.if_icmp .ge 205, 3) := by decide +kernel
theorem dX6_parts_10 : decode cX6_parts 10 = .ok (.iconst 0, 1) := by decide +kernel
theorem dX6_parts_11 : decode cX6_parts 11 = .ok (.istore_n 2, 1) := by decide +kernel
theorem dX6_parts_12 : decode cX6_parts 12 = .ok (.iload_n 2, 1) := by decide +kernel
theorem dX6_parts_13 : decode cX6_parts 13 = .ok (.aload_n 0, 1) := by decide +kernel
theorem dX6_parts_14 : decode cX6_parts 14 = .ok (.getfield 131, 3) := by decide +kernel
theorem dX6_parts_17 : decode cX6_parts 17 = .ok (.if_icmp .ge 189, 3) := by decide +kernel
theorem dX6_parts_20 : decode cX6_parts 20 = .ok (.iconst 0, 1) := by decide +kernel
theorem dX6_parts_21 : decode cX6_parts 21 = .ok (.istore_n 3, 1) := by decide +kernel
theorem dX6_parts_22 : decode cX6_parts 22 = .ok (.aload_n 0, 1) := by decide +kernel
theorem dX6_parts_23 : decode cX6_parts 23 = .ok (.getfield 61, 3) := by decide +kernel
theorem dX6_parts_26 : decode cX6_parts 26 = .ok (.iload_n 2, 1) := by decide +kernel
theorem dX6_parts_27 : decode cX6_parts 27 = .ok (.iaload, 1) := by decide +kernel
theorem dX6_parts_28 : decode cX6_parts 28 = .ok (.iload_n 1, 1) := by decide +kernel
theorem dX6_parts_29 : decode cX6_parts 29 = .ok (.ishr, 1) := by decide +kernel
theorem dX6_parts_30 : decode cX6_parts 30 = .ok (.iconst 1, 1) := by decide +kernel
theorem dX6_parts_31 : decode cX6_parts 31 = .ok (.iand, 1) := by decide +kernel
theorem dX6_parts_32 : decode cX6_parts 32 = .ok (.iconst 1, 1) := by decide +kernel
theorem dX6_parts_33 : decode cX6_parts 33 = .ok (.if_icmp .ne 155, 3) := by decide +kernel
theorem dX6_parts_36 : decode cX6_parts 36 = .ok (.aload_n 0, 1) := by decide +kernel
theorem dX6_parts_37 : decode cX6_parts 37 = .ok (.getfield 67, 3) := by decide +kernel
theorem dX6_parts_40 : decode cX6_parts 40 = .ok (.iload_n 2, 1) := by decide +kernel
theorem dX6_parts_41 : decode cX6_parts 41 = .ok (.iaload, 1) := by decide +kernel
theorem dX6_parts_42 : decode cX6_parts 42 = .ok (.aload_n 0, 1) := by decide +kernel
theorem dX6_parts_43 : decode cX6_parts 43 = .ok (.getfield 64, 3) := by decide +kernel
theorem dX6_parts_46 : decode cX6_parts 46 = .ok (.iload_n 1, 1) := by decide +kernel
theorem dX6_parts_47 : decode cX6_parts 47 = .ok (.iaload, 1) := by decide +kernel
theorem dX6_parts_48 : decode cX6_parts 48 = .ok (.if_icmp .ge 12, 3) := by decide +kernel
theorem dX6_parts_51 : decode cX6_parts 51 = .ok (.aload_n 0, 1) := by decide +kernel
theorem dX6_parts_52 : decode cX6_parts 52 = .ok (.getfield 67, 3) := by decide +kernel
theorem dX6_parts_55 : decode cX6_parts 55 = .ok (.iload_n 2, 1) := by decide +kernel
theorem dX6_parts_56 : decode cX6_parts 56 = .ok (.iaload, 1) := by decide +kernel
theorem dX6_parts_57 : decode cX6_parts 57 = .ok (.goto 9, 3) := by decide +kernel
theorem dX6_parts_60 : decode cX6_parts 60 = .ok (.aload_n 0, 1) := by decide +kernel
theorem dX6_parts_61 : decode cX6_parts 61 = .ok (.getfield 64, 3) := by decide +kernel
theorem dX6_parts_64 : decode cX6_parts 64 = .ok (.iload_n 1, 1) := by decide +kernel
theorem dX6_parts_65 : decode cX6_parts 65 = .ok (.iaload, 1) := by decide +kernel
theorem dX6_parts_66 : decode cX6_parts 66 = .ok (.istore_n 3, 1) := by decide +kernel
theorem dX6_parts_67 : decode cX6_parts 67 = .ok (.aload_n 0, 1) := by decide +kernel
theorem dX6_parts_68 : decode cX6_parts 68 = .ok (.aload_n 0, 1) := by decide +kernel
theorem dX6_parts_69 : decode cX6_parts 69 = .ok (.getfield 67, 3) := by decide +kernel
theorem dX6_parts_72 : decode cX6_parts 72 = .ok (.invokevirtual 153, 3) := by decide +kernel
theorem dX6_parts_75 : decode cX6_parts 75 = .ok (.iconst 0, 1) := by decide +kernel
theorem dX6_parts_76 : decode cX6_parts 76 = .ok (.istore 4, 2) := by decide +kernel
theorem dX6_parts_78 : decode cX6_parts 78 = .ok (.iload 4, 2) := by decide +kernel
theorem dX6_parts_80 : decode cX6_parts 80 = .ok (.iconst 1, 1) := by decide +kernel
theorem dX6_parts_81 : decode cX6_parts 81 = .ok (.aload_n 0, 1) := by decide +kernel
theorem dX6_parts_82 : decode cX6_parts 82 = .ok (.getfield 131, 3) := by decide +kernel
theorem dX6_parts_85 : decode cX6_parts 85 = .ok (.ishl, 1) := by decide +kernel
theorem dX6_parts_86 : decode cX6_parts 86 = .ok (.if_icmp .ge 70, 3) := by decide +kernel
theorem dX6_parts_89 : decode cX6_parts 89 = .ok (.iload 4, 2) := by decide +kernel
theorem dX6_parts_91 : decode cX6_parts 91 = .ok (.iload_n 2, 1) := by decide +kernel
theorem dX6_parts_92 : decode cX6_parts 92 = .ok (.ishr, 1) := by decide +kernel
theorem dX6_parts_93 : decode cX6_parts 93 = .ok (.iconst 1, 1) := by decide +kernel
theorem dX6_parts_94 : decode cX6_parts 94 = .ok (.iand, 1) := by decide +kernel
theorem dX6_parts_95 : decode cX6_parts 95 = .ok (.ifCond .ne 55, 3) := by decide +kernel
theorem dX6_parts_98 : decode cX6_parts 98 = .ok (.aload_n 0, 1) := by decide +kernel
theorem dX6_parts_99 : decode cX6_parts 99 = .ok (.getfield 76, 3) := by decide +kernel
theorem dX6_parts_102 : decode cX6_parts 102 = .ok (.iload 4, 2) := by decide +kernel
theorem dX6_parts_104 : decode cX6_parts 104 = .ok (.iaload, 1) := by decide +kernel
theorem dX6_parts_105 : decode cX6_parts 105 = .ok (.iload_n 1, 1) := by decide +kernel
theorem dX6_parts_106 : decode cX6_parts 106 = .ok (.ishr, 1) := by decide +kernel
theorem dX6_parts_107 : decode cX6_parts 107 = .ok (.iconst 1, 1) := by decide +kernel
theorem dX6_parts_108 : decode cX6_parts 108 = .ok (.iand, 1) := by decide +kernel
theorem dX6_parts_109 : decode cX6_parts 109 = .ok (.iconst 1, 1) := by decide +kernel
theorem dX6_parts_110 : decode cX6_parts 110 = .ok (.if_icmp .ne 40, 3) := by decide +kernel
theorem dX6_parts_113 : decode cX6_parts 113 = .ok (.aload_n 0, 1) := by decide +kernel
theorem dX6_parts_114 : decode cX6_parts 114 = .ok (.getfield 76, 3) := by decide +kernel
theorem dX6_parts_117 : decode cX6_parts 117 = .ok (.iload 4, 2) := by decide +kernel
theorem dX6_parts_119 : decode cX6_parts 119 = .ok (.iaload, 1) := by decide +kernel
theorem dX6_parts_120 : decode cX6_parts 120 = .ok (.aload_n 0, 1) := by decide +kernel
theorem dX6_parts_121 : decode cX6_parts 121 = .ok (.getfield 64, 3) := by decide +kernel
theorem dX6_parts_124 : decode cX6_parts 124 = .ok (.invokestatic 146, 3) := by decide +kernel
theorem dX6_parts_127 : decode cX6_parts 127 = .ok (.aload_n 0, 1) := by decide +kernel
theorem dX6_parts_128 : decode cX6_parts 128 = .ok (.getfield 73, 3) := by decide +kernel
theorem dX6_parts_131 : decode cX6_parts 131 = .ok (.iload 4, 2) := by decide +kernel
theorem dX6_parts_133 : decode cX6_parts 133 = .ok (.iaload, 1) := by decide +kernel
theorem dX6_parts_134 : decode cX6_parts 134 = .ok (.isub, 1) := by decide +kernel
theorem dX6_parts_135 : decode cX6_parts 135 = .ok (.istore 5, 2) := by decide +kernel
theorem dX6_parts_137 : decode cX6_parts 137 = .ok (.iload 5, 2) := by decide +kernel
theorem dX6_parts_139 : decode cX6_parts 139 = .ok (.iload_n 3, 1) := by decide +kernel
theorem dX6_parts_140 : decode cX6_parts 140 = .ok (.if_icmp .ge 8, 3) := by decide +kernel
theorem dX6_parts_143 : decode cX6_parts 143 = .ok (.iload 5, 2) := by decide +kernel
theorem dX6_parts_145 : decode cX6_parts 145 = .ok (.goto 4, 3) := by decide +kernel
theorem dX6_parts_148 : decode cX6_parts 148 = .ok (.iload_n 3, 1) := by decide +kernel
theorem dX6_parts_149 : decode cX6_parts 149 = .ok (.istore_n 3, 1) := by decide +kernel
theorem dX6_parts_150 : decode cX6_parts 150 = .ok (.iinc 4 1, 3) := by decide +kernel
theorem dX6_parts_153 : decode cX6_parts 153 = .ok (.goto (-75), 3) := by decide +kernel
theorem dX6_parts_156 : decode cX6_parts 156 = .ok (.aload_n 0, 1) := by decide +kernel
theorem dX6_parts_157 : decode cX6_parts 157 = .ok (.getfield 61, 3) := by decide +kernel
theorem dX6_parts_160 : decode cX6_parts 160 = .ok (.iload_n 2, 1) := by decide +kernel
theorem dX6_parts_161 : decode cX6_parts 161 = .ok (.dup2, 1) := by decide +kernel
theorem dX6_parts_162 : decode cX6_parts 162 = .ok (.iaload, 1) := by decide +kernel
theorem dX6_parts_163 : decode cX6_parts 163 = .ok (.iconst 1, 1) := by decide +kernel
theorem dX6_parts_164 : decode cX6_parts 164 = .ok (.iload_n 1, 1) := by decide +kernel
theorem dX6_parts_165 : decode cX6_parts 165 = .ok (.ishl, 1) := by decide +kernel
theorem dX6_parts_166 : decode cX6_parts 166 = .ok (.isub, 1) := by decide +kernel
theorem dX6_parts_167 : decode cX6_parts 167 = .ok (.iastore, 1) := by decide +kernel
theorem dX6_parts_168 : decode cX6_parts 168 = .ok (.aload_n 0, 1) := by decide +kernel
theorem dX6_parts_169 : decode cX6_parts 169 = .ok (.getfield 67, 3) := by decide +kernel
theorem dX6_parts_172 : decode cX6_parts 172 = .ok (.iload_n 2, 1) := by decide +kernel
theorem dX6_parts_173 : decode cX6_parts 173 = .ok (.dup2, 1) := by decide +kernel
theorem dX6_parts_174 : decode cX6_parts 174 = .ok (.iaload, 1) := by decide +kernel
theorem dX6_parts_175 : decode cX6_parts 175 = .ok (.iload_n 3, 1) := by decide +kernel
theorem dX6_parts_176 : decode cX6_parts 176 = .ok (.isub, 1) := by decide +kernel
theorem dX6_parts_177 : decode cX6_parts 177 = .ok (.iastore, 1) := by decide +kernel
theorem dX6_parts_178 : decode cX6_parts 178 = .ok (.aload_n 0, 1) := by decide +kernel
theorem dX6_parts_179 : decode cX6_parts 179 = .ok (.getfield 64, 3) := by decide +kernel
theorem dX6_parts_182 : decode cX6_parts 182 = .ok (.iload_n 1, 1) := by decide +kernel
theorem dX6_parts_183 : decode cX6_parts 183 = .ok (.dup2, 1) := by decide +kernel
theorem dX6_parts_184 : decode cX6_parts 184 = .ok (.iaload, 1) := by decide +kernel
theorem dX6_parts_185 : decode cX6_parts 185 = .ok (.iload_n 3, 1) := by decide +kernel
theorem dX6_parts_186 : decode cX6_parts 186 = .ok (.isub, 1) := by decide +kernel
theorem dX6_parts_187 : decode cX6_parts 187 = .ok (.iastore, 1) := by decide +kernel
theorem dX6_parts_188 : decode cX6_parts 188 = .ok (.aload_n 0, 1) := by decide +kernel
theorem dX6_parts_189 : decode cX6_parts 189 = .ok (.getfield 70, 3) := by decide +kernel
theorem dX6_parts_192 : decode cX6_parts 192 = .ok (.bipush 12, 2) := by decide +kernel
theorem dX6_parts_194 : decode cX6_parts 194 = .ok (.iload_n 1, 1) := by decide +kernel
theorem dX6_parts_195 : decode cX6_parts 195 = .ok (.imul, 1) := by decide +kernel
theorem dX6_parts_196 : decode cX6_parts 196 = .ok (.iload_n 2, 1) := by decide +kernel
theorem dX6_parts_197 : decode cX6_parts 197 = .ok (.iadd, 1) := by decide +kernel
theorem dX6_parts_198 : decode cX6_parts 198 = .ok (.iload_n 3, 1) := by decide +kernel
theorem dX6_parts_199 : decode cX6_parts 199 = .ok (.iastore, 1) := by decide +kernel
theorem dX6_parts_200 : decode cX6_parts 200 = .ok (.iinc 2 1, 3) := by decide +kernel
theorem dX6_parts_203 : decode cX6_parts 203 = .ok (.goto (-191), 3) := by decide +kernel
theorem dX6_parts_206 : decode cX6_parts 206 = .ok (.iinc 1 1, 3) := by decide +kernel
theorem dX6_parts_209 : decode cX6_parts 209 = .ok (.goto (-207), 3) := by decide +kernel
theorem dX6_parts_212 : decode cX6_parts 212 = .ok (.return_, 1) := by decide +kernel
theorem dX6_charge_0 : decode cX6_charge 0 = .ok (.aload_n 0, 1) := by decide +kernel
theorem dX6_charge_1 : decode cX6_charge 1 = .ok (.iconst 0, 1) := by decide +kernel
theorem dX6_charge_2 : decode cX6_charge 2 = .ok (.putfield 82, 3) := by decide +kernel
theorem dX6_charge_5 : decode cX6_charge 5 = .ok (.aload_n 0, 1) := by decide +kernel
theorem dX6_charge_6 : decode cX6_charge 6 = .ok (.invokevirtual 161, 3) := by decide +kernel
theorem dX6_charge_9 : decode cX6_charge 9 = .ok (.aload_n 0, 1) := by decide +kernel
theorem dX6_charge_10 : decode cX6_charge 10 = .ok (.invokevirtual 164, 3) := by decide +kernel
theorem dX6_charge_13 : decode cX6_charge 13 = .ok (.iconst 0, 1) := by decide +kernel
theorem dX6_charge_14 : decode cX6_charge 14 = .ok (.istore_n 1, 1) := by decide +kernel
theorem dX6_charge_15 : decode cX6_charge 15 = .ok (.iconst 0, 1) := by decide +kernel
theorem dX6_charge_16 : decode cX6_charge 16 = .ok (.istore_n 2, 1) := by decide +kernel
theorem dX6_charge_17 : decode cX6_charge 17 = .ok (.iload_n 2, 1) := by decide +kernel
theorem dX6_charge_18 : decode cX6_charge 18 = .ok (.aload_n 0, 1) := by decide +kernel
theorem dX6_charge_19 : decode cX6_charge 19 = .ok (.getfield 96, 3) := by decide +kernel
theorem dX6_charge_22 : decode cX6_charge 22 = .ok (.if_icmp .ge 131, 3) := by decide +kernel
theorem dX6_charge_25 : decode cX6_charge 25 = .ok (.iconst 0, 1) := by decide +kernel
theorem dX6_charge_26 : decode cX6_charge 26 = .ok (.istore_n 3, 1) := by decide +kernel
theorem dX6_charge_27 : decode cX6_charge 27 = .ok (.iload_n 3, 1) := by decide +kernel
theorem dX6_charge_28 : decode cX6_charge 28 = .ok (.aload_n 0, 1) := by decide +kernel
theorem dX6_charge_29 : decode cX6_charge 29 = .ok (.getfield 131, 3) := by decide +kernel
theorem dX6_charge_32 : decode cX6_charge 32 = .ok (.if_icmp .ge 115, 3) := by decide +kernel
theorem dX6_charge_35 : decode cX6_charge 35 = .ok (.aload_n 0, 1) := by decide +kernel
theorem dX6_charge_36 : decode cX6_charge 36 = .ok (.getfield 70, 3) := by decide +kernel
theorem dX6_charge_39 : decode cX6_charge 39 = .ok (.bipush 12, 2) := by decide +kernel
theorem dX6_charge_41 : decode cX6_charge 41 = .ok (.iload_n 2, 1) := by decide +kernel
theorem dX6_charge_42 : decode cX6_charge 42 = .ok (.imul, 1) := by decide +kernel
theorem dX6_charge_43 : decode cX6_charge 43 = .ok (.iload_n 3, 1) := by decide +kernel
theorem dX6_charge_44 : decode cX6_charge 44 = .ok (.iadd, 1) := by decide +kernel
theorem dX6_charge_45 : decode cX6_charge 45 = .ok (.iaload, 1) := by decide +kernel
theorem dX6_charge_46 : decode cX6_charge 46 = .ok (.istore 4, 2) := by decide +kernel
theorem dX6_charge_48 : decode cX6_charge 48 = .ok (.aload_n 0, 1) := by decide +kernel
theorem dX6_charge_49 : decode cX6_charge 49 = .ok (.getfield 52, 3) := by decide +kernel
theorem dX6_charge_52 : decode cX6_charge 52 = .ok (.iload_n 3, 1) := by decide +kernel
theorem dX6_charge_53 : decode cX6_charge 53 = .ok (.iaload, 1) := by decide +kernel
theorem dX6_charge_54 : decode cX6_charge 54 = .ok (.istore 5, 2) := by decide +kernel
theorem dX6_charge_56 : decode cX6_charge 56 = .ok (.iload_n 1, 1) := by decide +kernel
theorem dX6_charge_57 : decode cX6_charge 57 = .ok (.iload 4, 2) := by decide +kernel
theorem dX6_charge_59 : decode cX6_charge 59 = .ok (.iadd, 1) := by decide +kernel
theorem dX6_charge_60 : decode cX6_charge 60 = .ok (.istore_n 1, 1) := by decide +kernel
theorem dX6_charge_61 : decode cX6_charge 61 = .ok (.aload_n 0, 1) := by decide +kernel
theorem dX6_charge_62 : decode cX6_charge 62 = .ok (.getfield 46, 3) := by decide +kernel
theorem dX6_charge_65 : decode cX6_charge 65 = .ok (.iload_n 2, 1) := by decide +kernel
theorem dX6_charge_66 : decode cX6_charge 66 = .ok (.dup2, 1) := by decide +kernel
theorem dX6_charge_67 : decode cX6_charge 67 = .ok (.iaload, 1) := by decide +kernel
theorem dX6_charge_68 : decode cX6_charge 68 = .ok (.iload 4, 2) := by decide +kernel
theorem dX6_charge_70 : decode cX6_charge 70 = .ok (.isub, 1) := by decide +kernel
theorem dX6_charge_71 : decode cX6_charge 71 = .ok (.iastore, 1) := by decide +kernel
theorem dX6_charge_72 : decode cX6_charge 72 = .ok (.aload_n 0, 1) := by decide +kernel
theorem dX6_charge_73 : decode cX6_charge 73 = .ok (.getfield 49, 3) := by decide +kernel
theorem dX6_charge_76 : decode cX6_charge 76 = .ok (.bipush 6, 2) := by decide +kernel
theorem dX6_charge_78 : decode cX6_charge 78 = .ok (.iload_n 2, 1) := by decide +kernel
theorem dX6_charge_79 : decode cX6_charge 79 = .ok (.imul, 1) := by decide +kernel
theorem dX6_charge_80 : decode cX6_charge 80 = .ok (.iload 5, 2) := by decide +kernel
theorem dX6_charge_82 : decode cX6_charge 82 = .ok (.iadd, 1) := by decide +kernel
theorem dX6_charge_83 : decode cX6_charge 83 = .ok (.dup2, 1) := by decide +kernel
theorem dX6_charge_84 : decode cX6_charge 84 = .ok (.iaload, 1) := by decide +kernel
theorem dX6_charge_85 : decode cX6_charge 85 = .ok (.iload 4, 2) := by decide +kernel
theorem dX6_charge_87 : decode cX6_charge 87 = .ok (.iadd, 1) := by decide +kernel
theorem dX6_charge_88 : decode cX6_charge 88 = .ok (.iastore, 1) := by decide +kernel
theorem dX6_charge_89 : decode cX6_charge 89 = .ok (.aload_n 0, 1) := by decide +kernel
theorem dX6_charge_90 : decode cX6_charge 90 = .ok (.getfield 22, 3) := by decide +kernel
theorem dX6_charge_93 : decode cX6_charge 93 = .ok (.iload 5, 2) := by decide +kernel
theorem dX6_charge_95 : decode cX6_charge 95 = .ok (.dup2, 1) := by decide +kernel
theorem dX6_charge_96 : decode cX6_charge 96 = .ok (.iaload, 1) := by decide +kernel
theorem dX6_charge_97 : decode cX6_charge 97 = .ok (.iload 4, 2) := by decide +kernel
theorem dX6_charge_99 : decode cX6_charge 99 = .ok (.iadd, 1) := by decide +kernel
theorem dX6_charge_100 : decode cX6_charge 100 = .ok (.iastore, 1) := by decide +kernel
theorem dX6_charge_101 : decode cX6_charge 101 = .ok (.aload_n 0, 1) := by decide +kernel
theorem dX6_charge_102 : decode cX6_charge 102 = .ok (.getfield 55, 3) := by decide +kernel
theorem dX6_charge_105 : decode cX6_charge 105 = .ok (.iload_n 3, 1) := by decide +kernel
theorem dX6_charge_106 : decode cX6_charge 106 = .ok (.iaload, 1) := by decide +kernel
theorem dX6_charge_107 : decode cX6_charge 107 = .ok (.ifCond .lt 22, 3) := by decide +kernel
theorem dX6_charge_110 : decode cX6_charge 110 = .ok (.aload_n 0, 1) := by decide +kernel
theorem dX6_charge_111 : decode cX6_charge 111 = .ok (.getfield 34, 3) := by decide +kernel
theorem dX6_charge_114 : decode cX6_charge 114 = .ok (.aload_n 0, 1) := by decide +kernel
theorem dX6_charge_115 : decode cX6_charge 115 = .ok (.getfield 55, 3) := by decide +kernel
theorem dX6_charge_118 : decode cX6_charge 118 = .ok (.iload_n 3, 1) := by decide +kernel
theorem dX6_charge_119 : decode cX6_charge 119 = .ok (.iaload, 1) := by decide +kernel
theorem dX6_charge_120 : decode cX6_charge 120 = .ok (.dup2, 1) := by decide +kernel
theorem dX6_charge_121 : decode cX6_charge 121 = .ok (.iaload, 1) := by decide +kernel
theorem dX6_charge_122 : decode cX6_charge 122 = .ok (.iload 4, 2) := by decide +kernel
theorem dX6_charge_124 : decode cX6_charge 124 = .ok (.isub, 1) := by decide +kernel
theorem dX6_charge_125 : decode cX6_charge 125 = .ok (.iastore, 1) := by decide +kernel
theorem dX6_charge_126 : decode cX6_charge 126 = .ok (.goto 15, 3) := by decide +kernel
theorem dX6_charge_129 : decode cX6_charge 129 = .ok (.aload_n 0, 1) := by decide +kernel
theorem dX6_charge_130 : decode cX6_charge 130 = .ok (.getfield 7, 3) := by decide +kernel
theorem dX6_charge_133 : decode cX6_charge 133 = .ok (.iload 5, 2) := by decide +kernel
theorem dX6_charge_135 : decode cX6_charge 135 = .ok (.dup2, 1) := by decide +kernel
theorem dX6_charge_136 : decode cX6_charge 136 = .ok (.iaload, 1) := by decide +kernel
theorem dX6_charge_137 : decode cX6_charge 137 = .ok (.iload 4, 2) := by decide +kernel
theorem dX6_charge_139 : decode cX6_charge 139 = .ok (.isub, 1) := by decide +kernel
theorem dX6_charge_140 : decode cX6_charge 140 = .ok (.iastore, 1) := by decide +kernel
theorem dX6_charge_141 : decode cX6_charge 141 = .ok (.iinc 3 1, 3) := by decide +kernel
theorem dX6_charge_144 : decode cX6_charge 144 = .ok (.goto (-117), 3) := by decide +kernel
theorem dX6_charge_147 : decode cX6_charge 147 = .ok (.iinc 2 1, 3) := by decide +kernel
theorem dX6_charge_150 : decode cX6_charge 150 = .ok (.goto (-133), 3) := by decide +kernel
theorem dX6_charge_153 : decode cX6_charge 153 = .ok (.aload_n 0, 1) := by decide +kernel
theorem dX6_charge_154 : decode cX6_charge 154 = .ok (.getfield 93, 3) := by decide +kernel
theorem dX6_charge_157 : decode cX6_charge 157 = .ok (.iconst 1, 1) := by decide +kernel
theorem dX6_charge_158 : decode cX6_charge 158 = .ok (.isub, 1) := by decide +kernel
theorem dX6_charge_159 : decode cX6_charge 159 = .ok (.istore_n 2, 1) := by decide +kernel
theorem dX6_charge_160 : decode cX6_charge 160 = .ok (.iload_n 2, 1) := by decide +kernel
theorem dX6_charge_161 : decode cX6_charge 161 = .ok (.ifCond .lt 23, 3) := by decide +kernel
theorem dX6_charge_164 : decode cX6_charge 164 = .ok (.aload_n 0, 1) := by decide +kernel
theorem dX6_charge_165 : decode cX6_charge 165 = .ok (.getfield 34, 3) := by decide +kernel
theorem dX6_charge_168 : decode cX6_charge 168 = .ok (.iload_n 2, 1) := by decide +kernel
theorem dX6_charge_169 : decode cX6_charge 169 = .ok (.iaload, 1) := by decide +kernel
theorem dX6_charge_170 : decode cX6_charge 170 = .ok (.ifCond .ne 8, 3) := by decide +kernel
theorem dX6_charge_173 : decode cX6_charge 173 = .ok (.aload_n 0, 1) := by decide +kernel
theorem dX6_charge_174 : decode cX6_charge 174 = .ok (.iload_n 2, 1) := by decide +kernel
theorem dX6_charge_175 : decode cX6_charge 175 = .ok (.invokevirtual 127, 3) := by decide +kernel
theorem dX6_charge_178 : decode cX6_charge 178 = .ok (.iinc 2 (-1), 3) := by decide +kernel
theorem dX6_charge_181 : decode cX6_charge 181 = .ok (.goto (-21), 3) := by decide +kernel
theorem dX6_charge_184 : decode cX6_charge 184 = .ok (.iload_n 1, 1) := by decide +kernel
theorem dX6_charge_185 : decode cX6_charge 185 = .ok (.ireturn, 1) := by decide +kernel
theorem dX6_room_0 : decode cX6_room 0 = .ok (.aload_n 0, 1) := by decide +kernel
theorem dX6_room_1 : decode cX6_room 1 = .ok (.getfield 22, 3) := by decide +kernel
theorem dX6_room_4 : decode cX6_room 4 = .ok (.iload_n 1, 1) := by decide +kernel
theorem dX6_room_5 : decode cX6_room 5 = .ok (.iaload, 1) := by decide +kernel
theorem dX6_room_6 : decode cX6_room 6 = .ok (.aload_n 0, 1) := by decide +kernel
theorem dX6_room_7 : decode cX6_room 7 = .ok (.getfield 19, 3) := by decide +kernel
theorem dX6_room_10 : decode cX6_room 10 = .ok (.iload_n 1, 1) := by decide +kernel
theorem dX6_room_11 : decode cX6_room 11 = .ok (.iaload, 1) := by decide +kernel
theorem dX6_room_12 : decode cX6_room 12 = .ok (.imul, 1) := by decide +kernel
theorem dX6_room_13 : decode cX6_room 13 = .ok (.bipush 100, 2) := by decide +kernel
theorem dX6_room_15 : decode cX6_room 15 = .ok (.idiv, 1) := by decide +kernel
theorem dX6_room_16 : decode cX6_room 16 = .ok (.aload_n 0, 1) := by decide +kernel
theorem dX6_room_17 : decode cX6_room 17 = .ok (.getfield 25, 3) := by decide +kernel
theorem dX6_room_20 : decode cX6_room 20 = .ok (.iload_n 1, 1) := by decide +kernel
theorem dX6_room_21 : decode cX6_room 21 = .ok (.iaload, 1) := by decide +kernel
theorem dX6_room_22 : decode cX6_room 22 = .ok (.isub, 1) := by decide +kernel
theorem dX6_room_23 : decode cX6_room 23 = .ok (.istore_n 2, 1) := by decide +kernel
theorem dX6_room_24 : decode cX6_room 24 = .ok (.iload_n 2, 1) := by decide +kernel
theorem dX6_room_25 : decode cX6_room 25 = .ok (.ifCond .ge 7, 3) := by decide +kernel
theorem dX6_room_28 : decode cX6_room 28 = .ok (.iconst 0, 1) := by decide +kernel
theorem dX6_room_29 : decode cX6_room 29 = .ok (.goto 4, 3) := by decide +kernel
theorem dX6_room_32 : decode cX6_room 32 = .ok (.iload_n 2, 1) := by decide +kernel
theorem dX6_room_33 : decode cX6_room 33 = .ok (.istore_n 2, 1) := by decide +kernel
theorem dX6_room_34 : decode cX6_room 34 = .ok (.iload_n 2, 1) := by decide +kernel
theorem dX6_room_35 : decode cX6_room 35 = .ok (.aload_n 0, 1) := by decide +kernel
theorem dX6_room_36 : decode cX6_room 36 = .ok (.getfield 7, 3) := by decide +kernel
theorem dX6_room_39 : decode cX6_room 39 = .ok (.iload_n 1, 1) := by decide +kernel
theorem dX6_room_40 : decode cX6_room 40 = .ok (.iaload, 1) := by decide +kernel
theorem dX6_room_41 : decode cX6_room 41 = .ok (.if_icmp .ge 7, 3) := by decide +kernel
theorem dX6_room_44 : decode cX6_room 44 = .ok (.iload_n 2, 1) := by decide +kernel
theorem dX6_room_45 : decode cX6_room 45 = .ok (.goto 9, 3) := by decide +kernel
theorem dX6_room_48 : decode cX6_room 48 = .ok (.aload_n 0, 1) := by decide +kernel
theorem dX6_room_49 : decode cX6_room 49 = .ok (.getfield 7, 3) := by decide +kernel
theorem dX6_room_52 : decode cX6_room 52 = .ok (.iload_n 1, 1) := by decide +kernel
theorem dX6_room_53 : decode cX6_room 53 = .ok (.iaload, 1) := by decide +kernel
theorem dX6_room_54 : decode cX6_room 54 = .ok (.ireturn, 1) := by decide +kernel
theorem dX6_gets_0 : decode cX6_gets 0 = .ok (.aload_n 0, 1) := by decide +kernel
theorem dX6_gets_1 : decode cX6_gets 1 = .ok (.getfield 7, 3) := by decide +kernel
theorem dX6_gets_4 : decode cX6_gets 4 = .ok (.iload_n 1, 1) := by decide +kernel
theorem dX6_gets_5 : decode cX6_gets 5 = .ok (.dup2, 1) := by decide +kernel
theorem dX6_gets_6 : decode cX6_gets 6 = .ok (.iaload, 1) := by decide +kernel
theorem dX6_gets_7 : decode cX6_gets 7 = .ok (.iload_n 2, 1) := by decide +kernel
theorem dX6_gets_8 : decode cX6_gets 8 = .ok (.isub, 1) := by decide +kernel
theorem dX6_gets_9 : decode cX6_gets 9 = .ok (.iastore, 1) := by decide +kernel
theorem dX6_gets_10 : decode cX6_gets 10 = .ok (.aload_n 0, 1) := by decide +kernel
theorem dX6_gets_11 : decode cX6_gets 11 = .ok (.getfield 25, 3) := by decide +kernel
theorem dX6_gets_14 : decode cX6_gets 14 = .ok (.iload_n 1, 1) := by decide +kernel
theorem dX6_gets_15 : decode cX6_gets 15 = .ok (.dup2, 1) := by decide +kernel
theorem dX6_gets_16 : decode cX6_gets 16 = .ok (.iaload, 1) := by decide +kernel
theorem dX6_gets_17 : decode cX6_gets 17 = .ok (.iload_n 2, 1) := by decide +kernel
theorem dX6_gets_18 : decode cX6_gets 18 = .ok (.iadd, 1) := by decide +kernel
theorem dX6_gets_19 : decode cX6_gets 19 = .ok (.iastore, 1) := by decide +kernel
theorem dX6_gets_20 : decode cX6_gets 20 = .ok (.return_, 1) := by decide +kernel
theorem dX6_round_0 : decode cX6_round 0 = .ok (.lconst 0, 1) := by decide +kernel
theorem dX6_round_1 : decode cX6_round 1 = .ok (.lstore_n 2, 1) := by decide +kernel
theorem dX6_round_2 : decode cX6_round 2 = .ok (.iconst 0, 1) := by decide +kernel
theorem dX6_round_3 : decode cX6_round 3 = .ok (.istore 4, 2) := by decide +kernel
theorem dX6_round_5 : decode cX6_round 5 = .ok (.iload 4, 2) := by decide +kernel
theorem dX6_round_7 : decode cX6_round 7 = .ok (.aload_n 0, 1) := by decide +kernel
theorem dX6_round_8 : decode cX6_round 8 = .ok (.getfield 86, 3) := by decide +kernel
theorem dX6_round_11 : decode cX6_round 11 = .ok (.if_icmp .ge 47, 3) := by decide +kernel
theorem dX6_round_14 : decode cX6_round 14 = .ok (.aload_n 0, 1) := by decide +kernel
theorem dX6_round_15 : decode cX6_round 15 = .ok (.getfield 79, 3) := by decide +kernel
theorem dX6_round_18 : decode cX6_round 18 = .ok (.iload 4, 2) := by decide +kernel
theorem dX6_round_20 : decode cX6_round 20 = .ok (.aload_n 0, 1) := by decide +kernel
theorem dX6_round_21 : decode cX6_round 21 = .ok (.iload 4, 2) := by decide +kernel
theorem dX6_round_23 : decode cX6_round 23 = .ok (.invokevirtual 167, 3) := by decide +kernel
theorem dX6_round_26 : decode cX6_round 26 = .ok (.iastore, 1) := by decide +kernel
theorem dX6_round_27 : decode cX6_round 27 = .ok (.lload_n 2, 1) := by decide +kernel
theorem dX6_round_28 : decode cX6_round 28 = .ok (.aload_n 0, 1) := by decide +kernel
theorem dX6_round_29 : decode cX6_round 29 = .ok (.getfield 79, 3) := by decide +kernel
theorem dX6_round_32 : decode cX6_round 32 = .ok (.iload 4, 2) := by decide +kernel
theorem dX6_round_34 : decode cX6_round 34 = .ok (.iaload, 1) := by decide +kernel
theorem dX6_round_35 : decode cX6_round 35 = .ok (.ifCond .le 14, 3) := by decide +kernel
theorem dX6_round_38 : decode cX6_round 38 = .ok (.aload_n 0, 1) := by decide +kernel
theorem dX6_round_39 : decode cX6_round 39 = .ok (.getfield 22, 3) := by decide +kernel
theorem dX6_round_42 : decode cX6_round 42 = .ok (.iload 4, 2) := by decide +kernel
theorem dX6_round_44 : decode cX6_round 44 = .ok (.iaload, 1) := by decide +kernel
theorem dX6_round_45 : decode cX6_round 45 = .ok (.i2l, 1) := by decide +kernel
theorem dX6_round_46 : decode cX6_round 46 = .ok (.goto 4, 3) := by decide +kernel
theorem dX6_round_49 : decode cX6_round 49 = .ok (.lconst 0, 1) := by decide +kernel
theorem dX6_round_50 : decode cX6_round 50 = .ok (.ladd, 1) := by decide +kernel
theorem dX6_round_51 : decode cX6_round 51 = .ok (.lstore_n 2, 1) := by decide +kernel
theorem dX6_round_52 : decode cX6_round 52 = .ok (.iinc 4 1, 3) := by decide +kernel
theorem dX6_round_55 : decode cX6_round 55 = .ok (.goto (-50), 3) := by decide +kernel
theorem dX6_round_58 : decode cX6_round 58 = .ok (.iconst 0, 1) := by decide +kernel
theorem dX6_round_59 : decode cX6_round 59 = .ok (.istore 4, 2) := by decide +kernel
theorem dX6_round_61 : decode cX6_round 61 = .ok (.iconst 0, 1) := by decide +kernel
theorem dX6_round_62 : decode cX6_round 62 = .ok (.istore 5, 2) := by decide +kernel
theorem dX6_round_64 : decode cX6_round 64 = .ok (.iload 5, 2) := by decide +kernel
theorem dX6_round_66 : decode cX6_round 66 = .ok (.aload_n 0, 1) := by decide +kernel
theorem dX6_round_67 : decode cX6_round 67 = .ok (.getfield 86, 3) := by decide +kernel
theorem dX6_round_70 : decode cX6_round 70 = .ok (.if_icmp .ge 78, 3) := by decide +kernel
theorem dX6_round_73 : decode cX6_round 73 = .ok (.aload_n 0, 1) := by decide +kernel
theorem dX6_round_74 : decode cX6_round 74 = .ok (.getfield 79, 3) := by decide +kernel
theorem dX6_round_77 : decode cX6_round 77 = .ok (.iload 5, 2) := by decide +kernel
theorem dX6_round_79 : decode cX6_round 79 = .ok (.iaload, 1) := by decide +kernel
theorem dX6_round_80 : decode cX6_round 80 = .ok (.ifCond .le 62, 3) := by decide +kernel
theorem dX6_round_83 : decode cX6_round 83 = .ok (.iload_n 1, 1) := by decide +kernel
theorem dX6_round_84 : decode cX6_round 84 = .ok (.i2l, 1) := by decide +kernel
theorem dX6_round_85 : decode cX6_round 85 = .ok (.aload_n 0, 1) := by decide +kernel
theorem dX6_round_86 : decode cX6_round 86 = .ok (.getfield 22, 3) := by decide +kernel
theorem dX6_round_89 : decode cX6_round 89 = .ok (.iload 5, 2) := by decide +kernel
theorem dX6_round_91 : decode cX6_round 91 = .ok (.iaload, 1) := by decide +kernel
theorem dX6_round_92 : decode cX6_round 92 = .ok (.i2l, 1) := by decide +kernel
theorem dX6_round_93 : decode cX6_round 93 = .ok (.lmul, 1) := by decide +kernel
theorem dX6_round_94 : decode cX6_round 94 = .ok (.lload_n 2, 1) := by decide +kernel
theorem dX6_round_95 : decode cX6_round 95 = .ok (.ldiv, 1) := by decide +kernel
theorem dX6_round_96 : decode cX6_round 96 = .ok (.lstore 6, 2) := by decide +kernel
theorem dX6_round_98 : decode cX6_round 98 = .ok (.lload 6, 2) := by decide +kernel
theorem dX6_round_100 : decode cX6_round 100 = .ok (.aload_n 0, 1) := by decide +kernel
theorem dX6_round_101 : decode cX6_round 101 = .ok (.getfield 79, 3) := by decide +kernel
theorem dX6_round_104 : decode cX6_round 104 = .ok (.iload 5, 2) := by decide +kernel
theorem dX6_round_106 : decode cX6_round 106 = .ok (.iaload, 1) := by decide +kernel
theorem dX6_round_107 : decode cX6_round 107 = .ok (.i2l, 1) := by decide +kernel
theorem dX6_round_108 : decode cX6_round 108 = .ok (.lcmp, 1) := by decide +kernel
theorem dX6_round_109 : decode cX6_round 109 = .ok (.ifCond .ge 9, 3) := by decide +kernel
theorem dX6_round_112 : decode cX6_round 112 = .ok (.lload 6, 2) := by decide +kernel
theorem dX6_round_114 : decode cX6_round 114 = .ok (.l2i, 1) := by decide +kernel
theorem dX6_round_115 : decode cX6_round 115 = .ok (.goto 10, 3) := by decide +kernel
theorem dX6_round_118 : decode cX6_round 118 = .ok (.aload_n 0, 1) := by decide +kernel
theorem dX6_round_119 : decode cX6_round 119 = .ok (.getfield 79, 3) := by decide +kernel
theorem dX6_round_122 : decode cX6_round 122 = .ok (.iload 5, 2) := by decide +kernel
theorem dX6_round_124 : decode cX6_round 124 = .ok (.iaload, 1) := by decide +kernel
theorem dX6_round_125 : decode cX6_round 125 = .ok (.istore 8, 2) := by decide +kernel
theorem dX6_round_127 : decode cX6_round 127 = .ok (.aload_n 0, 1) := by decide +kernel
theorem dX6_round_128 : decode cX6_round 128 = .ok (.iload 5, 2) := by decide +kernel
theorem dX6_round_130 : decode cX6_round 130 = .ok (.iload 8, 2) := by decide +kernel
theorem dX6_round_132 : decode cX6_round 132 = .ok (.invokevirtual 170, 3) := by decide +kernel
theorem dX6_round_135 : decode cX6_round 135 = .ok (.iload 4, 2) := by decide +kernel
theorem dX6_round_137 : decode cX6_round 137 = .ok (.iload 8, 2) := by decide +kernel
theorem dX6_round_139 : decode cX6_round 139 = .ok (.iadd, 1) := by decide +kernel
theorem dX6_round_140 : decode cX6_round 140 = .ok (.istore 4, 2) := by decide +kernel
theorem dX6_round_142 : decode cX6_round 142 = .ok (.iinc 5 1, 3) := by decide +kernel
theorem dX6_round_145 : decode cX6_round 145 = .ok (.goto (-81), 3) := by decide +kernel
theorem dX6_round_148 : decode cX6_round 148 = .ok (.iload 4, 2) := by decide +kernel
theorem dX6_round_150 : decode cX6_round 150 = .ok (.ireturn, 1) := by decide +kernel
theorem dX6_ones_0 : decode cX6_ones 0 = .ok (.iconst 0, 1) := by decide +kernel
theorem dX6_ones_1 : decode cX6_ones 1 = .ok (.istore_n 2, 1) := by decide +kernel
theorem dX6_ones_2 : decode cX6_ones 2 = .ok (.iconst 0, 1) := by decide +kernel
theorem dX6_ones_3 : decode cX6_ones 3 = .ok (.istore_n 3, 1) := by decide +kernel
theorem dX6_ones_4 : decode cX6_ones 4 = .ok (.iload_n 3, 1) := by decide +kernel
theorem dX6_ones_5 : decode cX6_ones 5 = .ok (.aload_n 0, 1) := by decide +kernel
theorem dX6_ones_6 : decode cX6_ones 6 = .ok (.getfield 86, 3) := by decide +kernel
theorem dX6_ones_9 : decode cX6_ones 9 = .ok (.if_icmp .ge 31, 3) := by decide +kernel
theorem dX6_ones_12 : decode cX6_ones 12 = .ok (.iload_n 2, 1) := by decide +kernel
theorem dX6_ones_13 : decode cX6_ones 13 = .ok (.iload_n 1, 1) := by decide +kernel
theorem dX6_ones_14 : decode cX6_ones 14 = .ok (.if_icmp .ge 20, 3) := by decide +kernel
theorem dX6_ones_17 : decode cX6_ones 17 = .ok (.aload_n 0, 1) := by decide +kernel
theorem dX6_ones_18 : decode cX6_ones 18 = .ok (.iload_n 3, 1) := by decide +kernel
theorem dX6_ones_19 : decode cX6_ones 19 = .ok (.invokevirtual 167, 3) := by decide +kernel
theorem dX6_ones_22 : decode cX6_ones 22 = .ok (.ifCond .le 12, 3) := by decide +kernel
theorem dX6_ones_25 : decode cX6_ones 25 = .ok (.aload_n 0, 1) := by decide +kernel
theorem dX6_ones_26 : decode cX6_ones 26 = .ok (.iload_n 3, 1) := by decide +kernel
theorem dX6_ones_27 : decode cX6_ones 27 = .ok (.iconst 1, 1) := by decide +kernel
theorem dX6_ones_28 : decode cX6_ones 28 = .ok (.invokevirtual 170, 3) := by decide +kernel
theorem dX6_ones_31 : decode cX6_ones 31 = .ok (.iinc 2 1, 3) := by decide +kernel
theorem dX6_ones_34 : decode cX6_ones 34 = .ok (.iinc 3 1, 3) := by decide +kernel
theorem dX6_ones_37 : decode cX6_ones 37 = .ok (.goto (-33), 3) := by decide +kernel
theorem dX6_ones_40 : decode cX6_ones 40 = .ok (.iload_n 2, 1) := by decide +kernel
theorem dX6_ones_41 : decode cX6_ones 41 = .ok (.ireturn, 1) := by decide +kernel
theorem dX6_chargeOverhead_0 : decode cX6_chargeOverhead 0 = .ok (.aload_n 0, 1) := by decide +kernel
theorem dX6_chargeOverhead_1 : decode cX6_chargeOverhead 1 = .ok (.iconst 0, 1) := by decide +kernel
theorem dX6_chargeOverhead_2 : decode cX6_chargeOverhead 2 = .ok (.putfield 82, 3) := by decide +kernel
theorem dX6_chargeOverhead_5 : decode cX6_chargeOverhead 5 = .ok (.iload_n 1, 1) := by decide +kernel
theorem dX6_chargeOverhead_6 : decode cX6_chargeOverhead 6 = .ok (.i2l, 1) := by decide +kernel
theorem dX6_chargeOverhead_7 : decode cX6_chargeOverhead 7 = .ok (.lconst 1, 1) := by decide +kernel
theorem dX6_chargeOverhead_8 : decode cX6_chargeOverhead 8 = .ok (.ldc2_w 103, 3) := by decide +kernel
theorem dX6_chargeOverhead_11 : decode cX6_chargeOverhead 11 = .ok (.invokestatic 89, 3) := by decide +kernel
theorem dX6_chargeOverhead_14 : decode cX6_chargeOverhead 14 = .ok (.ifCond .ne 9, 3) := by decide +kernel
theorem dX6_chargeOverhead_17 : decode cX6_chargeOverhead 17 = .ok (.aload_n 0, 1) := by decide +kernel
theorem dX6_chargeOverhead_18 : decode cX6_chargeOverhead 18 = .ok (.iconst 1, 1) := by decide +kernel
theorem dX6_chargeOverhead_19 : decode cX6_chargeOverhead 19 = .ok (.invokevirtual 111, 3) := by decide +kernel
theorem dX6_chargeOverhead_22 : decode cX6_chargeOverhead 22 = .ok (.ireturn, 1) := by decide +kernel
theorem dX6_chargeOverhead_23 : decode cX6_chargeOverhead 23 = .ok (.iload_n 1, 1) := by decide +kernel
theorem dX6_chargeOverhead_24 : decode cX6_chargeOverhead 24 = .ok (.istore_n 2, 1) := by decide +kernel
theorem dX6_chargeOverhead_25 : decode cX6_chargeOverhead 25 = .ok (.iconst 1, 1) := by decide +kernel
theorem dX6_chargeOverhead_26 : decode cX6_chargeOverhead 26 = .ok (.istore_n 3, 1) := by decide +kernel
theorem dX6_chargeOverhead_27 : decode cX6_chargeOverhead 27 = .ok (.iload_n 2, 1) := by decide +kernel
theorem dX6_chargeOverhead_28 : decode cX6_chargeOverhead 28 = .ok (.ifCond .le 34, 3) := by decide +kernel
theorem dX6_chargeOverhead_31 : decode cX6_chargeOverhead 31 = .ok (.iload_n 3, 1) := by decide +kernel
theorem dX6_chargeOverhead_32 : decode cX6_chargeOverhead 32 = .ok (.ifCond .le 30, 3) := by decide +kernel
theorem dX6_chargeOverhead_35 : decode cX6_chargeOverhead 35 = .ok (.aload_n 0, 1) := by decide +kernel
theorem dX6_chargeOverhead_36 : decode cX6_chargeOverhead 36 = .ok (.iload_n 2, 1) := by decide +kernel
theorem dX6_chargeOverhead_37 : decode cX6_chargeOverhead 37 = .ok (.invokevirtual 173, 3) := by decide +kernel
theorem dX6_chargeOverhead_40 : decode cX6_chargeOverhead 40 = .ok (.istore_n 3, 1) := by decide +kernel
theorem dX6_chargeOverhead_41 : decode cX6_chargeOverhead 41 = .ok (.iload_n 3, 1) := by decide +kernel
theorem dX6_chargeOverhead_42 : decode cX6_chargeOverhead 42 = .ok (.ifCond .le 7, 3) := by decide +kernel
theorem dX6_chargeOverhead_45 : decode cX6_chargeOverhead 45 = .ok (.iload_n 3, 1) := by decide +kernel
theorem dX6_chargeOverhead_46 : decode cX6_chargeOverhead 46 = .ok (.goto 8, 3) := by decide +kernel
theorem dX6_chargeOverhead_49 : decode cX6_chargeOverhead 49 = .ok (.aload_n 0, 1) := by decide +kernel
theorem dX6_chargeOverhead_50 : decode cX6_chargeOverhead 50 = .ok (.iload_n 2, 1) := by decide +kernel
theorem dX6_chargeOverhead_51 : decode cX6_chargeOverhead 51 = .ok (.invokevirtual 176, 3) := by decide +kernel
theorem dX6_chargeOverhead_54 : decode cX6_chargeOverhead 54 = .ok (.istore_n 3, 1) := by decide +kernel
theorem dX6_chargeOverhead_55 : decode cX6_chargeOverhead 55 = .ok (.iload_n 2, 1) := by decide +kernel
theorem dX6_chargeOverhead_56 : decode cX6_chargeOverhead 56 = .ok (.iload_n 3, 1) := by decide +kernel
theorem dX6_chargeOverhead_57 : decode cX6_chargeOverhead 57 = .ok (.isub, 1) := by decide +kernel
theorem dX6_chargeOverhead_58 : decode cX6_chargeOverhead 58 = .ok (.istore_n 2, 1) := by decide +kernel
theorem dX6_chargeOverhead_59 : decode cX6_chargeOverhead 59 = .ok (.goto (-32), 3) := by decide +kernel
theorem dX6_chargeOverhead_62 : decode cX6_chargeOverhead 62 = .ok (.iload_n 1, 1) := by decide +kernel
theorem dX6_chargeOverhead_63 : decode cX6_chargeOverhead 63 = .ok (.iload_n 2, 1) := by decide +kernel
theorem dX6_chargeOverhead_64 : decode cX6_chargeOverhead 64 = .ok (.isub, 1) := by decide +kernel
theorem dX6_chargeOverhead_65 : decode cX6_chargeOverhead 65 = .ok (.ireturn, 1) := by decide +kernel
theorem dX6_today_0 : decode cX6_today 0 = .ok (.aload_n 0, 1) := by decide +kernel
theorem dX6_today_1 : decode cX6_today 1 = .ok (.iconst 0, 1) := by decide +kernel
theorem dX6_today_2 : decode cX6_today 2 = .ok (.putfield 82, 3) := by decide +kernel
theorem dX6_today_5 : decode cX6_today 5 = .ok (.aload_n 0, 1) := by decide +kernel
theorem dX6_today_6 : decode cX6_today 6 = .ok (.getfield 121, 3) := by decide +kernel
theorem dX6_today_9 : decode cX6_today 9 = .ok (.ireturn, 1) := by decide +kernel
theorem dX6_funds_0 : decode cX6_funds 0 = .ok (.aload_n 0, 1) := by decide +kernel
theorem dX6_funds_1 : decode cX6_funds 1 = .ok (.iconst 0, 1) := by decide +kernel
theorem dX6_funds_2 : decode cX6_funds 2 = .ok (.putfield 82, 3) := by decide +kernel
theorem dX6_funds_5 : decode cX6_funds 5 = .ok (.aload_n 0, 1) := by decide +kernel
theorem dX6_funds_6 : decode cX6_funds 6 = .ok (.getfield 86, 3) := by decide +kernel
theorem dX6_funds_9 : decode cX6_funds 9 = .ok (.ireturn, 1) := by decide +kernel
theorem dX6_freeOf_0 : decode cX6_freeOf 0 = .ok (.aload_n 0, 1) := by decide +kernel
theorem dX6_freeOf_1 : decode cX6_freeOf 1 = .ok (.iload_n 1, 1) := by decide +kernel
theorem dX6_freeOf_2 : decode cX6_freeOf 2 = .ok (.invokevirtual 115, 3) := by decide +kernel
theorem dX6_freeOf_5 : decode cX6_freeOf 5 = .ok (.ifCond .eq 12, 3) := by decide +kernel
theorem dX6_freeOf_8 : decode cX6_freeOf 8 = .ok (.aload_n 0, 1) := by decide +kernel
theorem dX6_freeOf_9 : decode cX6_freeOf 9 = .ok (.getfield 7, 3) := by decide +kernel
theorem dX6_freeOf_12 : decode cX6_freeOf 12 = .ok (.iload_n 1, 1) := by decide +kernel
theorem dX6_freeOf_13 : decode cX6_freeOf 13 = .ok (.iaload, 1) := by decide +kernel
theorem dX6_freeOf_14 : decode cX6_freeOf 14 = .ok (.goto 4, 3) := by decide +kernel
theorem dX6_freeOf_17 : decode cX6_freeOf 17 = .ok (.iconst 0, 1) := by decide +kernel
theorem dX6_freeOf_18 : decode cX6_freeOf 18 = .ok (.ireturn, 1) := by decide +kernel
theorem dX6_committed_0 : decode cX6_committed 0 = .ok (.iconst 0, 1) := by decide +kernel
theorem dX6_committed_1 : decode cX6_committed 1 = .ok (.istore_n 2, 1) := by decide +kernel
theorem dX6_committed_2 : decode cX6_committed 2 = .ok (.iconst 0, 1) := by decide +kernel
theorem dX6_committed_3 : decode cX6_committed 3 = .ok (.istore_n 3, 1) := by decide +kernel
theorem dX6_committed_4 : decode cX6_committed 4 = .ok (.iload_n 3, 1) := by decide +kernel
theorem dX6_committed_5 : decode cX6_committed 5 = .ok (.aload_n 0, 1) := by decide +kernel
theorem dX6_committed_6 : decode cX6_committed 6 = .ok (.getfield 93, 3) := by decide +kernel
theorem dX6_committed_9 : decode cX6_committed 9 = .ok (.if_icmp .ge 32, 3) := by decide +kernel
theorem dX6_committed_12 : decode cX6_committed 12 = .ok (.iload_n 2, 1) := by decide +kernel
theorem dX6_committed_13 : decode cX6_committed 13 = .ok (.aload_n 0, 1) := by decide +kernel
theorem dX6_committed_14 : decode cX6_committed 14 = .ok (.getfield 28, 3) := by decide +kernel
theorem dX6_committed_17 : decode cX6_committed 17 = .ok (.iload_n 3, 1) := by decide +kernel
theorem dX6_committed_18 : decode cX6_committed 18 = .ok (.iaload, 1) := by decide +kernel
theorem dX6_committed_19 : decode cX6_committed 19 = .ok (.iload_n 1, 1) := by decide +kernel
theorem dX6_committed_20 : decode cX6_committed 20 = .ok (.if_icmp .ne 12, 3) := by decide +kernel
theorem dX6_committed_23 : decode cX6_committed 23 = .ok (.aload_n 0, 1) := by decide +kernel
theorem dX6_committed_24 : decode cX6_committed 24 = .ok (.getfield 34, 3) := by decide +kernel
theorem dX6_committed_27 : decode cX6_committed 27 = .ok (.iload_n 3, 1) := by decide +kernel
theorem dX6_committed_28 : decode cX6_committed 28 = .ok (.iaload, 1) := by decide +kernel
theorem dX6_committed_29 : decode cX6_committed 29 = .ok (.goto 4, 3) := by decide +kernel
theorem dX6_committed_32 : decode cX6_committed 32 = .ok (.iconst 0, 1) := by decide +kernel
theorem dX6_committed_33 : decode cX6_committed 33 = .ok (.iadd, 1) := by decide +kernel
theorem dX6_committed_34 : decode cX6_committed 34 = .ok (.istore_n 2, 1) := by decide +kernel
theorem dX6_committed_35 : decode cX6_committed 35 = .ok (.iinc 3 1, 3) := by decide +kernel
theorem dX6_committed_38 : decode cX6_committed 38 = .ok (.goto (-34), 3) := by decide +kernel
theorem dX6_committed_41 : decode cX6_committed 41 = .ok (.iload_n 2, 1) := by decide +kernel
theorem dX6_committed_42 : decode cX6_committed 42 = .ok (.ireturn, 1) := by decide +kernel
theorem dX6_committedOf_0 : decode cX6_committedOf 0 = .ok (.aload_n 0, 1) := by decide +kernel
theorem dX6_committedOf_1 : decode cX6_committedOf 1 = .ok (.iload_n 1, 1) := by decide +kernel
theorem dX6_committedOf_2 : decode cX6_committedOf 2 = .ok (.invokevirtual 115, 3) := by decide +kernel
theorem dX6_committedOf_5 : decode cX6_committedOf 5 = .ok (.ifCond .eq 11, 3) := by decide +kernel
theorem dX6_committedOf_8 : decode cX6_committedOf 8 = .ok (.aload_n 0, 1) := by decide +kernel
theorem dX6_committedOf_9 : decode cX6_committedOf 9 = .ok (.iload_n 1, 1) := by decide +kernel
theorem dX6_committedOf_10 : decode cX6_committedOf 10 = .ok (.invokevirtual 179, 3) := by decide +kernel
theorem dX6_committedOf_13 : decode cX6_committedOf 13 = .ok (.goto 4, 3) := by decide +kernel
theorem dX6_committedOf_16 : decode cX6_committedOf 16 = .ok (.iconst 0, 1) := by decide +kernel
theorem dX6_committedOf_17 : decode cX6_committedOf 17 = .ok (.ireturn, 1) := by decide +kernel
theorem dX6_directOf_0 : decode cX6_directOf 0 = .ok (.aload_n 0, 1) := by decide +kernel
theorem dX6_directOf_1 : decode cX6_directOf 1 = .ok (.iload_n 1, 1) := by decide +kernel
theorem dX6_directOf_2 : decode cX6_directOf 2 = .ok (.invokevirtual 115, 3) := by decide +kernel
theorem dX6_directOf_5 : decode cX6_directOf 5 = .ok (.ifCond .eq 12, 3) := by decide +kernel
theorem dX6_directOf_8 : decode cX6_directOf 8 = .ok (.aload_n 0, 1) := by decide +kernel
theorem dX6_directOf_9 : decode cX6_directOf 9 = .ok (.getfield 22, 3) := by decide +kernel
theorem dX6_directOf_12 : decode cX6_directOf 12 = .ok (.iload_n 1, 1) := by decide +kernel
theorem dX6_directOf_13 : decode cX6_directOf 13 = .ok (.iaload, 1) := by decide +kernel
theorem dX6_directOf_14 : decode cX6_directOf 14 = .ok (.goto 4, 3) := by decide +kernel
theorem dX6_directOf_17 : decode cX6_directOf 17 = .ok (.iconst 0, 1) := by decide +kernel
theorem dX6_directOf_18 : decode cX6_directOf 18 = .ok (.ireturn, 1) := by decide +kernel
theorem dX6_overheadOf_0 : decode cX6_overheadOf 0 = .ok (.aload_n 0, 1) := by decide +kernel
theorem dX6_overheadOf_1 : decode cX6_overheadOf 1 = .ok (.iload_n 1, 1) := by decide +kernel
theorem dX6_overheadOf_2 : decode cX6_overheadOf 2 = .ok (.invokevirtual 115, 3) := by decide +kernel
theorem dX6_overheadOf_5 : decode cX6_overheadOf 5 = .ok (.ifCond .eq 12, 3) := by decide +kernel
theorem dX6_overheadOf_8 : decode cX6_overheadOf 8 = .ok (.aload_n 0, 1) := by decide +kernel
theorem dX6_overheadOf_9 : decode cX6_overheadOf 9 = .ok (.getfield 25, 3) := by decide +kernel
theorem dX6_overheadOf_12 : decode cX6_overheadOf 12 = .ok (.iload_n 1, 1) := by decide +kernel
theorem dX6_overheadOf_13 : decode cX6_overheadOf 13 = .ok (.iaload, 1) := by decide +kernel
theorem dX6_overheadOf_14 : decode cX6_overheadOf 14 = .ok (.goto 4, 3) := by decide +kernel
theorem dX6_overheadOf_17 : decode cX6_overheadOf 17 = .ok (.iconst 0, 1) := by decide +kernel
theorem dX6_overheadOf_18 : decode cX6_overheadOf 18 = .ok (.ireturn, 1) := by decide +kernel
theorem dX6_roomOf_0 : decode cX6_roomOf 0 = .ok (.aload_n 0, 1) := by decide +kernel
theorem dX6_roomOf_1 : decode cX6_roomOf 1 = .ok (.iload_n 1, 1) := by decide +kernel
theorem dX6_roomOf_2 : decode cX6_roomOf 2 = .ok (.invokevirtual 115, 3) := by decide +kernel
theorem dX6_roomOf_5 : decode cX6_roomOf 5 = .ok (.ifCond .eq 11, 3) := by decide +kernel
theorem dX6_roomOf_8 : decode cX6_roomOf 8 = .ok (.aload_n 0, 1) := by decide +kernel
theorem dX6_roomOf_9 : decode cX6_roomOf 9 = .ok (.iload_n 1, 1) := by decide +kernel
theorem dX6_roomOf_10 : decode cX6_roomOf 10 = .ok (.invokevirtual 167, 3) := by decide +kernel
theorem dX6_roomOf_13 : decode cX6_roomOf 13 = .ok (.goto 4, 3) := by decide +kernel
theorem dX6_roomOf_16 : decode cX6_roomOf 16 = .ok (.iconst 0, 1) := by decide +kernel
theorem dX6_roomOf_17 : decode cX6_roomOf 17 = .ok (.ireturn, 1) := by decide +kernel
theorem dX6_commitments_0 : decode cX6_commitments 0 = .ok (.aload_n 0, 1) := by decide +kernel
theorem dX6_commitments_1 : decode cX6_commitments 1 = .ok (.iconst 0, 1) := by decide +kernel
theorem dX6_commitments_2 : decode cX6_commitments 2 = .ok (.putfield 82, 3) := by decide +kernel
theorem dX6_commitments_5 : decode cX6_commitments 5 = .ok (.aload_n 0, 1) := by decide +kernel
theorem dX6_commitments_6 : decode cX6_commitments 6 = .ok (.getfield 93, 3) := by decide +kernel
theorem dX6_commitments_9 : decode cX6_commitments 9 = .ok (.ireturn, 1) := by decide +kernel
theorem dX6_fundOf_0 : decode cX6_fundOf 0 = .ok (.aload_n 0, 1) := by decide +kernel
theorem dX6_fundOf_1 : decode cX6_fundOf 1 = .ok (.iload_n 1, 1) := by decide +kernel
theorem dX6_fundOf_2 : decode cX6_fundOf 2 = .ok (.invokevirtual 124, 3) := by decide +kernel
theorem dX6_fundOf_5 : decode cX6_fundOf 5 = .ok (.ifCond .eq 12, 3) := by decide +kernel
theorem dX6_fundOf_8 : decode cX6_fundOf 8 = .ok (.aload_n 0, 1) := by decide +kernel
theorem dX6_fundOf_9 : decode cX6_fundOf 9 = .ok (.getfield 28, 3) := by decide +kernel
theorem dX6_fundOf_12 : decode cX6_fundOf 12 = .ok (.iload_n 1, 1) := by decide +kernel
theorem dX6_fundOf_13 : decode cX6_fundOf 13 = .ok (.iaload, 1) := by decide +kernel
theorem dX6_fundOf_14 : decode cX6_fundOf 14 = .ok (.goto 4, 3) := by decide +kernel
theorem dX6_fundOf_17 : decode cX6_fundOf 17 = .ok (.iconst 0, 1) := by decide +kernel
theorem dX6_fundOf_18 : decode cX6_fundOf 18 = .ok (.ireturn, 1) := by decide +kernel
theorem dX6_leftOf_0 : decode cX6_leftOf 0 = .ok (.aload_n 0, 1) := by decide +kernel
theorem dX6_leftOf_1 : decode cX6_leftOf 1 = .ok (.iload_n 1, 1) := by decide +kernel
theorem dX6_leftOf_2 : decode cX6_leftOf 2 = .ok (.invokevirtual 124, 3) := by decide +kernel
theorem dX6_leftOf_5 : decode cX6_leftOf 5 = .ok (.ifCond .eq 12, 3) := by decide +kernel
theorem dX6_leftOf_8 : decode cX6_leftOf 8 = .ok (.aload_n 0, 1) := by decide +kernel
theorem dX6_leftOf_9 : decode cX6_leftOf 9 = .ok (.getfield 34, 3) := by decide +kernel
theorem dX6_leftOf_12 : decode cX6_leftOf 12 = .ok (.iload_n 1, 1) := by decide +kernel
theorem dX6_leftOf_13 : decode cX6_leftOf 13 = .ok (.iaload, 1) := by decide +kernel
theorem dX6_leftOf_14 : decode cX6_leftOf 14 = .ok (.goto 4, 3) := by decide +kernel
theorem dX6_leftOf_17 : decode cX6_leftOf 17 = .ok (.iconst 0, 1) := by decide +kernel
theorem dX6_leftOf_18 : decode cX6_leftOf 18 = .ok (.ireturn, 1) := by decide +kernel
theorem dX6_untilOf_0 : decode cX6_untilOf 0 = .ok (.aload_n 0, 1) := by decide +kernel
theorem dX6_untilOf_1 : decode cX6_untilOf 1 = .ok (.iload_n 1, 1) := by decide +kernel
theorem dX6_untilOf_2 : decode cX6_untilOf 2 = .ok (.invokevirtual 124, 3) := by decide +kernel
theorem dX6_untilOf_5 : decode cX6_untilOf 5 = .ok (.ifCond .eq 12, 3) := by decide +kernel
theorem dX6_untilOf_8 : decode cX6_untilOf 8 = .ok (.aload_n 0, 1) := by decide +kernel
theorem dX6_untilOf_9 : decode cX6_untilOf 9 = .ok (.getfield 37, 3) := by decide +kernel
theorem dX6_untilOf_12 : decode cX6_untilOf 12 = .ok (.iload_n 1, 1) := by decide +kernel
theorem dX6_untilOf_13 : decode cX6_untilOf 13 = .ok (.iaload, 1) := by decide +kernel
theorem dX6_untilOf_14 : decode cX6_untilOf 14 = .ok (.goto 4, 3) := by decide +kernel
theorem dX6_untilOf_17 : decode cX6_untilOf 17 = .ok (.iconst 0, 1) := by decide +kernel
theorem dX6_untilOf_18 : decode cX6_untilOf 18 = .ok (.ireturn, 1) := by decide +kernel
theorem dX6_costs_0 : decode cX6_costs 0 = .ok (.aload_n 0, 1) := by decide +kernel
theorem dX6_costs_1 : decode cX6_costs 1 = .ok (.iconst 0, 1) := by decide +kernel
theorem dX6_costs_2 : decode cX6_costs 2 = .ok (.putfield 82, 3) := by decide +kernel
theorem dX6_costs_5 : decode cX6_costs 5 = .ok (.aload_n 0, 1) := by decide +kernel
theorem dX6_costs_6 : decode cX6_costs 6 = .ok (.getfield 96, 3) := by decide +kernel
theorem dX6_costs_9 : decode cX6_costs 9 = .ok (.ireturn, 1) := by decide +kernel
theorem dX6_unpaidOf_0 : decode cX6_unpaidOf 0 = .ok (.aload_n 0, 1) := by decide +kernel
theorem dX6_unpaidOf_1 : decode cX6_unpaidOf 1 = .ok (.iload_n 1, 1) := by decide +kernel
theorem dX6_unpaidOf_2 : decode cX6_unpaidOf 2 = .ok (.invokevirtual 182, 3) := by decide +kernel
theorem dX6_unpaidOf_5 : decode cX6_unpaidOf 5 = .ok (.ifCond .eq 12, 3) := by decide +kernel
theorem dX6_unpaidOf_8 : decode cX6_unpaidOf 8 = .ok (.aload_n 0, 1) := by decide +kernel
theorem dX6_unpaidOf_9 : decode cX6_unpaidOf 9 = .ok (.getfield 46, 3) := by decide +kernel
theorem dX6_unpaidOf_12 : decode cX6_unpaidOf 12 = .ok (.iload_n 1, 1) := by decide +kernel
theorem dX6_unpaidOf_13 : decode cX6_unpaidOf 13 = .ok (.iaload, 1) := by decide +kernel
theorem dX6_unpaidOf_14 : decode cX6_unpaidOf 14 = .ok (.goto 4, 3) := by decide +kernel
theorem dX6_unpaidOf_17 : decode cX6_unpaidOf 17 = .ok (.iconst 0, 1) := by decide +kernel
theorem dX6_unpaidOf_18 : decode cX6_unpaidOf 18 = .ok (.ireturn, 1) := by decide +kernel
theorem dX6_paidBy_0 : decode cX6_paidBy 0 = .ok (.aload_n 0, 1) := by decide +kernel
theorem dX6_paidBy_1 : decode cX6_paidBy 1 = .ok (.iload_n 1, 1) := by decide +kernel
theorem dX6_paidBy_2 : decode cX6_paidBy 2 = .ok (.i2l, 1) := by decide +kernel
theorem dX6_paidBy_3 : decode cX6_paidBy 3 = .ok (.lconst 0, 1) := by decide +kernel
theorem dX6_paidBy_4 : decode cX6_paidBy 4 = .ok (.aload_n 0, 1) := by decide +kernel
theorem dX6_paidBy_5 : decode cX6_paidBy 5 = .ok (.getfield 96, 3) := by decide +kernel
theorem dX6_paidBy_8 : decode cX6_paidBy 8 = .ok (.iconst 1, 1) := by decide +kernel
theorem dX6_paidBy_9 : decode cX6_paidBy 9 = .ok (.isub, 1) := by decide +kernel
theorem dX6_paidBy_10 : decode cX6_paidBy 10 = .ok (.i2l, 1) := by decide +kernel
theorem dX6_paidBy_11 : decode cX6_paidBy 11 = .ok (.invokestatic 89, 3) := by decide +kernel
theorem dX6_paidBy_14 : decode cX6_paidBy 14 = .ok (.ifCond .eq 23, 3) := by decide +kernel
theorem dX6_paidBy_17 : decode cX6_paidBy 17 = .ok (.iload_n 2, 1) := by decide +kernel
theorem dX6_paidBy_18 : decode cX6_paidBy 18 = .ok (.i2l, 1) := by decide +kernel
theorem dX6_paidBy_19 : decode cX6_paidBy 19 = .ok (.lconst 0, 1) := by decide +kernel
theorem dX6_paidBy_20 : decode cX6_paidBy 20 = .ok (.aload_n 0, 1) := by decide +kernel
theorem dX6_paidBy_21 : decode cX6_paidBy 21 = .ok (.getfield 86, 3) := by decide +kernel
theorem dX6_paidBy_24 : decode cX6_paidBy 24 = .ok (.iconst 1, 1) := by decide +kernel
theorem dX6_paidBy_25 : decode cX6_paidBy 25 = .ok (.isub, 1) := by decide +kernel
theorem dX6_paidBy_26 : decode cX6_paidBy 26 = .ok (.i2l, 1) := by decide +kernel
theorem dX6_paidBy_27 : decode cX6_paidBy 27 = .ok (.invokestatic 89, 3) := by decide +kernel
theorem dX6_paidBy_30 : decode cX6_paidBy 30 = .ok (.ifCond .eq 7, 3) := by decide +kernel
theorem dX6_paidBy_33 : decode cX6_paidBy 33 = .ok (.iconst 0, 1) := by decide +kernel
theorem dX6_paidBy_34 : decode cX6_paidBy 34 = .ok (.goto 4, 3) := by decide +kernel
theorem dX6_paidBy_37 : decode cX6_paidBy 37 = .ok (.iconst 1, 1) := by decide +kernel
theorem dX6_paidBy_38 : decode cX6_paidBy 38 = .ok (.putfield 82, 3) := by decide +kernel
theorem dX6_paidBy_41 : decode cX6_paidBy 41 = .ok (.aload_n 0, 1) := by decide +kernel
theorem dX6_paidBy_42 : decode cX6_paidBy 42 = .ok (.getfield 82, 3) := by decide +kernel
theorem dX6_paidBy_45 : decode cX6_paidBy 45 = .ok (.ifCond .ne 17, 3) := by decide +kernel
theorem dX6_paidBy_48 : decode cX6_paidBy 48 = .ok (.aload_n 0, 1) := by decide +kernel
theorem dX6_paidBy_49 : decode cX6_paidBy 49 = .ok (.getfield 49, 3) := by decide +kernel
theorem dX6_paidBy_52 : decode cX6_paidBy 52 = .ok (.bipush 6, 2) := by decide +kernel
theorem dX6_paidBy_54 : decode cX6_paidBy 54 = .ok (.iload_n 1, 1) := by decide +kernel
theorem dX6_paidBy_55 : decode cX6_paidBy 55 = .ok (.imul, 1) := by decide +kernel
theorem dX6_paidBy_56 : decode cX6_paidBy 56 = .ok (.iload_n 2, 1) := by decide +kernel
theorem dX6_paidBy_57 : decode cX6_paidBy 57 = .ok (.iadd, 1) := by decide +kernel
theorem dX6_paidBy_58 : decode cX6_paidBy 58 = .ok (.iaload, 1) := by decide +kernel
theorem dX6_paidBy_59 : decode cX6_paidBy 59 = .ok (.goto 4, 3) := by decide +kernel
theorem dX6_paidBy_62 : decode cX6_paidBy 62 = .ok (.iconst 0, 1) := by decide +kernel
theorem dX6_paidBy_63 : decode cX6_paidBy 63 = .ok (.ireturn, 1) := by decide +kernel
theorem dX6_payable_0 : decode cX6_payable 0 = .ok (.aload_n 0, 1) := by decide +kernel
theorem dX6_payable_1 : decode cX6_payable 1 = .ok (.iconst 0, 1) := by decide +kernel
theorem dX6_payable_2 : decode cX6_payable 2 = .ok (.putfield 82, 3) := by decide +kernel
theorem dX6_payable_5 : decode cX6_payable 5 = .ok (.aload_n 0, 1) := by decide +kernel
theorem dX6_payable_6 : decode cX6_payable 6 = .ok (.invokevirtual 150, 3) := by decide +kernel
theorem dX6_payable_9 : decode cX6_payable 9 = .ok (.aload_n 0, 1) := by decide +kernel
theorem dX6_payable_10 : decode cX6_payable 10 = .ok (.aload_n 0, 1) := by decide +kernel
theorem dX6_payable_11 : decode cX6_payable 11 = .ok (.getfield 58, 3) := by decide +kernel
theorem dX6_payable_14 : decode cX6_payable 14 = .ok (.invokevirtual 153, 3) := by decide +kernel
theorem dX6_payable_17 : decode cX6_payable 17 = .ok (.aload_n 0, 1) := by decide +kernel
theorem dX6_payable_18 : decode cX6_payable 18 = .ok (.aload_n 0, 1) := by decide +kernel
theorem dX6_payable_19 : decode cX6_payable 19 = .ok (.getfield 131, 3) := by decide +kernel
theorem dX6_payable_22 : decode cX6_payable 22 = .ok (.aload_n 0, 1) := by decide +kernel
theorem dX6_payable_23 : decode cX6_payable 23 = .ok (.getfield 96, 3) := by decide +kernel
theorem dX6_payable_26 : decode cX6_payable 26 = .ok (.aload_n 0, 1) := by decide +kernel
theorem dX6_payable_27 : decode cX6_payable 27 = .ok (.getfield 46, 3) := by decide +kernel
theorem dX6_payable_30 : decode cX6_payable 30 = .ok (.invokevirtual 157, 3) := by decide +kernel
theorem dX6_payable_33 : decode cX6_payable 33 = .ok (.ireturn, 1) := by decide +kernel
theorem dX6_wouldPay_0 : decode cX6_wouldPay 0 = .ok (.aload_n 0, 1) := by decide +kernel
theorem dX6_wouldPay_1 : decode cX6_wouldPay 1 = .ok (.iload_n 1, 1) := by decide +kernel
theorem dX6_wouldPay_2 : decode cX6_wouldPay 2 = .ok (.invokevirtual 182, 3) := by decide +kernel
theorem dX6_wouldPay_5 : decode cX6_wouldPay 5 = .ok (.ifCond .ne 5, 3) := by decide +kernel
theorem dX6_wouldPay_8 : decode cX6_wouldPay 8 = .ok (.iconst 0, 1) := by decide +kernel
theorem dX6_wouldPay_9 : decode cX6_wouldPay 9 = .ok (.ireturn, 1) := by decide +kernel
theorem dX6_wouldPay_10 : decode cX6_wouldPay 10 = .ok (.aload_n 0, 1) := by decide +kernel
theorem dX6_wouldPay_11 : decode cX6_wouldPay 11 = .ok (.invokevirtual 161, 3) := by decide +kernel
theorem dX6_wouldPay_14 : decode cX6_wouldPay 14 = .ok (.aload_n 0, 1) := by decide +kernel
theorem dX6_wouldPay_15 : decode cX6_wouldPay 15 = .ok (.getfield 64, 3) := by decide +kernel
theorem dX6_wouldPay_18 : decode cX6_wouldPay 18 = .ok (.iload_n 1, 1) := by decide +kernel
theorem dX6_wouldPay_19 : decode cX6_wouldPay 19 = .ok (.iaload, 1) := by decide +kernel
theorem dX6_wouldPay_20 : decode cX6_wouldPay 20 = .ok (.ireturn, 1) := by decide +kernel
theorem dX6_wouldTake_0 : decode cX6_wouldTake 0 = .ok (.iconst 0, 1) := by decide +kernel
theorem dX6_wouldTake_1 : decode cX6_wouldTake 1 = .ok (.istore_n 2, 1) := by decide +kernel
theorem dX6_wouldTake_2 : decode cX6_wouldTake 2 = .ok (.aload_n 0, 1) := by decide +kernel
theorem dX6_wouldTake_3 : decode cX6_wouldTake 3 = .ok (.iload_n 1, 1) := by decide +kernel
theorem dX6_wouldTake_4 : decode cX6_wouldTake 4 = .ok (.invokevirtual 115, 3) := by decide +kernel
theorem dX6_wouldTake_7 : decode cX6_wouldTake 7 = .ok (.ifCond .eq 46, 3) := by decide +kernel
theorem dX6_wouldTake_10 : decode cX6_wouldTake 10 = .ok (.aload_n 0, 1) := by decide +kernel
theorem dX6_wouldTake_11 : decode cX6_wouldTake 11 = .ok (.invokevirtual 161, 3) := by decide +kernel
theorem dX6_wouldTake_14 : decode cX6_wouldTake 14 = .ok (.iconst 0, 1) := by decide +kernel
theorem dX6_wouldTake_15 : decode cX6_wouldTake 15 = .ok (.istore_n 3, 1) := by decide +kernel
theorem dX6_wouldTake_16 : decode cX6_wouldTake 16 = .ok (.iload_n 3, 1) := by decide +kernel
theorem dX6_wouldTake_17 : decode cX6_wouldTake 17 = .ok (.aload_n 0, 1) := by decide +kernel
theorem dX6_wouldTake_18 : decode cX6_wouldTake 18 = .ok (.getfield 131, 3) := by decide +kernel
theorem dX6_wouldTake_21 : decode cX6_wouldTake 21 = .ok (.if_icmp .ge 32, 3) := by decide +kernel
theorem dX6_wouldTake_24 : decode cX6_wouldTake 24 = .ok (.iload_n 2, 1) := by decide +kernel
theorem dX6_wouldTake_25 : decode cX6_wouldTake 25 = .ok (.aload_n 0, 1) := by decide +kernel
theorem dX6_wouldTake_26 : decode cX6_wouldTake 26 = .ok (.getfield 52, 3) := by decide +kernel
theorem dX6_wouldTake_29 : decode cX6_wouldTake 29 = .ok (.iload_n 3, 1) := by decide +kernel
theorem dX6_wouldTake_30 : decode cX6_wouldTake 30 = .ok (.iaload, 1) := by decide +kernel
theorem dX6_wouldTake_31 : decode cX6_wouldTake 31 = .ok (.iload_n 1, 1) := by decide +kernel
theorem dX6_wouldTake_32 : decode cX6_wouldTake 32 = .ok (.if_icmp .ne 12, 3) := by decide +kernel
theorem dX6_wouldTake_35 : decode cX6_wouldTake 35 = .ok (.aload_n 0, 1) := by decide +kernel
theorem dX6_wouldTake_36 : decode cX6_wouldTake 36 = .ok (.getfield 67, 3) := by decide +kernel
theorem dX6_wouldTake_39 : decode cX6_wouldTake 39 = .ok (.iload_n 3, 1) := by decide +kernel
theorem dX6_wouldTake_40 : decode cX6_wouldTake 40 = .ok (.iaload, 1) := by decide +kernel
theorem dX6_wouldTake_41 : decode cX6_wouldTake 41 = .ok (.goto 4, 3) := by decide +kernel
theorem dX6_wouldTake_44 : decode cX6_wouldTake 44 = .ok (.iconst 0, 1) := by decide +kernel
theorem dX6_wouldTake_45 : decode cX6_wouldTake 45 = .ok (.iadd, 1) := by decide +kernel
theorem dX6_wouldTake_46 : decode cX6_wouldTake 46 = .ok (.istore_n 2, 1) := by decide +kernel
theorem dX6_wouldTake_47 : decode cX6_wouldTake 47 = .ok (.iinc 3 1, 3) := by decide +kernel
theorem dX6_wouldTake_50 : decode cX6_wouldTake 50 = .ok (.goto (-34), 3) := by decide +kernel
theorem dX6_wouldTake_53 : decode cX6_wouldTake 53 = .ok (.iload_n 2, 1) := by decide +kernel
theorem dX6_wouldTake_54 : decode cX6_wouldTake 54 = .ok (.ireturn, 1) := by decide +kernel
theorem dX6_reason_0 : decode cX6_reason 0 = .ok (.aload_n 0, 1) := by decide +kernel
theorem dX6_reason_1 : decode cX6_reason 1 = .ok (.iload_n 1, 1) := by decide +kernel
theorem dX6_reason_2 : decode cX6_reason 2 = .ok (.invokevirtual 182, 3) := by decide +kernel
theorem dX6_reason_5 : decode cX6_reason 5 = .ok (.ifCond .ne 5, 3) := by decide +kernel
theorem dX6_reason_8 : decode cX6_reason 8 = .ok (.iconst 0, 1) := by decide +kernel
theorem dX6_reason_9 : decode cX6_reason 9 = .ok (.ireturn, 1) := by decide +kernel
theorem dX6_reason_10 : decode cX6_reason 10 = .ok (.iconst 0, 1) := by decide +kernel
theorem dX6_reason_11 : decode cX6_reason 11 = .ok (.istore_n 2, 1) := by decide +kernel
theorem dX6_reason_12 : decode cX6_reason 12 = .ok (.iconst 0, 1) := by decide +kernel
theorem dX6_reason_13 : decode cX6_reason 13 = .ok (.istore_n 3, 1) := by decide +kernel
theorem dX6_reason_14 : decode cX6_reason 14 = .ok (.iconst 0, 1) := by decide +kernel
theorem dX6_reason_15 : decode cX6_reason 15 = .ok (.istore 4, 2) := by decide +kernel
theorem dX6_reason_17 : decode cX6_reason 17 = .ok (.iconst 0, 1) := by decide +kernel
theorem dX6_reason_18 : decode cX6_reason 18 = .ok (.istore 5, 2) := by decide +kernel
theorem dX6_reason_20 : decode cX6_reason 20 = .ok (.aload_n 0, 1) := by decide +kernel
theorem dX6_reason_21 : decode cX6_reason 21 = .ok (.invokevirtual 150, 3) := by decide +kernel
theorem dX6_reason_24 : decode cX6_reason 24 = .ok (.iconst 0, 1) := by decide +kernel
theorem dX6_reason_25 : decode cX6_reason 25 = .ok (.istore 6, 2) := by decide +kernel
theorem dX6_reason_27 : decode cX6_reason 27 = .ok (.iload 6, 2) := by decide +kernel
theorem dX6_reason_29 : decode cX6_reason 29 = .ok (.aload_n 0, 1) := by decide +kernel
theorem dX6_reason_30 : decode cX6_reason 30 = .ok (.getfield 86, 3) := by decide +kernel
theorem dX6_reason_33 : decode cX6_reason 33 = .ok (.if_icmp .ge 85, 3) := by decide +kernel
theorem dX6_reason_36 : decode cX6_reason 36 = .ok (.iload_n 2, 1) := by decide +kernel
theorem dX6_reason_37 : decode cX6_reason 37 = .ok (.ifCond .ne 18, 3) := by decide +kernel
theorem dX6_reason_40 : decode cX6_reason 40 = .ok (.aload_n 0, 1) := by decide +kernel
theorem dX6_reason_41 : decode cX6_reason 41 = .ok (.iload 6, 2) := by decide +kernel
theorem dX6_reason_43 : decode cX6_reason 43 = .ok (.aload_n 0, 1) := by decide +kernel
theorem dX6_reason_44 : decode cX6_reason 44 = .ok (.getfield 40, 3) := by decide +kernel
theorem dX6_reason_47 : decode cX6_reason 47 = .ok (.iload_n 1, 1) := by decide +kernel
theorem dX6_reason_48 : decode cX6_reason 48 = .ok (.iaload, 1) := by decide +kernel
theorem dX6_reason_49 : decode cX6_reason 49 = .ok (.invokevirtual 99, 3) := by decide +kernel
theorem dX6_reason_52 : decode cX6_reason 52 = .ok (.ifCond .eq 7, 3) := by decide +kernel
theorem dX6_reason_55 : decode cX6_reason 55 = .ok (.iconst 1, 1) := by decide +kernel
theorem dX6_reason_56 : decode cX6_reason 56 = .ok (.goto 4, 3) := by decide +kernel
theorem dX6_reason_59 : decode cX6_reason 59 = .ok (.iconst 0, 1) := by decide +kernel
theorem dX6_reason_60 : decode cX6_reason 60 = .ok (.istore_n 2, 1) := by decide +kernel
theorem dX6_reason_61 : decode cX6_reason 61 = .ok (.iload_n 3, 1) := by decide +kernel
theorem dX6_reason_62 : decode cX6_reason 62 = .ok (.ifCond .ne 13, 3) := by decide +kernel
theorem dX6_reason_65 : decode cX6_reason 65 = .ok (.aload_n 0, 1) := by decide +kernel
theorem dX6_reason_66 : decode cX6_reason 66 = .ok (.iload 6, 2) := by decide +kernel
theorem dX6_reason_68 : decode cX6_reason 68 = .ok (.iload_n 1, 1) := by decide +kernel
theorem dX6_reason_69 : decode cX6_reason 69 = .ok (.invokevirtual 142, 3) := by decide +kernel
theorem dX6_reason_72 : decode cX6_reason 72 = .ok (.ifCond .eq 7, 3) := by decide +kernel
theorem dX6_reason_75 : decode cX6_reason 75 = .ok (.iconst 1, 1) := by decide +kernel
theorem dX6_reason_76 : decode cX6_reason 76 = .ok (.goto 4, 3) := by decide +kernel
theorem dX6_reason_79 : decode cX6_reason 79 = .ok (.iconst 0, 1) := by decide +kernel
theorem dX6_reason_80 : decode cX6_reason 80 = .ok (.istore_n 3, 1) := by decide +kernel
theorem dX6_reason_81 : decode cX6_reason 81 = .ok (.iload 5, 2) := by decide +kernel
theorem dX6_reason_83 : decode cX6_reason 83 = .ok (.ifCond .ne 22, 3) := by decide +kernel
theorem dX6_reason_86 : decode cX6_reason 86 = .ok (.aload_n 0, 1) := by decide +kernel
theorem dX6_reason_87 : decode cX6_reason 87 = .ok (.iload 6, 2) := by decide +kernel
theorem dX6_reason_89 : decode cX6_reason 89 = .ok (.iload_n 1, 1) := by decide +kernel
theorem dX6_reason_90 : decode cX6_reason 90 = .ok (.invokevirtual 142, 3) := by decide +kernel
theorem dX6_reason_93 : decode cX6_reason 93 = .ok (.ifCond .eq 16, 3) := by decide +kernel
theorem dX6_reason_96 : decode cX6_reason 96 = .ok (.aload_n 0, 1) := by decide +kernel
theorem dX6_reason_97 : decode cX6_reason 97 = .ok (.iload 6, 2) := by decide +kernel
theorem dX6_reason_99 : decode cX6_reason 99 = .ok (.invokevirtual 179, 3) := by decide +kernel
theorem dX6_reason_102 : decode cX6_reason 102 = .ok (.ifCond .le 7, 3) := by decide +kernel
theorem dX6_reason_105 : decode cX6_reason 105 = .ok (.iconst 1, 1) := by decide +kernel
theorem dX6_reason_106 : decode cX6_reason 106 = .ok (.goto 4, 3) := by decide +kernel
theorem dX6_reason_109 : decode cX6_reason 109 = .ok (.iconst 0, 1) := by decide +kernel
theorem dX6_reason_110 : decode cX6_reason 110 = .ok (.istore 5, 2) := by decide +kernel
theorem dX6_reason_112 : decode cX6_reason 112 = .ok (.iinc 6 1, 3) := by decide +kernel
theorem dX6_reason_115 : decode cX6_reason 115 = .ok (.goto (-88), 3) := by decide +kernel
theorem dX6_reason_118 : decode cX6_reason 118 = .ok (.iconst 0, 1) := by decide +kernel
theorem dX6_reason_119 : decode cX6_reason 119 = .ok (.istore 6, 2) := by decide +kernel
theorem dX6_reason_121 : decode cX6_reason 121 = .ok (.iload 6, 2) := by decide +kernel
theorem dX6_reason_123 : decode cX6_reason 123 = .ok (.aload_n 0, 1) := by decide +kernel
theorem dX6_reason_124 : decode cX6_reason 124 = .ok (.getfield 131, 3) := by decide +kernel
theorem dX6_reason_127 : decode cX6_reason 127 = .ok (.if_icmp .ge 46, 3) := by decide +kernel
theorem dX6_reason_130 : decode cX6_reason 130 = .ok (.iload 4, 2) := by decide +kernel
theorem dX6_reason_132 : decode cX6_reason 132 = .ok (.ifCond .ne 28, 3) := by decide +kernel
theorem dX6_reason_135 : decode cX6_reason 135 = .ok (.aload_n 0, 1) := by decide +kernel
theorem dX6_reason_136 : decode cX6_reason 136 = .ok (.getfield 61, 3) := by decide +kernel
theorem dX6_reason_139 : decode cX6_reason 139 = .ok (.iload 6, 2) := by decide +kernel
theorem dX6_reason_141 : decode cX6_reason 141 = .ok (.iaload, 1) := by decide +kernel
theorem dX6_reason_142 : decode cX6_reason 142 = .ok (.iload_n 1, 1) := by decide +kernel
theorem dX6_reason_143 : decode cX6_reason 143 = .ok (.ishr, 1) := by decide +kernel
theorem dX6_reason_144 : decode cX6_reason 144 = .ok (.iconst 1, 1) := by decide +kernel
theorem dX6_reason_145 : decode cX6_reason 145 = .ok (.iand, 1) := by decide +kernel
theorem dX6_reason_146 : decode cX6_reason 146 = .ok (.iconst 1, 1) := by decide +kernel
theorem dX6_reason_147 : decode cX6_reason 147 = .ok (.if_icmp .ne 17, 3) := by decide +kernel
theorem dX6_reason_150 : decode cX6_reason 150 = .ok (.aload_n 0, 1) := by decide +kernel
theorem dX6_reason_151 : decode cX6_reason 151 = .ok (.getfield 58, 3) := by decide +kernel
theorem dX6_reason_154 : decode cX6_reason 154 = .ok (.iload 6, 2) := by decide +kernel
theorem dX6_reason_156 : decode cX6_reason 156 = .ok (.iaload, 1) := by decide +kernel
theorem dX6_reason_157 : decode cX6_reason 157 = .ok (.ifCond .le 7, 3) := by decide +kernel
theorem dX6_reason_160 : decode cX6_reason 160 = .ok (.iconst 1, 1) := by decide +kernel
theorem dX6_reason_161 : decode cX6_reason 161 = .ok (.goto 4, 3) := by decide +kernel
theorem dX6_reason_164 : decode cX6_reason 164 = .ok (.iconst 0, 1) := by decide +kernel
theorem dX6_reason_165 : decode cX6_reason 165 = .ok (.istore 4, 2) := by decide +kernel
theorem dX6_reason_167 : decode cX6_reason 167 = .ok (.iinc 6 1, 3) := by decide +kernel
theorem dX6_reason_170 : decode cX6_reason 170 = .ok (.goto (-49), 3) := by decide +kernel
theorem dX6_reason_173 : decode cX6_reason 173 = .ok (.aload_n 0, 1) := by decide +kernel
theorem dX6_reason_174 : decode cX6_reason 174 = .ok (.getfield 46, 3) := by decide +kernel
theorem dX6_reason_177 : decode cX6_reason 177 = .ok (.iload_n 1, 1) := by decide +kernel
theorem dX6_reason_178 : decode cX6_reason 178 = .ok (.iaload, 1) := by decide +kernel
theorem dX6_reason_179 : decode cX6_reason 179 = .ok (.ifCond .ne 7, 3) := by decide +kernel
theorem dX6_reason_182 : decode cX6_reason 182 = .ok (.iconst 0, 1) := by decide +kernel
theorem dX6_reason_183 : decode cX6_reason 183 = .ok (.goto 38, 3) := by decide +kernel
theorem dX6_reason_186 : decode cX6_reason 186 = .ok (.iload_n 2, 1) := by decide +kernel
theorem dX6_reason_187 : decode cX6_reason 187 = .ok (.ifCond .ne 7, 3) := by decide +kernel
theorem dX6_reason_190 : decode cX6_reason 190 = .ok (.iconst 1, 1) := by decide +kernel
theorem dX6_reason_191 : decode cX6_reason 191 = .ok (.goto 30, 3) := by decide +kernel
theorem dX6_reason_194 : decode cX6_reason 194 = .ok (.iload_n 3, 1) := by decide +kernel
theorem dX6_reason_195 : decode cX6_reason 195 = .ok (.ifCond .ne 7, 3) := by decide +kernel
theorem dX6_reason_198 : decode cX6_reason 198 = .ok (.iconst 2, 1) := by decide +kernel
theorem dX6_reason_199 : decode cX6_reason 199 = .ok (.goto 22, 3) := by decide +kernel
theorem dX6_reason_202 : decode cX6_reason 202 = .ok (.iload 4, 2) := by decide +kernel
theorem dX6_reason_204 : decode cX6_reason 204 = .ok (.ifCond .eq 7, 3) := by decide +kernel
theorem dX6_reason_207 : decode cX6_reason 207 = .ok (.iconst 3, 1) := by decide +kernel
theorem dX6_reason_208 : decode cX6_reason 208 = .ok (.goto 13, 3) := by decide +kernel
theorem dX6_reason_211 : decode cX6_reason 211 = .ok (.iload 5, 2) := by decide +kernel
theorem dX6_reason_213 : decode cX6_reason 213 = .ok (.ifCond .eq 7, 3) := by decide +kernel
theorem dX6_reason_216 : decode cX6_reason 216 = .ok (.iconst 4, 1) := by decide +kernel
theorem dX6_reason_217 : decode cX6_reason 217 = .ok (.goto 4, 3) := by decide +kernel
theorem dX6_reason_220 : decode cX6_reason 220 = .ok (.iconst 5, 1) := by decide +kernel
theorem dX6_reason_221 : decode cX6_reason 221 = .ok (.ireturn, 1) := by decide +kernel
