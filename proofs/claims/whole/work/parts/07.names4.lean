theorem dX6_advise_52 : decode cX6_advise 52 = .ok (.getfield 32, 3) := by decide +kernel
theorem dX6_advise_55 : decode cX6_advise 55 = .ok (.if_icmp .ge 52, 3) := by decide +kernel
theorem dX6_advise_58 : decode cX6_advise 58 = .ok (.aload_n 0, 1) := by decide +kernel
theorem dX6_advise_59 : decode cX6_advise 59 = .ok (.iload_n 1, 1) := by decide +kernel
theorem dX6_advise_60 : decode cX6_advise 60 = .ok (.iconst 1, 1) := by decide +kernel
theorem dX6_advise_61 : decode cX6_advise 61 = .ok (.iload 6, 2) := by decide +kernel
theorem dX6_advise_63 : decode cX6_advise 63 = .ok (.invokevirtual 49, 3) := by decide +kernel
theorem dX6_advise_66 : decode cX6_advise 66 = .ok (.aload_n 0, 1) := by decide +kernel
theorem dX6_advise_67 : decode cX6_advise 67 = .ok (.iload_n 2, 1) := by decide +kernel
theorem dX6_advise_68 : decode cX6_advise 68 = .ok (.invokevirtual 136, 3) := by decide +kernel
theorem dX6_advise_71 : decode cX6_advise 71 = .ok (.pop, 1) := by decide +kernel
theorem dX6_advise_72 : decode cX6_advise 72 = .ok (.aload_n 0, 1) := by decide +kernel
theorem dX6_advise_73 : decode cX6_advise 73 = .ok (.invokevirtual 158, 3) := by decide +kernel
theorem dX6_advise_76 : decode cX6_advise 76 = .ok (.istore 7, 2) := by decide +kernel
theorem dX6_advise_78 : decode cX6_advise 78 = .ok (.aload_n 0, 1) := by decide +kernel
theorem dX6_advise_79 : decode cX6_advise 79 = .ok (.aload_n 3, 1) := by decide +kernel
theorem dX6_advise_80 : decode cX6_advise 80 = .ok (.invokevirtual 154, 3) := by decide +kernel
theorem dX6_advise_83 : decode cX6_advise 83 = .ok (.iload 7, 2) := by decide +kernel
theorem dX6_advise_85 : decode cX6_advise 85 = .ok (.iload 5, 2) := by decide +kernel
theorem dX6_advise_87 : decode cX6_advise 87 = .ok (.if_icmp .gt 6, 3) := by decide +kernel
theorem dX6_advise_90 : decode cX6_advise 90 = .ok (.goto 11, 3) := by decide +kernel
theorem dX6_advise_93 : decode cX6_advise 93 = .ok (.iload 6, 2) := by decide +kernel
theorem dX6_advise_95 : decode cX6_advise 95 = .ok (.istore 4, 2) := by decide +kernel
theorem dX6_advise_97 : decode cX6_advise 97 = .ok (.iload 7, 2) := by decide +kernel
theorem dX6_advise_99 : decode cX6_advise 99 = .ok (.istore 5, 2) := by decide +kernel
theorem dX6_advise_101 : decode cX6_advise 101 = .ok (.iinc 6 1, 3) := by decide +kernel
theorem dX6_advise_104 : decode cX6_advise 104 = .ok (.goto (-55), 3) := by decide +kernel
theorem dX6_advise_107 : decode cX6_advise 107 = .ok (.iload 4, 2) := by decide +kernel
theorem dX6_advise_109 : decode cX6_advise 109 = .ok (.ireturn, 1) := by decide +kernel
set_option maxRecDepth 20000 in
theorem ggX6_share_X6_st : GoodIn wsX6_share wsX6_st := goodIn_r _ [7, 8, 9, 10, 11, 12, 13, 14, 15, 16, 17, 18] (by decide +kernel) (by decide +kernel)
set_option maxRecDepth 20000 in
theorem gX6_share_X6_st : GoodIn wsX6_share (wsV RX6 64 RX6 yX6_st wsX6_st) := goodIn_app (goodIn_of _ (by decide +kernel)) ggX6_share_X6_st
theorem dX6_share_0 : decode cX6_share 0 = .ok (.aload_n 0, 1) := by decide +kernel
theorem dX6_share_1 : decode cX6_share 1 = .ok (.iconst 0, 1) := by decide +kernel
theorem dX6_share_2 : decode cX6_share 2 = .ok (.putfield 28, 3) := by decide +kernel
theorem dX6_share_5 : decode cX6_share 5 = .ok (.iconst 0, 1) := by decide +kernel
theorem dX6_share_6 : decode cX6_share 6 = .ok (.istore_n 1, 1) := by decide +kernel
theorem dX6_share_7 : decode cX6_share 7 = .ok (.iconst 0, 1) := by decide +kernel
theorem dX6_share_8 : decode cX6_share 8 = .ok (.istore_n 2, 1) := by decide +kernel
theorem dX6_share_9 : decode cX6_share 9 = .ok (.iload_n 2, 1) := by decide +kernel
theorem dX6_share_10 : decode cX6_share 10 = .ok (.aload_n 0, 1) := by decide +kernel
theorem dX6_share_11 : decode cX6_share 11 = .ok (.getfield 25, 3) := by decide +kernel
theorem dX6_share_14 : decode cX6_share 14 = .ok (.iconst 2, 1) := by decide +kernel
theorem dX6_share_15 : decode cX6_share 15 = .ok (.iaload, 1) := by decide +kernel
theorem dX6_share_16 : decode cX6_share 16 = .ok (.if_icmp .ge 20, 3) := by decide +kernel
theorem dX6_share_19 : decode cX6_share 19 = .ok (.iload_n 1, 1) := by decide +kernel
theorem dX6_share_20 : decode cX6_share 20 = .ok (.iconst 1, 1) := by decide +kernel
theorem dX6_share_21 : decode cX6_share 21 = .ok (.aload_n 0, 1) := by decide +kernel
theorem dX6_share_22 : decode cX6_share 22 = .ok (.iload_n 2, 1) := by decide +kernel
theorem dX6_share_23 : decode cX6_share 23 = .ok (.iconst 4, 1) := by decide +kernel
theorem dX6_share_24 : decode cX6_share 24 = .ok (.invokevirtual 64, 3) := by decide +kernel
theorem dX6_share_27 : decode cX6_share 27 = .ok (.isub, 1) := by decide +kernel
theorem dX6_share_28 : decode cX6_share 28 = .ok (.iadd, 1) := by decide +kernel
theorem dX6_share_29 : decode cX6_share 29 = .ok (.istore_n 1, 1) := by decide +kernel
theorem dX6_share_30 : decode cX6_share 30 = .ok (.iinc 2 1, 3) := by decide +kernel
theorem dX6_share_33 : decode cX6_share 33 = .ok (.goto (-24), 3) := by decide +kernel
theorem dX6_share_36 : decode cX6_share 36 = .ok (.aload_n 0, 1) := by decide +kernel
theorem dX6_share_37 : decode cX6_share 37 = .ok (.getfield 25, 3) := by decide +kernel
theorem dX6_share_40 : decode cX6_share 40 = .ok (.iconst 2, 1) := by decide +kernel
theorem dX6_share_41 : decode cX6_share 41 = .ok (.iaload, 1) := by decide +kernel
theorem dX6_share_42 : decode cX6_share 42 = .ok (.ifCond .ne 7, 3) := by decide +kernel
theorem dX6_share_45 : decode cX6_share 45 = .ok (.dconst 0, 1) := by decide +kernel
theorem dX6_share_46 : decode cX6_share 46 = .ok (.goto 13, 3) := by decide +kernel
theorem dX6_share_49 : decode cX6_share 49 = .ok (.iload_n 1, 1) := by decide +kernel
theorem dX6_share_50 : decode cX6_share 50 = .ok (.i2d, 1) := by decide +kernel
theorem dX6_share_51 : decode cX6_share 51 = .ok (.aload_n 0, 1) := by decide +kernel
theorem dX6_share_52 : decode cX6_share 52 = .ok (.getfield 25, 3) := by decide +kernel
theorem dX6_share_55 : decode cX6_share 55 = .ok (.iconst 2, 1) := by decide +kernel
theorem dX6_share_56 : decode cX6_share 56 = .ok (.iaload, 1) := by decide +kernel
theorem dX6_share_57 : decode cX6_share 57 = .ok (.i2d, 1) := by decide +kernel
theorem dX6_share_58 : decode cX6_share 58 = .ok (.ddiv, 1) := by decide +kernel
theorem dX6_share_59 : decode cX6_share 59 = .ok (.dreturn, 1) := by decide +kernel
set_option maxRecDepth 20000 in
theorem ggX6_digest_X6_counted : GoodIn wsX6_digest wsX6_counted := goodIn_r _ [13, 7, 6, 14, 15, 16, 12, 17, 4, 18, 19, 20, 21, 22, 23, 24, 25, 26, 27, 74, 75, 76, 77, 78, 79, 80, 81, 82, 83] (by decide +kernel) (by decide +kernel)
set_option maxRecDepth 20000 in
theorem gX6_digest_X6_counted : GoodIn wsX6_digest (wsV RX6 116 RX6 yX6_counted wsX6_counted) := goodIn_app (goodIn_of _ (by decide +kernel)) ggX6_digest_X6_counted
set_option maxRecDepth 20000 in
theorem ggX6_digest_X6_bedTold : GoodIn wsX6_digest wsX6_bedTold := goodIn_r _ [31, 6, 7, 18, 19, 20, 12, 21, 22, 32, 33, 34, 35, 36, 23, 24, 25, 26, 27, 74, 75, 76, 77, 78, 79, 80, 81, 82, 83] (by decide +kernel) (by decide +kernel)
set_option maxRecDepth 20000 in
theorem gX6_digest_X6_bedTold : GoodIn wsX6_digest (wsV RX6 104 RX6 yX6_bedTold wsX6_bedTold) := goodIn_app (goodIn_of _ (by decide +kernel)) ggX6_digest_X6_bedTold
set_option maxRecDepth 20000 in
theorem ggX6_digest_X6_quarrierTold : GoodIn wsX6_digest wsX6_quarrierTold := goodIn_r _ [40, 18, 19, 20, 12, 21, 22, 32, 33, 34, 35, 36, 74, 75, 76, 77, 78, 79, 80, 81, 82, 83] (by decide +kernel) (by decide +kernel)
set_option maxRecDepth 20000 in
theorem gX6_digest_X6_quarrierTold : GoodIn wsX6_digest (wsV RX6 107 RX6 yX6_quarrierTold wsX6_quarrierTold) := goodIn_app (goodIn_of _ (by decide +kernel)) ggX6_digest_X6_quarrierTold
set_option maxRecDepth 20000 in
theorem ggX6_digest_X6_wheelTold : GoodIn wsX6_digest wsX6_wheelTold := goodIn_r _ [44, 23, 24, 25, 12, 26, 27, 45, 46, 47, 48, 49, 50, 51, 52, 32, 33, 34, 35, 36, 74, 75, 76, 77, 78, 79, 80, 81, 82, 83] (by decide +kernel) (by decide +kernel)
set_option maxRecDepth 20000 in
theorem gX6_digest_X6_wheelTold : GoodIn wsX6_digest (wsV RX6 110 RX6 yX6_wheelTold wsX6_wheelTold) := goodIn_app (goodIn_of _ (by decide +kernel)) ggX6_digest_X6_wheelTold
set_option maxRecDepth 20000 in
theorem ggX6_digest_X6_raftTold : GoodIn wsX6_digest wsX6_raftTold := goodIn_r _ [56, 57, 58, 59, 60, 12, 61, 7, 62, 63, 64, 65, 23, 24, 25, 26, 27, 45, 46, 47, 48, 66, 67, 68, 69, 70, 71, 72, 73, 74, 75, 76, 77, 78, 79, 80, 81, 82, 83] (by decide +kernel) (by decide +kernel)
set_option maxRecDepth 20000 in
theorem gX6_digest_X6_raftTold : GoodIn wsX6_digest (wsV RX6 113 RX6 yX6_raftTold wsX6_raftTold) := goodIn_app (goodIn_of _ (by decide +kernel)) ggX6_digest_X6_raftTold
theorem dX6_digest_0 : decode cX6_digest 0 = .ok (.aload_n 0, 1) := by decide +kernel
theorem dX6_digest_1 : decode cX6_digest 1 = .ok (.iconst 0, 1) := by decide +kernel
theorem dX6_digest_2 : decode cX6_digest 2 = .ok (.putfield 28, 3) := by decide +kernel
theorem dX6_digest_5 : decode cX6_digest 5 = .ok (.ldc2_w 161, 3) := by decide +kernel
theorem dX6_digest_8 : decode cX6_digest 8 = .ok (.lstore_n 1, 1) := by decide +kernel
theorem dX6_digest_9 : decode cX6_digest 9 = .ok (.iconst 0, 1) := by decide +kernel
theorem dX6_digest_10 : decode cX6_digest 10 = .ok (.istore_n 3, 1) := by decide +kernel
theorem dX6_digest_11 : decode cX6_digest 11 = .ok (.iload_n 3, 1) := by decide +kernel
theorem dX6_digest_12 : decode cX6_digest 12 = .ok (.bipush 10, 2) := by decide +kernel
theorem dX6_digest_14 : decode cX6_digest 14 = .ok (.if_icmp .ge 22, 3) := by decide +kernel
theorem dX6_digest_17 : decode cX6_digest 17 = .ok (.lload_n 1, 1) := by decide +kernel
theorem dX6_digest_18 : decode cX6_digest 18 = .ok (.ldc2_w 163, 3) := by decide +kernel
theorem dX6_digest_21 : decode cX6_digest 21 = .ok (.lmul, 1) := by decide +kernel
theorem dX6_digest_22 : decode cX6_digest 22 = .ok (.aload_n 0, 1) := by decide +kernel
theorem dX6_digest_23 : decode cX6_digest 23 = .ok (.iload_n 3, 1) := by decide +kernel
theorem dX6_digest_24 : decode cX6_digest 24 = .ok (.invokevirtual 116, 3) := by decide +kernel
theorem dX6_digest_27 : decode cX6_digest 27 = .ok (.i2l, 1) := by decide +kernel
theorem dX6_digest_28 : decode cX6_digest 28 = .ok (.ladd, 1) := by decide +kernel
theorem dX6_digest_29 : decode cX6_digest 29 = .ok (.lstore_n 1, 1) := by decide +kernel
theorem dX6_digest_30 : decode cX6_digest 30 = .ok (.iinc 3 1, 3) := by decide +kernel
theorem dX6_digest_33 : decode cX6_digest 33 = .ok (.goto (-22), 3) := by decide +kernel
theorem dX6_digest_36 : decode cX6_digest 36 = .ok (.aload_n 0, 1) := by decide +kernel
theorem dX6_digest_37 : decode cX6_digest 37 = .ok (.getfield 7, 3) := by decide +kernel
theorem dX6_digest_40 : decode cX6_digest 40 = .ok (.astore_n 3, 1) := by decide +kernel
theorem dX6_digest_41 : decode cX6_digest 41 = .ok (.aload_n 3, 1) := by decide +kernel
theorem dX6_digest_42 : decode cX6_digest 42 = .ok (.arraylength, 1) := by decide +kernel
theorem dX6_digest_43 : decode cX6_digest 43 = .ok (.istore 4, 2) := by decide +kernel
theorem dX6_digest_45 : decode cX6_digest 45 = .ok (.iconst 0, 1) := by decide +kernel
theorem dX6_digest_46 : decode cX6_digest 46 = .ok (.istore 5, 2) := by decide +kernel
theorem dX6_digest_48 : decode cX6_digest 48 = .ok (.iload 5, 2) := by decide +kernel
theorem dX6_digest_50 : decode cX6_digest 50 = .ok (.iload 4, 2) := by decide +kernel
theorem dX6_digest_52 : decode cX6_digest 52 = .ok (.if_icmp .ge 25, 3) := by decide +kernel
theorem dX6_digest_55 : decode cX6_digest 55 = .ok (.aload_n 3, 1) := by decide +kernel
theorem dX6_digest_56 : decode cX6_digest 56 = .ok (.iload 5, 2) := by decide +kernel
theorem dX6_digest_58 : decode cX6_digest 58 = .ok (.iaload, 1) := by decide +kernel
theorem dX6_digest_59 : decode cX6_digest 59 = .ok (.istore 6, 2) := by decide +kernel
theorem dX6_digest_61 : decode cX6_digest 61 = .ok (.lload_n 1, 1) := by decide +kernel
theorem dX6_digest_62 : decode cX6_digest 62 = .ok (.ldc2_w 163, 3) := by decide +kernel
theorem dX6_digest_65 : decode cX6_digest 65 = .ok (.lmul, 1) := by decide +kernel
theorem dX6_digest_66 : decode cX6_digest 66 = .ok (.iload 6, 2) := by decide +kernel
theorem dX6_digest_68 : decode cX6_digest 68 = .ok (.i2l, 1) := by decide +kernel
theorem dX6_digest_69 : decode cX6_digest 69 = .ok (.ladd, 1) := by decide +kernel
theorem dX6_digest_70 : decode cX6_digest 70 = .ok (.lstore_n 1, 1) := by decide +kernel
theorem dX6_digest_71 : decode cX6_digest 71 = .ok (.iinc 5 1, 3) := by decide +kernel
theorem dX6_digest_74 : decode cX6_digest 74 = .ok (.goto (-26), 3) := by decide +kernel
theorem dX6_digest_77 : decode cX6_digest 77 = .ok (.iconst 0, 1) := by decide +kernel
theorem dX6_digest_78 : decode cX6_digest 78 = .ok (.istore_n 3, 1) := by decide +kernel
theorem dX6_digest_79 : decode cX6_digest 79 = .ok (.iload_n 3, 1) := by decide +kernel
theorem dX6_digest_80 : decode cX6_digest 80 = .ok (.aload_n 0, 1) := by decide +kernel
theorem dX6_digest_81 : decode cX6_digest 81 = .ok (.getfield 32, 3) := by decide +kernel
theorem dX6_digest_84 : decode cX6_digest 84 = .ok (.if_icmp .ge 40, 3) := by decide +kernel
theorem dX6_digest_87 : decode cX6_digest 87 = .ok (.iconst 0, 1) := by decide +kernel
theorem dX6_digest_88 : decode cX6_digest 88 = .ok (.istore 4, 2) := by decide +kernel
theorem dX6_digest_90 : decode cX6_digest 90 = .ok (.iload 4, 2) := by decide +kernel
theorem dX6_digest_92 : decode cX6_digest 92 = .ok (.bipush 6, 2) := by decide +kernel
theorem dX6_digest_94 : decode cX6_digest 94 = .ok (.if_icmp .ge 24, 3) := by decide +kernel
theorem dX6_digest_97 : decode cX6_digest 97 = .ok (.lload_n 1, 1) := by decide +kernel
theorem dX6_digest_98 : decode cX6_digest 98 = .ok (.ldc2_w 163, 3) := by decide +kernel
theorem dX6_digest_101 : decode cX6_digest 101 = .ok (.lmul, 1) := by decide +kernel
theorem dX6_digest_102 : decode cX6_digest 102 = .ok (.aload_n 0, 1) := by decide +kernel
theorem dX6_digest_103 : decode cX6_digest 103 = .ok (.iload_n 3, 1) := by decide +kernel
theorem dX6_digest_104 : decode cX6_digest 104 = .ok (.iload 4, 2) := by decide +kernel
theorem dX6_digest_106 : decode cX6_digest 106 = .ok (.invokevirtual 104, 3) := by decide +kernel
theorem dX6_digest_109 : decode cX6_digest 109 = .ok (.i2l, 1) := by decide +kernel
theorem dX6_digest_110 : decode cX6_digest 110 = .ok (.ladd, 1) := by decide +kernel
theorem dX6_digest_111 : decode cX6_digest 111 = .ok (.lstore_n 1, 1) := by decide +kernel
theorem dX6_digest_112 : decode cX6_digest 112 = .ok (.iinc 4 1, 3) := by decide +kernel
theorem dX6_digest_115 : decode cX6_digest 115 = .ok (.goto (-25), 3) := by decide +kernel
theorem dX6_digest_118 : decode cX6_digest 118 = .ok (.iinc 3 1, 3) := by decide +kernel
theorem dX6_digest_121 : decode cX6_digest 121 = .ok (.goto (-42), 3) := by decide +kernel
theorem dX6_digest_124 : decode cX6_digest 124 = .ok (.iconst 0, 1) := by decide +kernel
theorem dX6_digest_125 : decode cX6_digest 125 = .ok (.istore_n 3, 1) := by decide +kernel
theorem dX6_digest_126 : decode cX6_digest 126 = .ok (.iload_n 3, 1) := by decide +kernel
theorem dX6_digest_127 : decode cX6_digest 127 = .ok (.aload_n 0, 1) := by decide +kernel
theorem dX6_digest_128 : decode cX6_digest 128 = .ok (.getfield 39, 3) := by decide +kernel
theorem dX6_digest_131 : decode cX6_digest 131 = .ok (.if_icmp .ge 39, 3) := by decide +kernel
theorem dX6_digest_134 : decode cX6_digest 134 = .ok (.iconst 0, 1) := by decide +kernel
theorem dX6_digest_135 : decode cX6_digest 135 = .ok (.istore 4, 2) := by decide +kernel
theorem dX6_digest_137 : decode cX6_digest 137 = .ok (.iload 4, 2) := by decide +kernel
theorem dX6_digest_139 : decode cX6_digest 139 = .ok (.iconst 5, 1) := by decide +kernel
theorem dX6_digest_140 : decode cX6_digest 140 = .ok (.if_icmp .ge 24, 3) := by decide +kernel
theorem dX6_digest_143 : decode cX6_digest 143 = .ok (.lload_n 1, 1) := by decide +kernel
theorem dX6_digest_144 : decode cX6_digest 144 = .ok (.ldc2_w 163, 3) := by decide +kernel
theorem dX6_digest_147 : decode cX6_digest 147 = .ok (.lmul, 1) := by decide +kernel
theorem dX6_digest_148 : decode cX6_digest 148 = .ok (.aload_n 0, 1) := by decide +kernel
theorem dX6_digest_149 : decode cX6_digest 149 = .ok (.iload_n 3, 1) := by decide +kernel
theorem dX6_digest_150 : decode cX6_digest 150 = .ok (.iload 4, 2) := by decide +kernel
theorem dX6_digest_152 : decode cX6_digest 152 = .ok (.invokevirtual 107, 3) := by decide +kernel
theorem dX6_digest_155 : decode cX6_digest 155 = .ok (.i2l, 1) := by decide +kernel
theorem dX6_digest_156 : decode cX6_digest 156 = .ok (.ladd, 1) := by decide +kernel
theorem dX6_digest_157 : decode cX6_digest 157 = .ok (.lstore_n 1, 1) := by decide +kernel
theorem dX6_digest_158 : decode cX6_digest 158 = .ok (.iinc 4 1, 3) := by decide +kernel
theorem dX6_digest_161 : decode cX6_digest 161 = .ok (.goto (-24), 3) := by decide +kernel
theorem dX6_digest_164 : decode cX6_digest 164 = .ok (.iinc 3 1, 3) := by decide +kernel
theorem dX6_digest_167 : decode cX6_digest 167 = .ok (.goto (-41), 3) := by decide +kernel
theorem dX6_digest_170 : decode cX6_digest 170 = .ok (.iconst 0, 1) := by decide +kernel
theorem dX6_digest_171 : decode cX6_digest 171 = .ok (.istore_n 3, 1) := by decide +kernel
theorem dX6_digest_172 : decode cX6_digest 172 = .ok (.iload_n 3, 1) := by decide +kernel
theorem dX6_digest_173 : decode cX6_digest 173 = .ok (.aload_n 0, 1) := by decide +kernel
theorem dX6_digest_174 : decode cX6_digest 174 = .ok (.getfield 25, 3) := by decide +kernel
theorem dX6_digest_177 : decode cX6_digest 177 = .ok (.iconst 2, 1) := by decide +kernel
theorem dX6_digest_178 : decode cX6_digest 178 = .ok (.iaload, 1) := by decide +kernel
theorem dX6_digest_179 : decode cX6_digest 179 = .ok (.if_icmp .ge 40, 3) := by decide +kernel
theorem dX6_digest_182 : decode cX6_digest 182 = .ok (.iconst 0, 1) := by decide +kernel
theorem dX6_digest_183 : decode cX6_digest 183 = .ok (.istore 4, 2) := by decide +kernel
theorem dX6_digest_185 : decode cX6_digest 185 = .ok (.iload 4, 2) := by decide +kernel
theorem dX6_digest_187 : decode cX6_digest 187 = .ok (.bipush 6, 2) := by decide +kernel
theorem dX6_digest_189 : decode cX6_digest 189 = .ok (.if_icmp .ge 24, 3) := by decide +kernel
theorem dX6_digest_192 : decode cX6_digest 192 = .ok (.lload_n 1, 1) := by decide +kernel
theorem dX6_digest_193 : decode cX6_digest 193 = .ok (.ldc2_w 163, 3) := by decide +kernel
theorem dX6_digest_196 : decode cX6_digest 196 = .ok (.lmul, 1) := by decide +kernel
theorem dX6_digest_197 : decode cX6_digest 197 = .ok (.aload_n 0, 1) := by decide +kernel
theorem dX6_digest_198 : decode cX6_digest 198 = .ok (.iload_n 3, 1) := by decide +kernel
theorem dX6_digest_199 : decode cX6_digest 199 = .ok (.iload 4, 2) := by decide +kernel
theorem dX6_digest_201 : decode cX6_digest 201 = .ok (.invokevirtual 110, 3) := by decide +kernel
theorem dX6_digest_204 : decode cX6_digest 204 = .ok (.i2l, 1) := by decide +kernel
theorem dX6_digest_205 : decode cX6_digest 205 = .ok (.ladd, 1) := by decide +kernel
theorem dX6_digest_206 : decode cX6_digest 206 = .ok (.lstore_n 1, 1) := by decide +kernel
theorem dX6_digest_207 : decode cX6_digest 207 = .ok (.iinc 4 1, 3) := by decide +kernel
theorem dX6_digest_210 : decode cX6_digest 210 = .ok (.goto (-25), 3) := by decide +kernel
theorem dX6_digest_213 : decode cX6_digest 213 = .ok (.iinc 3 1, 3) := by decide +kernel
theorem dX6_digest_216 : decode cX6_digest 216 = .ok (.goto (-44), 3) := by decide +kernel
theorem dX6_digest_219 : decode cX6_digest 219 = .ok (.iconst 0, 1) := by decide +kernel
theorem dX6_digest_220 : decode cX6_digest 220 = .ok (.istore_n 3, 1) := by decide +kernel
theorem dX6_digest_221 : decode cX6_digest 221 = .ok (.iload_n 3, 1) := by decide +kernel
theorem dX6_digest_222 : decode cX6_digest 222 = .ok (.aload_n 0, 1) := by decide +kernel
theorem dX6_digest_223 : decode cX6_digest 223 = .ok (.getfield 42, 3) := by decide +kernel
theorem dX6_digest_226 : decode cX6_digest 226 = .ok (.if_icmp .ge 39, 3) := by decide +kernel
theorem dX6_digest_229 : decode cX6_digest 229 = .ok (.iconst 0, 1) := by decide +kernel
theorem dX6_digest_230 : decode cX6_digest 230 = .ok (.istore 4, 2) := by decide +kernel
theorem dX6_digest_232 : decode cX6_digest 232 = .ok (.iload 4, 2) := by decide +kernel
theorem dX6_digest_234 : decode cX6_digest 234 = .ok (.iconst 4, 1) := by decide +kernel
theorem dX6_digest_235 : decode cX6_digest 235 = .ok (.if_icmp .ge 24, 3) := by decide +kernel
theorem dX6_digest_238 : decode cX6_digest 238 = .ok (.lload_n 1, 1) := by decide +kernel
theorem dX6_digest_239 : decode cX6_digest 239 = .ok (.ldc2_w 163, 3) := by decide +kernel
theorem dX6_digest_242 : decode cX6_digest 242 = .ok (.lmul, 1) := by decide +kernel
theorem dX6_digest_243 : decode cX6_digest 243 = .ok (.aload_n 0, 1) := by decide +kernel
theorem dX6_digest_244 : decode cX6_digest 244 = .ok (.iload_n 3, 1) := by decide +kernel
theorem dX6_digest_245 : decode cX6_digest 245 = .ok (.iload 4, 2) := by decide +kernel
theorem dX6_digest_247 : decode cX6_digest 247 = .ok (.invokevirtual 113, 3) := by decide +kernel
theorem dX6_digest_250 : decode cX6_digest 250 = .ok (.i2l, 1) := by decide +kernel
theorem dX6_digest_251 : decode cX6_digest 251 = .ok (.ladd, 1) := by decide +kernel
theorem dX6_digest_252 : decode cX6_digest 252 = .ok (.lstore_n 1, 1) := by decide +kernel
theorem dX6_digest_253 : decode cX6_digest 253 = .ok (.iinc 4 1, 3) := by decide +kernel
theorem dX6_digest_256 : decode cX6_digest 256 = .ok (.goto (-24), 3) := by decide +kernel
theorem dX6_digest_259 : decode cX6_digest 259 = .ok (.iinc 3 1, 3) := by decide +kernel
theorem dX6_digest_262 : decode cX6_digest 262 = .ok (.goto (-41), 3) := by decide +kernel
theorem dX6_digest_265 : decode cX6_digest 265 = .ok (.lload_n 1, 1) := by decide +kernel
theorem dX6_digest_266 : decode cX6_digest 266 = .ok (.lreturn, 1) := by decide +kernel
theorem dJ9_floorMod_7cf53_0 : decode cJ9_floorMod_7cf53 0 = .ok (.iload_n 0, 1) := by decide +kernel
theorem dJ9_floorMod_7cf53_1 : decode cJ9_floorMod_7cf53 1 = .ok (.iload_n 1, 1) := by decide +kernel
theorem dJ9_floorMod_7cf53_2 : decode cJ9_floorMod_7cf53 2 = .ok (.irem, 1) := by decide +kernel
theorem dJ9_floorMod_7cf53_3 : decode cJ9_floorMod_7cf53 3 = .ok (.istore_n 2, 1) := by decide +kernel
theorem dJ9_floorMod_7cf53_4 : decode cJ9_floorMod_7cf53 4 = .ok (.iload_n 0, 1) := by decide +kernel
theorem dJ9_floorMod_7cf53_5 : decode cJ9_floorMod_7cf53 5 = .ok (.iload_n 1, 1) := by decide +kernel
theorem dJ9_floorMod_7cf53_6 : decode cJ9_floorMod_7cf53 6 = .ok (.ixor, 1) := by decide +kernel
theorem dJ9_floorMod_7cf53_7 : decode cJ9_floorMod_7cf53 7 = .ok (.ifCond .ge 11, 3) := by decide +kernel
theorem dJ9_floorMod_7cf53_10 : decode cJ9_floorMod_7cf53 10 = .ok (.iload_n 2, 1) := by decide +kernel
theorem dJ9_floorMod_7cf53_11 : decode cJ9_floorMod_7cf53 11 = .ok (.ifCond .eq 7, 3) := by decide +kernel
theorem dJ9_floorMod_7cf53_14 : decode cJ9_floorMod_7cf53 14 = .ok (.iload_n 2, 1) := by decide +kernel
theorem dJ9_floorMod_7cf53_15 : decode cJ9_floorMod_7cf53 15 = .ok (.iload_n 1, 1) := by decide +kernel
theorem dJ9_floorMod_7cf53_16 : decode cJ9_floorMod_7cf53 16 = .ok (.iadd, 1) := by decide +kernel
theorem dJ9_floorMod_7cf53_17 : decode cJ9_floorMod_7cf53 17 = .ok (.ireturn, 1) := by decide +kernel
theorem dJ9_floorMod_7cf53_18 : decode cJ9_floorMod_7cf53 18 = .ok (.iload_n 2, 1) := by decide +kernel
theorem dJ9_floorMod_7cf53_19 : decode cJ9_floorMod_7cf53 19 = .ok (.ireturn, 1) := by decide +kernel
theorem dJ9_max_7cf53_0 : decode cJ9_max_7cf53 0 = .ok (.iload_n 0, 1) := by decide +kernel
theorem dJ9_max_7cf53_1 : decode cJ9_max_7cf53 1 = .ok (.iload_n 1, 1) := by decide +kernel
theorem dJ9_max_7cf53_2 : decode cJ9_max_7cf53 2 = .ok (.if_icmp .lt 7, 3) := by decide +kernel
theorem dJ9_max_7cf53_5 : decode cJ9_max_7cf53 5 = .ok (.iload_n 0, 1) := by decide +kernel
theorem dJ9_max_7cf53_6 : decode cJ9_max_7cf53 6 = .ok (.goto 4, 3) := by decide +kernel
theorem dJ9_max_7cf53_9 : decode cJ9_max_7cf53 9 = .ok (.iload_n 1, 1) := by decide +kernel
theorem dJ9_max_7cf53_10 : decode cJ9_max_7cf53 10 = .ok (.ireturn, 1) := by decide +kernel
theorem dJ9_min_7cf53_0 : decode cJ9_min_7cf53 0 = .ok (.iload_n 0, 1) := by decide +kernel
theorem dJ9_min_7cf53_1 : decode cJ9_min_7cf53 1 = .ok (.iload_n 1, 1) := by decide +kernel
theorem dJ9_min_7cf53_2 : decode cJ9_min_7cf53 2 = .ok (.if_icmp .gt 7, 3) := by decide +kernel
theorem dJ9_min_7cf53_5 : decode cJ9_min_7cf53 5 = .ok (.iload_n 0, 1) := by decide +kernel
theorem dJ9_min_7cf53_6 : decode cJ9_min_7cf53 6 = .ok (.goto 4, 3) := by decide +kernel
theorem dJ9_min_7cf53_9 : decode cJ9_min_7cf53 9 = .ok (.iload_n 1, 1) := by decide +kernel
theorem dJ9_min_7cf53_10 : decode cJ9_min_7cf53 10 = .ok (.ireturn, 1) := by decide +kernel
theorem dJ7_fill_53178_0 : decode cJ7_fill_53178 0 = .ok (.iconst 0, 1) := by decide +kernel
theorem dJ7_fill_53178_1 : decode cJ7_fill_53178 1 = .ok (.istore_n 2, 1) := by decide +kernel
theorem dJ7_fill_53178_2 : decode cJ7_fill_53178 2 = .ok (.aload_n 0, 1) := by decide +kernel
theorem dJ7_fill_53178_3 : decode cJ7_fill_53178 3 = .ok (.arraylength, 1) := by decide +kernel
theorem dJ7_fill_53178_4 : decode cJ7_fill_53178 4 = .ok (.istore_n 3, 1) := by decide +kernel
theorem dJ7_fill_53178_5 : decode cJ7_fill_53178 5 = .ok (.iload_n 2, 1) := by decide +kernel
theorem dJ7_fill_53178_6 : decode cJ7_fill_53178 6 = .ok (.iload_n 3, 1) := by decide +kernel
theorem dJ7_fill_53178_7 : decode cJ7_fill_53178 7 = .ok (.if_icmp .ge 13, 3) := by decide +kernel
theorem dJ7_fill_53178_10 : decode cJ7_fill_53178 10 = .ok (.aload_n 0, 1) := by decide +kernel
theorem dJ7_fill_53178_11 : decode cJ7_fill_53178 11 = .ok (.iload_n 2, 1) := by decide +kernel
theorem dJ7_fill_53178_12 : decode cJ7_fill_53178 12 = .ok (.iload_n 1, 1) := by decide +kernel
theorem dJ7_fill_53178_13 : decode cJ7_fill_53178 13 = .ok (.iastore, 1) := by decide +kernel
theorem dJ7_fill_53178_14 : decode cJ7_fill_53178 14 = .ok (.iinc 2 1, 3) := by decide +kernel
theorem dJ7_fill_53178_17 : decode cJ7_fill_53178 17 = .ok (.goto (-12), 3) := by decide +kernel
theorem dJ7_fill_53178_20 : decode cJ7_fill_53178 20 = .ok (.return_, 1) := by decide +kernel
set_option maxRecDepth 20000 in
theorem ggL_setFall_X5_setFall : GoodIn wsL_setFall wsX5_setFall := goodIn_ca (goodIn_ca (goodIn_r _ [7, 8, 9, 10, 11, 12, 13, 14, 15, 6, 16, 17, 18, 19, 20, 21, 22, 23, 24, 25] (by decide +kernel) (by decide +kernel)) (goodIn_sub (fun _ h => List.mem_cons_of_mem _ (List.mem_append_left _ (List.mem_append_right _ h))) (by decide +kernel))) (goodIn_sub (fun _ h => List.mem_cons_of_mem _ (List.mem_append_right _ h)) (by decide +kernel))
set_option maxRecDepth 20000 in
theorem gL_setFall_X5_setFall : GoodIn wsL_setFall (wsV RL 7 RX5 yX5_setFall wsX5_setFall) := goodIn_app (goodIn_of _ (by decide +kernel)) ggL_setFall_X5_setFall
theorem dL_setFall_0 : decode cL_setFall 0 = .ok (.aload_n 3, 1) := by decide +kernel
theorem dL_setFall_1 : decode cL_setFall 1 = .ok (.iconst 0, 1) := by decide +kernel
theorem dL_setFall_2 : decode cL_setFall 2 = .ok (.aload_n 0, 1) := by decide +kernel
theorem dL_setFall_3 : decode cL_setFall 3 = .ok (.iload_n 1, 1) := by decide +kernel
theorem dL_setFall_4 : decode cL_setFall 4 = .ok (.iload_n 2, 1) := by decide +kernel
theorem dL_setFall_5 : decode cL_setFall 5 = .ok (.invokevirtual 7, 3) := by decide +kernel
theorem dL_setFall_8 : decode cL_setFall 8 = .ok (.i2l, 1) := by decide +kernel
theorem dL_setFall_9 : decode cL_setFall 9 = .ok (.lastore, 1) := by decide +kernel
theorem dL_setFall_10 : decode cL_setFall 10 = .ok (.goto 11, 3) := by decide +kernel
theorem dL_setFall_13 : decode cL_setFall 13 = .ok (.astore 4, 2) := by decide +kernel
theorem dL_setFall_15 : decode cL_setFall 15 = .ok (.iconst 1, 1) := by decide +kernel
theorem dL_setFall_16 : decode cL_setFall 16 = .ok (.ireturn, 1) := by decide +kernel
theorem dL_setFall_17 : decode cL_setFall 17 = .ok (.astore 4, 2) := by decide +kernel
theorem dL_setFall_19 : decode cL_setFall 19 = .ok (.iconst 2, 1) := by decide +kernel
theorem dL_setFall_20 : decode cL_setFall 20 = .ok (.ireturn, 1) := by decide +kernel
theorem dL_setFall_21 : decode cL_setFall 21 = .ok (.iconst 0, 1) := by decide +kernel
theorem dL_setFall_22 : decode cL_setFall 22 = .ok (.ireturn, 1) := by decide +kernel
set_option maxRecDepth 20000 in
theorem ggL_open_X5_open : GoodIn wsL_open wsX5_open := goodIn_ca (goodIn_ca (goodIn_r _ [7, 8, 9, 10, 11, 12, 13, 14, 15, 16, 6, 17, 18, 19, 20, 21, 22, 23, 24, 25, 26, 27, 28, 29, 30, 31, 32, 33, 34, 35, 36, 37, 38, 39, 40] (by decide +kernel) (by decide +kernel)) (goodIn_sub (fun _ h => List.mem_cons_of_mem _ (List.mem_append_left _ (List.mem_append_right _ h))) (by decide +kernel))) (goodIn_sub (fun _ h => List.mem_cons_of_mem _ (List.mem_append_right _ h)) (by decide +kernel))
set_option maxRecDepth 20000 in
theorem gL_open_X5_open : GoodIn wsL_open (wsV RL 17 RX5 yX5_open wsX5_open) := goodIn_app (goodIn_of _ (by decide +kernel)) ggL_open_X5_open
theorem dL_open_0 : decode cL_open 0 = .ok (.aload 4, 2) := by decide +kernel
theorem dL_open_2 : decode cL_open 2 = .ok (.iconst 0, 1) := by decide +kernel
theorem dL_open_3 : decode cL_open 3 = .ok (.aload_n 0, 1) := by decide +kernel
theorem dL_open_4 : decode cL_open 4 = .ok (.iload_n 1, 1) := by decide +kernel
theorem dL_open_5 : decode cL_open 5 = .ok (.iload_n 2, 1) := by decide +kernel
theorem dL_open_6 : decode cL_open 6 = .ok (.iload_n 3, 1) := by decide +kernel
theorem dL_open_7 : decode cL_open 7 = .ok (.invokevirtual 17, 3) := by decide +kernel
theorem dL_open_10 : decode cL_open 10 = .ok (.i2l, 1) := by decide +kernel
theorem dL_open_11 : decode cL_open 11 = .ok (.lastore, 1) := by decide +kernel
theorem dL_open_12 : decode cL_open 12 = .ok (.goto 11, 3) := by decide +kernel
theorem dL_open_15 : decode cL_open 15 = .ok (.astore 5, 2) := by decide +kernel
theorem dL_open_17 : decode cL_open 17 = .ok (.iconst 1, 1) := by decide +kernel
theorem dL_open_18 : decode cL_open 18 = .ok (.ireturn, 1) := by decide +kernel
theorem dL_open_19 : decode cL_open 19 = .ok (.astore 5, 2) := by decide +kernel
theorem dL_open_21 : decode cL_open 21 = .ok (.iconst 2, 1) := by decide +kernel
theorem dL_open_22 : decode cL_open 22 = .ok (.ireturn, 1) := by decide +kernel
theorem dL_open_23 : decode cL_open 23 = .ok (.iconst 0, 1) := by decide +kernel
theorem dL_open_24 : decode cL_open 24 = .ok (.ireturn, 1) := by decide +kernel
set_option maxRecDepth 20000 in
theorem ggL_hire_X5_hire : GoodIn wsL_hire wsX5_hire := goodIn_ca (goodIn_ca (goodIn_r _ [7, 8, 9, 10, 11, 12, 13, 14, 15, 16, 6, 17, 18, 19, 20, 21, 22, 23, 24, 25, 26, 27, 28, 29, 30, 31, 32, 33, 34, 35, 36, 37, 38, 39] (by decide +kernel) (by decide +kernel)) (goodIn_sub (fun _ h => List.mem_cons_of_mem _ (List.mem_append_left _ (List.mem_append_right _ h))) (by decide +kernel))) (goodIn_sub (fun _ h => List.mem_cons_of_mem _ (List.mem_append_right _ h)) (by decide +kernel))
set_option maxRecDepth 20000 in
theorem gL_hire_X5_hire : GoodIn wsL_hire (wsV RL 23 RX5 yX5_hire wsX5_hire) := goodIn_app (goodIn_of _ (by decide +kernel)) ggL_hire_X5_hire
theorem dL_hire_0 : decode cL_hire 0 = .ok (.aload_n 2, 1) := by decide +kernel
theorem dL_hire_1 : decode cL_hire 1 = .ok (.iconst 0, 1) := by decide +kernel
theorem dL_hire_2 : decode cL_hire 2 = .ok (.aload_n 0, 1) := by decide +kernel
theorem dL_hire_3 : decode cL_hire 3 = .ok (.iload_n 1, 1) := by decide +kernel
theorem dL_hire_4 : decode cL_hire 4 = .ok (.invokevirtual 23, 3) := by decide +kernel
theorem dL_hire_7 : decode cL_hire 7 = .ok (.i2l, 1) := by decide +kernel
theorem dL_hire_8 : decode cL_hire 8 = .ok (.lastore, 1) := by decide +kernel
theorem dL_hire_9 : decode cL_hire 9 = .ok (.goto 9, 3) := by decide +kernel
theorem dL_hire_12 : decode cL_hire 12 = .ok (.astore_n 3, 1) := by decide +kernel
theorem dL_hire_13 : decode cL_hire 13 = .ok (.iconst 1, 1) := by decide +kernel
theorem dL_hire_14 : decode cL_hire 14 = .ok (.ireturn, 1) := by decide +kernel
theorem dL_hire_15 : decode cL_hire 15 = .ok (.astore_n 3, 1) := by decide +kernel
theorem dL_hire_16 : decode cL_hire 16 = .ok (.iconst 2, 1) := by decide +kernel
theorem dL_hire_17 : decode cL_hire 17 = .ok (.ireturn, 1) := by decide +kernel
theorem dL_hire_18 : decode cL_hire 18 = .ok (.iconst 0, 1) := by decide +kernel
theorem dL_hire_19 : decode cL_hire 19 = .ok (.ireturn, 1) := by decide +kernel
set_option maxRecDepth 20000 in
theorem ggL_send_X5_send : GoodIn wsL_send wsX5_send := goodIn_ca (goodIn_r _ [6, 7, 8, 9, 10, 11, 12, 13, 14, 15, 16, 17, 18, 19, 20, 21, 22, 23, 24, 25, 26, 27, 28, 29, 30, 31, 32, 33, 34, 35, 36, 37, 38, 39, 40, 41, 42, 43] (by decide +kernel) (by decide +kernel)) (goodIn_sub (fun _ h => List.mem_cons_of_mem _ (List.mem_append_right _ h)) (by decide +kernel))
set_option maxRecDepth 20000 in
theorem gL_send_X5_send : GoodIn wsL_send (wsV RL 27 RX5 yX5_send wsX5_send) := goodIn_app (goodIn_of _ (by decide +kernel)) ggL_send_X5_send
theorem dL_send_0 : decode cL_send 0 = .ok (.aload_n 3, 1) := by decide +kernel
theorem dL_send_1 : decode cL_send 1 = .ok (.iconst 0, 1) := by decide +kernel
theorem dL_send_2 : decode cL_send 2 = .ok (.aload_n 0, 1) := by decide +kernel
theorem dL_send_3 : decode cL_send 3 = .ok (.iload_n 1, 1) := by decide +kernel
theorem dL_send_4 : decode cL_send 4 = .ok (.iload_n 2, 1) := by decide +kernel
theorem dL_send_5 : decode cL_send 5 = .ok (.invokevirtual 27, 3) := by decide +kernel
theorem dL_send_8 : decode cL_send 8 = .ok (.i2l, 1) := by decide +kernel
theorem dL_send_9 : decode cL_send 9 = .ok (.lastore, 1) := by decide +kernel
theorem dL_send_10 : decode cL_send 10 = .ok (.goto 7, 3) := by decide +kernel
theorem dL_send_13 : decode cL_send 13 = .ok (.astore 4, 2) := by decide +kernel
theorem dL_send_15 : decode cL_send 15 = .ok (.iconst 1, 1) := by decide +kernel
theorem dL_send_16 : decode cL_send 16 = .ok (.ireturn, 1) := by decide +kernel
theorem dL_send_17 : decode cL_send 17 = .ok (.iconst 0, 1) := by decide +kernel
theorem dL_send_18 : decode cL_send 18 = .ok (.ireturn, 1) := by decide +kernel
set_option maxRecDepth 20000 in
theorem ggL_ring_X5_ring : GoodIn wsL_ring wsX5_ring := goodIn_ca (goodIn_ca (goodIn_r _ [7, 8, 9, 10, 11, 12, 13, 14, 15, 16, 17, 18, 19, 20, 21, 22, 23, 24, 25, 26, 27, 28, 29, 30, 31, 32, 33, 34, 35, 36, 37, 38, 39, 40, 41, 42, 43] (by decide +kernel) (by decide +kernel)) (goodIn_sub (fun _ h => List.mem_cons_of_mem _ (List.mem_append_left _ (List.mem_append_right _ h))) (by decide +kernel))) (goodIn_sub (fun _ h => List.mem_cons_of_mem _ (List.mem_append_right _ h)) (by decide +kernel))
set_option maxRecDepth 20000 in
theorem gL_ring_X5_ring : GoodIn wsL_ring (wsV RL 30 RX5 yX5_ring wsX5_ring) := goodIn_app (goodIn_of _ (by decide +kernel)) ggL_ring_X5_ring
theorem dL_ring_0 : decode cL_ring 0 = .ok (.aload_n 2, 1) := by decide +kernel
theorem dL_ring_1 : decode cL_ring 1 = .ok (.iconst 0, 1) := by decide +kernel
theorem dL_ring_2 : decode cL_ring 2 = .ok (.aload_n 0, 1) := by decide +kernel
theorem dL_ring_3 : decode cL_ring 3 = .ok (.iload_n 1, 1) := by decide +kernel
theorem dL_ring_4 : decode cL_ring 4 = .ok (.invokevirtual 30, 3) := by decide +kernel
theorem dL_ring_7 : decode cL_ring 7 = .ok (.i2l, 1) := by decide +kernel
theorem dL_ring_8 : decode cL_ring 8 = .ok (.lastore, 1) := by decide +kernel
theorem dL_ring_9 : decode cL_ring 9 = .ok (.goto 9, 3) := by decide +kernel
theorem dL_ring_12 : decode cL_ring 12 = .ok (.astore_n 3, 1) := by decide +kernel
theorem dL_ring_13 : decode cL_ring 13 = .ok (.iconst 1, 1) := by decide +kernel
theorem dL_ring_14 : decode cL_ring 14 = .ok (.ireturn, 1) := by decide +kernel
theorem dL_ring_15 : decode cL_ring 15 = .ok (.astore_n 3, 1) := by decide +kernel
theorem dL_ring_16 : decode cL_ring 16 = .ok (.iconst 2, 1) := by decide +kernel
theorem dL_ring_17 : decode cL_ring 17 = .ok (.ireturn, 1) := by decide +kernel
theorem dL_ring_18 : decode cL_ring 18 = .ok (.iconst 0, 1) := by decide +kernel
theorem dL_ring_19 : decode cL_ring 19 = .ok (.ireturn, 1) := by decide +kernel
set_option maxRecDepth 20000 in
theorem ggL_smash_X5_smash : GoodIn wsL_smash wsX5_smash := goodIn_ca (goodIn_ca (goodIn_r _ [7, 8, 9, 10, 11, 12, 13, 14, 15, 16, 17, 18, 19, 20, 21, 22, 23, 24, 25, 26, 27, 28, 29, 30, 31, 32, 33, 34, 35, 36, 37, 38, 39, 40, 41, 42, 43, 44, 45, 46, 47, 48, 49, 50, 51, 52, 53, 54, 55, 56, 57, 58, 59] (by decide +kernel) (by decide +kernel)) (goodIn_sub (fun _ h => List.mem_cons_of_mem _ (List.mem_append_left _ (List.mem_append_right _ h))) (by decide +kernel))) (goodIn_sub (fun _ h => List.mem_cons_of_mem _ (List.mem_append_right _ h)) (by decide +kernel))
set_option maxRecDepth 20000 in
theorem gL_smash_X5_smash : GoodIn wsL_smash (wsV RL 33 RX5 yX5_smash wsX5_smash) := goodIn_app (goodIn_of _ (by decide +kernel)) ggL_smash_X5_smash
theorem dL_smash_0 : decode cL_smash 0 = .ok (.aload_n 2, 1) := by decide +kernel
theorem dL_smash_1 : decode cL_smash 1 = .ok (.iconst 0, 1) := by decide +kernel
theorem dL_smash_2 : decode cL_smash 2 = .ok (.aload_n 0, 1) := by decide +kernel
theorem dL_smash_3 : decode cL_smash 3 = .ok (.iload_n 1, 1) := by decide +kernel
theorem dL_smash_4 : decode cL_smash 4 = .ok (.invokevirtual 33, 3) := by decide +kernel
theorem dL_smash_7 : decode cL_smash 7 = .ok (.i2l, 1) := by decide +kernel
theorem dL_smash_8 : decode cL_smash 8 = .ok (.lastore, 1) := by decide +kernel
theorem dL_smash_9 : decode cL_smash 9 = .ok (.goto 9, 3) := by decide +kernel
theorem dL_smash_12 : decode cL_smash 12 = .ok (.astore_n 3, 1) := by decide +kernel
theorem dL_smash_13 : decode cL_smash 13 = .ok (.iconst 1, 1) := by decide +kernel
theorem dL_smash_14 : decode cL_smash 14 = .ok (.ireturn, 1) := by decide +kernel
theorem dL_smash_15 : decode cL_smash 15 = .ok (.astore_n 3, 1) := by decide +kernel
theorem dL_smash_16 : decode cL_smash 16 = .ok (.iconst 2, 1) := by decide +kernel
theorem dL_smash_17 : decode cL_smash 17 = .ok (.ireturn, 1) := by decide +kernel
theorem dL_smash_18 : decode cL_smash 18 = .ok (.iconst 0, 1) := by decide +kernel
theorem dL_smash_19 : decode cL_smash 19 = .ok (.ireturn, 1) := by decide +kernel
set_option maxRecDepth 20000 in
theorem ggL_build_X5_build : GoodIn wsL_build wsX5_build := goodIn_ca (goodIn_ca (goodIn_r _ [7, 8, 9, 10, 11, 12, 13, 14, 15, 6, 16, 17, 18, 19, 20, 21, 22, 23, 24, 25, 26, 27, 28, 29, 30] (by decide +kernel) (by decide +kernel)) (goodIn_sub (fun _ h => List.mem_cons_of_mem _ (List.mem_append_left _ (List.mem_append_right _ h))) (by decide +kernel))) (goodIn_sub (fun _ h => List.mem_cons_of_mem _ (List.mem_append_right _ h)) (by decide +kernel))
set_option maxRecDepth 20000 in
theorem gL_build_X5_build : GoodIn wsL_build (wsV RL 36 RX5 yX5_build wsX5_build) := goodIn_app (goodIn_of _ (by decide +kernel)) ggL_build_X5_build
theorem dL_build_0 : decode cL_build 0 = .ok (.aload_n 2, 1) := by decide +kernel
theorem dL_build_1 : decode cL_build 1 = .ok (.iconst 0, 1) := by decide +kernel
theorem dL_build_2 : decode cL_build 2 = .ok (.aload_n 0, 1) := by decide +kernel
theorem dL_build_3 : decode cL_build 3 = .ok (.iload_n 1, 1) := by decide +kernel
theorem dL_build_4 : decode cL_build 4 = .ok (.invokevirtual 36, 3) := by decide +kernel
theorem dL_build_7 : decode cL_build 7 = .ok (.i2l, 1) := by decide +kernel
theorem dL_build_8 : decode cL_build 8 = .ok (.lastore, 1) := by decide +kernel
theorem dL_build_9 : decode cL_build 9 = .ok (.goto 9, 3) := by decide +kernel
theorem dL_build_12 : decode cL_build 12 = .ok (.astore_n 3, 1) := by decide +kernel
theorem dL_build_13 : decode cL_build 13 = .ok (.iconst 1, 1) := by decide +kernel
theorem dL_build_14 : decode cL_build 14 = .ok (.ireturn, 1) := by decide +kernel
theorem dL_build_15 : decode cL_build 15 = .ok (.astore_n 3, 1) := by decide +kernel
theorem dL_build_16 : decode cL_build 16 = .ok (.iconst 2, 1) := by decide +kernel
theorem dL_build_17 : decode cL_build 17 = .ok (.ireturn, 1) := by decide +kernel
theorem dL_build_18 : decode cL_build 18 = .ok (.iconst 0, 1) := by decide +kernel
theorem dL_build_19 : decode cL_build 19 = .ok (.ireturn, 1) := by decide +kernel
set_option maxRecDepth 20000 in
theorem ggL_load_X5_load : GoodIn wsL_load wsX5_load := goodIn_ca (goodIn_ca (goodIn_r _ [7, 8, 9, 10, 11, 12, 13, 14, 15, 16, 17, 18, 19, 20, 21, 22, 23, 24, 25, 26, 27, 28, 29, 30, 31, 32, 33, 34, 35, 36, 37, 38, 39, 40, 41, 6, 42, 43, 44, 45, 46, 47, 48, 49, 50, 51, 52, 53, 54, 55, 56, 57, 58, 59, 60, 61, 62, 63, 64, 65, 66, 67, 68, 69, 70, 71, 72, 73] (by decide +kernel) (by decide +kernel)) (goodIn_sub (fun _ h => List.mem_cons_of_mem _ (List.mem_append_left _ (List.mem_append_right _ h))) (by decide +kernel))) (goodIn_sub (fun _ h => List.mem_cons_of_mem _ (List.mem_append_right _ h)) (by decide +kernel))
set_option maxRecDepth 20000 in
theorem gL_load_X5_load : GoodIn wsL_load (wsV RL 39 RX5 yX5_load wsX5_load) := goodIn_app (goodIn_of _ (by decide +kernel)) ggL_load_X5_load
theorem dL_load_0 : decode cL_load 0 = .ok (.aload_n 3, 1) := by decide +kernel
theorem dL_load_1 : decode cL_load 1 = .ok (.iconst 0, 1) := by decide +kernel
theorem dL_load_2 : decode cL_load 2 = .ok (.aload_n 0, 1) := by decide +kernel
theorem dL_load_3 : decode cL_load 3 = .ok (.iload_n 1, 1) := by decide +kernel
theorem dL_load_4 : decode cL_load 4 = .ok (.iload_n 2, 1) := by decide +kernel
theorem dL_load_5 : decode cL_load 5 = .ok (.invokevirtual 39, 3) := by decide +kernel
theorem dL_load_8 : decode cL_load 8 = .ok (.i2l, 1) := by decide +kernel
theorem dL_load_9 : decode cL_load 9 = .ok (.lastore, 1) := by decide +kernel
theorem dL_load_10 : decode cL_load 10 = .ok (.goto 11, 3) := by decide +kernel
theorem dL_load_13 : decode cL_load 13 = .ok (.astore 4, 2) := by decide +kernel
theorem dL_load_15 : decode cL_load 15 = .ok (.iconst 1, 1) := by decide +kernel
theorem dL_load_16 : decode cL_load 16 = .ok (.ireturn, 1) := by decide +kernel
theorem dL_load_17 : decode cL_load 17 = .ok (.astore 4, 2) := by decide +kernel
theorem dL_load_19 : decode cL_load 19 = .ok (.iconst 2, 1) := by decide +kernel
theorem dL_load_20 : decode cL_load 20 = .ok (.ireturn, 1) := by decide +kernel
theorem dL_load_21 : decode cL_load 21 = .ok (.iconst 0, 1) := by decide +kernel
theorem dL_load_22 : decode cL_load 22 = .ok (.ireturn, 1) := by decide +kernel
set_option maxRecDepth 20000 in
theorem ggL_ship_X5_ship : GoodIn wsL_ship wsX5_ship := goodIn_ca (goodIn_ca (goodIn_r _ [7, 8, 9, 10, 11, 12, 13, 14, 15, 16, 17, 18, 19, 20, 21, 22, 23, 24, 25, 26, 27, 28, 29, 30, 31, 32, 33, 34, 35, 36, 37, 38, 39, 40, 41, 42, 43, 44, 45, 46, 47, 48, 49, 50, 51, 52, 53, 54, 55, 56, 57, 58, 59, 60, 61, 62, 63, 64, 65, 66, 67, 68, 69, 70, 71, 72, 73, 74, 75, 76, 77, 78, 79, 80] (by decide +kernel) (by decide +kernel)) (goodIn_sub (fun _ h => List.mem_cons_of_mem _ (List.mem_append_left _ (List.mem_append_right _ h))) (by decide +kernel))) (goodIn_sub (fun _ h => List.mem_cons_of_mem _ (List.mem_append_right _ h)) (by decide +kernel))
set_option maxRecDepth 20000 in
theorem gL_ship_X5_ship : GoodIn wsL_ship (wsV RL 42 RX5 yX5_ship wsX5_ship) := goodIn_app (goodIn_of _ (by decide +kernel)) ggL_ship_X5_ship
theorem dL_ship_0 : decode cL_ship 0 = .ok (.aload_n 2, 1) := by decide +kernel
theorem dL_ship_1 : decode cL_ship 1 = .ok (.iconst 0, 1) := by decide +kernel
theorem dL_ship_2 : decode cL_ship 2 = .ok (.aload_n 0, 1) := by decide +kernel
theorem dL_ship_3 : decode cL_ship 3 = .ok (.iload_n 1, 1) := by decide +kernel
theorem dL_ship_4 : decode cL_ship 4 = .ok (.invokevirtual 42, 3) := by decide +kernel
theorem dL_ship_7 : decode cL_ship 7 = .ok (.i2l, 1) := by decide +kernel
theorem dL_ship_8 : decode cL_ship 8 = .ok (.lastore, 1) := by decide +kernel
theorem dL_ship_9 : decode cL_ship 9 = .ok (.goto 9, 3) := by decide +kernel
theorem dL_ship_12 : decode cL_ship 12 = .ok (.astore_n 3, 1) := by decide +kernel
theorem dL_ship_13 : decode cL_ship 13 = .ok (.iconst 1, 1) := by decide +kernel
theorem dL_ship_14 : decode cL_ship 14 = .ok (.ireturn, 1) := by decide +kernel
theorem dL_ship_15 : decode cL_ship 15 = .ok (.astore_n 3, 1) := by decide +kernel
theorem dL_ship_16 : decode cL_ship 16 = .ok (.iconst 2, 1) := by decide +kernel
theorem dL_ship_17 : decode cL_ship 17 = .ok (.ireturn, 1) := by decide +kernel
theorem dL_ship_18 : decode cL_ship 18 = .ok (.iconst 0, 1) := by decide +kernel
theorem dL_ship_19 : decode cL_ship 19 = .ok (.ireturn, 1) := by decide +kernel
set_option maxRecDepth 20000 in
theorem ggL_bed_X5_bed : GoodIn wsL_bed wsX5_bed := goodIn_ca (goodIn_r _ [6, 7, 8, 9, 10, 11, 12, 13, 14, 15, 16, 17, 18, 5, 19, 20, 21, 22, 23, 24, 25, 26, 27, 28, 29, 30, 31, 32, 33, 34, 35, 36, 37, 38, 39, 40, 41, 42, 43, 44, 45, 46, 47, 48, 49, 50, 51, 52, 53, 54, 55, 56, 57, 58, 59, 60, 61, 62, 63, 64, 65, 66, 67, 68, 69, 70, 71, 72] (by decide +kernel) (by decide +kernel)) (goodIn_sub (fun _ h => List.mem_cons_of_mem _ (List.mem_append_right _ h)) (by decide +kernel))
set_option maxRecDepth 20000 in
theorem gL_bed_X5_bed : GoodIn wsL_bed (wsV RL 45 RX5 yX5_bed wsX5_bed) := goodIn_app (goodIn_of _ (by decide +kernel)) ggL_bed_X5_bed
theorem dL_bed_0 : decode cL_bed 0 = .ok (.aload_n 3, 1) := by decide +kernel
theorem dL_bed_1 : decode cL_bed 1 = .ok (.iconst 0, 1) := by decide +kernel
theorem dL_bed_2 : decode cL_bed 2 = .ok (.aload_n 0, 1) := by decide +kernel
theorem dL_bed_3 : decode cL_bed 3 = .ok (.iload_n 1, 1) := by decide +kernel
theorem dL_bed_4 : decode cL_bed 4 = .ok (.iload_n 2, 1) := by decide +kernel
theorem dL_bed_5 : decode cL_bed 5 = .ok (.invokevirtual 45, 3) := by decide +kernel
theorem dL_bed_8 : decode cL_bed 8 = .ok (.i2l, 1) := by decide +kernel
theorem dL_bed_9 : decode cL_bed 9 = .ok (.lastore, 1) := by decide +kernel
theorem dL_bed_10 : decode cL_bed 10 = .ok (.goto 7, 3) := by decide +kernel
theorem dL_bed_13 : decode cL_bed 13 = .ok (.astore 4, 2) := by decide +kernel
theorem dL_bed_15 : decode cL_bed 15 = .ok (.iconst 1, 1) := by decide +kernel
theorem dL_bed_16 : decode cL_bed 16 = .ok (.ireturn, 1) := by decide +kernel
theorem dL_bed_17 : decode cL_bed 17 = .ok (.iconst 0, 1) := by decide +kernel
theorem dL_bed_18 : decode cL_bed 18 = .ok (.ireturn, 1) := by decide +kernel
set_option maxRecDepth 20000 in
theorem ggL_quarrier_X5_quarrier : GoodIn wsL_quarrier wsX5_quarrier := goodIn_ca (goodIn_r _ [6, 7, 8, 9, 10, 11, 12, 13, 14, 15, 16, 17, 18, 5, 19, 20, 21, 22, 23, 24, 25, 26, 27, 28, 29, 30, 31, 32, 33, 34, 35, 36, 37, 38, 39, 40, 41, 42, 43, 44, 45, 46, 47, 48, 49, 50, 51, 52, 53, 54, 55, 56, 57, 58, 59, 60, 61, 62, 63, 64] (by decide +kernel) (by decide +kernel)) (goodIn_sub (fun _ h => List.mem_cons_of_mem _ (List.mem_append_right _ h)) (by decide +kernel))
set_option maxRecDepth 20000 in
theorem gL_quarrier_X5_quarrier : GoodIn wsL_quarrier (wsV RL 48 RX5 yX5_quarrier wsX5_quarrier) := goodIn_app (goodIn_of _ (by decide +kernel)) ggL_quarrier_X5_quarrier
theorem dL_quarrier_0 : decode cL_quarrier 0 = .ok (.aload_n 3, 1) := by decide +kernel
theorem dL_quarrier_1 : decode cL_quarrier 1 = .ok (.iconst 0, 1) := by decide +kernel
theorem dL_quarrier_2 : decode cL_quarrier 2 = .ok (.aload_n 0, 1) := by decide +kernel
theorem dL_quarrier_3 : decode cL_quarrier 3 = .ok (.iload_n 1, 1) := by decide +kernel
theorem dL_quarrier_4 : decode cL_quarrier 4 = .ok (.iload_n 2, 1) := by decide +kernel
theorem dL_quarrier_5 : decode cL_quarrier 5 = .ok (.invokevirtual 48, 3) := by decide +kernel
theorem dL_quarrier_8 : decode cL_quarrier 8 = .ok (.i2l, 1) := by decide +kernel
theorem dL_quarrier_9 : decode cL_quarrier 9 = .ok (.lastore, 1) := by decide +kernel
theorem dL_quarrier_10 : decode cL_quarrier 10 = .ok (.goto 7, 3) := by decide +kernel
theorem dL_quarrier_13 : decode cL_quarrier 13 = .ok (.astore 4, 2) := by decide +kernel
theorem dL_quarrier_15 : decode cL_quarrier 15 = .ok (.iconst 1, 1) := by decide +kernel
theorem dL_quarrier_16 : decode cL_quarrier 16 = .ok (.ireturn, 1) := by decide +kernel
theorem dL_quarrier_17 : decode cL_quarrier 17 = .ok (.iconst 0, 1) := by decide +kernel
theorem dL_quarrier_18 : decode cL_quarrier 18 = .ok (.ireturn, 1) := by decide +kernel
set_option maxRecDepth 20000 in
theorem ggL_wheel_X5_wheel : GoodIn wsL_wheel wsX5_wheel := goodIn_ca (goodIn_r _ [6, 7, 8, 9, 10, 11, 12, 13, 14, 15, 16, 17, 18, 5, 19, 20, 21, 22, 23, 24, 25, 26, 27, 28, 29, 30, 31, 32, 33, 34, 35, 36, 37, 38, 39, 40, 41, 42, 43, 44, 45, 46, 47, 48, 49, 50, 51, 52, 53] (by decide +kernel) (by decide +kernel)) (goodIn_sub (fun _ h => List.mem_cons_of_mem _ (List.mem_append_right _ h)) (by decide +kernel))
set_option maxRecDepth 20000 in
theorem gL_wheel_X5_wheel : GoodIn wsL_wheel (wsV RL 51 RX5 yX5_wheel wsX5_wheel) := goodIn_app (goodIn_of _ (by decide +kernel)) ggL_wheel_X5_wheel
theorem dL_wheel_0 : decode cL_wheel 0 = .ok (.aload_n 3, 1) := by decide +kernel
theorem dL_wheel_1 : decode cL_wheel 1 = .ok (.iconst 0, 1) := by decide +kernel
theorem dL_wheel_2 : decode cL_wheel 2 = .ok (.aload_n 0, 1) := by decide +kernel
theorem dL_wheel_3 : decode cL_wheel 3 = .ok (.iload_n 1, 1) := by decide +kernel
theorem dL_wheel_4 : decode cL_wheel 4 = .ok (.iload_n 2, 1) := by decide +kernel
theorem dL_wheel_5 : decode cL_wheel 5 = .ok (.invokevirtual 51, 3) := by decide +kernel
theorem dL_wheel_8 : decode cL_wheel 8 = .ok (.i2l, 1) := by decide +kernel
theorem dL_wheel_9 : decode cL_wheel 9 = .ok (.lastore, 1) := by decide +kernel
theorem dL_wheel_10 : decode cL_wheel 10 = .ok (.goto 7, 3) := by decide +kernel
theorem dL_wheel_13 : decode cL_wheel 13 = .ok (.astore 4, 2) := by decide +kernel
theorem dL_wheel_15 : decode cL_wheel 15 = .ok (.iconst 1, 1) := by decide +kernel
theorem dL_wheel_16 : decode cL_wheel 16 = .ok (.ireturn, 1) := by decide +kernel
theorem dL_wheel_17 : decode cL_wheel 17 = .ok (.iconst 0, 1) := by decide +kernel
theorem dL_wheel_18 : decode cL_wheel 18 = .ok (.ireturn, 1) := by decide +kernel
set_option maxRecDepth 20000 in
theorem ggL_raft_X5_raft : GoodIn wsL_raft wsX5_raft := goodIn_ca (goodIn_r _ [6, 7, 8, 9, 10, 11, 12, 13, 14, 15, 16, 17, 5, 18, 19, 20, 21, 22, 23, 24, 25, 26, 27, 28, 29, 30, 31, 32, 33, 34, 35, 36, 37, 38, 39, 40, 41, 42, 43, 44, 45, 46, 47, 48, 49, 50, 51, 52, 53, 54, 55, 56, 57, 58, 59, 60, 61, 62, 63, 64, 65, 66, 67, 68, 69, 70] (by decide +kernel) (by decide +kernel)) (goodIn_sub (fun _ h => List.mem_cons_of_mem _ (List.mem_append_right _ h)) (by decide +kernel))
set_option maxRecDepth 20000 in
theorem gL_raft_X5_raft : GoodIn wsL_raft (wsV RL 54 RX5 yX5_raft wsX5_raft) := goodIn_app (goodIn_of _ (by decide +kernel)) ggL_raft_X5_raft
theorem dL_raft_0 : decode cL_raft 0 = .ok (.aload_n 3, 1) := by decide +kernel
theorem dL_raft_1 : decode cL_raft 1 = .ok (.iconst 0, 1) := by decide +kernel
theorem dL_raft_2 : decode cL_raft 2 = .ok (.aload_n 0, 1) := by decide +kernel
theorem dL_raft_3 : decode cL_raft 3 = .ok (.iload_n 1, 1) := by decide +kernel
theorem dL_raft_4 : decode cL_raft 4 = .ok (.iload_n 2, 1) := by decide +kernel
theorem dL_raft_5 : decode cL_raft 5 = .ok (.invokevirtual 54, 3) := by decide +kernel
theorem dL_raft_8 : decode cL_raft 8 = .ok (.i2l, 1) := by decide +kernel
theorem dL_raft_9 : decode cL_raft 9 = .ok (.lastore, 1) := by decide +kernel
theorem dL_raft_10 : decode cL_raft 10 = .ok (.goto 7, 3) := by decide +kernel
theorem dL_raft_13 : decode cL_raft 13 = .ok (.astore 4, 2) := by decide +kernel
theorem dL_raft_15 : decode cL_raft 15 = .ok (.iconst 1, 1) := by decide +kernel
theorem dL_raft_16 : decode cL_raft 16 = .ok (.ireturn, 1) := by decide +kernel
theorem dL_raft_17 : decode cL_raft 17 = .ok (.iconst 0, 1) := by decide +kernel
theorem dL_raft_18 : decode cL_raft 18 = .ok (.ireturn, 1) := by decide +kernel
set_option maxRecDepth 20000 in
theorem ggL_count_X5_count : GoodIn wsL_count wsX5_count := goodIn_ca (goodIn_r _ [6, 7, 8, 9, 10, 5, 11, 12, 13, 14, 15, 16, 17, 18, 19, 20, 21, 22, 23, 24, 25, 26, 27, 28, 29, 30, 31, 32, 33, 34, 35, 36, 37, 38, 39, 40, 41, 42, 43, 44, 45, 46, 47, 48, 49, 50, 51, 52, 53, 54, 55, 56, 57, 58, 59, 60, 61, 62, 63, 64, 65, 66, 67, 68, 69, 70, 71, 72, 73, 74] (by decide +kernel) (by decide +kernel)) (goodIn_sub (fun _ h => List.mem_cons_of_mem _ (List.mem_append_right _ h)) (by decide +kernel))
set_option maxRecDepth 20000 in
theorem gL_count_X5_count : GoodIn wsL_count (wsV RL 57 RX5 yX5_count wsX5_count) := goodIn_app (goodIn_of _ (by decide +kernel)) ggL_count_X5_count
theorem dL_count_0 : decode cL_count 0 = .ok (.aload_n 2, 1) := by decide +kernel
theorem dL_count_1 : decode cL_count 1 = .ok (.iconst 0, 1) := by decide +kernel
theorem dL_count_2 : decode cL_count 2 = .ok (.aload_n 0, 1) := by decide +kernel
theorem dL_count_3 : decode cL_count 3 = .ok (.iload_n 1, 1) := by decide +kernel
theorem dL_count_4 : decode cL_count 4 = .ok (.invokevirtual 57, 3) := by decide +kernel
theorem dL_count_7 : decode cL_count 7 = .ok (.i2l, 1) := by decide +kernel
theorem dL_count_8 : decode cL_count 8 = .ok (.lastore, 1) := by decide +kernel
theorem dL_count_9 : decode cL_count 9 = .ok (.goto 6, 3) := by decide +kernel
theorem dL_count_12 : decode cL_count 12 = .ok (.astore_n 3, 1) := by decide +kernel
theorem dL_count_13 : decode cL_count 13 = .ok (.iconst 1, 1) := by decide +kernel
theorem dL_count_14 : decode cL_count 14 = .ok (.ireturn, 1) := by decide +kernel
theorem dL_count_15 : decode cL_count 15 = .ok (.iconst 0, 1) := by decide +kernel
theorem dL_count_16 : decode cL_count 16 = .ok (.ireturn, 1) := by decide +kernel
set_option maxRecDepth 20000 in
theorem ggL_pass_X5_pass : GoodIn wsL_pass wsX5_pass := goodIn_ca (goodIn_r _ [6, 7, 8, 9, 10, 11, 12, 13, 5, 14, 15, 16, 17, 18, 19, 20, 21, 22, 23, 24, 25, 26, 27, 28, 29, 30, 31, 32, 33, 34, 35, 36, 37, 38, 39, 40, 41, 42, 43, 44, 45, 46, 47, 48, 49, 50, 51, 52, 53, 54, 55, 56, 57, 58, 59, 60, 61, 62, 63, 64, 65, 66, 67, 68, 69, 70, 71, 72, 73, 74, 75, 76, 77, 78, 79, 80, 81, 82, 83, 84, 85, 86, 87, 88, 89, 90, 91, 92, 93, 94, 95, 96, 97, 98, 99, 100, 101, 102, 103, 104, 105, 106, 107, 108, 109, 110, 111, 112, 113, 114, 115, 116, 117, 118, 119, 120, 121, 122, 123, 124, 125, 126, 127, 128, 129, 130, 131, 132, 133, 134, 135, 136, 137, 138, 139, 140, 141] (by decide +kernel) (by decide +kernel)) (goodIn_sub (fun _ h => List.mem_cons_of_mem _ (List.mem_append_right _ h)) (by decide +kernel))
set_option maxRecDepth 20000 in
theorem gL_pass_X5_pass : GoodIn wsL_pass (wsV RL 60 RX5 yX5_pass wsX5_pass) := goodIn_app (goodIn_of _ (by decide +kernel)) ggL_pass_X5_pass
theorem dL_pass_0 : decode cL_pass 0 = .ok (.aload_n 2, 1) := by decide +kernel
theorem dL_pass_1 : decode cL_pass 1 = .ok (.iconst 0, 1) := by decide +kernel
theorem dL_pass_2 : decode cL_pass 2 = .ok (.aload_n 0, 1) := by decide +kernel
theorem dL_pass_3 : decode cL_pass 3 = .ok (.iload_n 1, 1) := by decide +kernel
theorem dL_pass_4 : decode cL_pass 4 = .ok (.invokevirtual 60, 3) := by decide +kernel
theorem dL_pass_7 : decode cL_pass 7 = .ok (.i2l, 1) := by decide +kernel
theorem dL_pass_8 : decode cL_pass 8 = .ok (.lastore, 1) := by decide +kernel
theorem dL_pass_9 : decode cL_pass 9 = .ok (.goto 6, 3) := by decide +kernel
theorem dL_pass_12 : decode cL_pass 12 = .ok (.astore_n 3, 1) := by decide +kernel
theorem dL_pass_13 : decode cL_pass 13 = .ok (.iconst 1, 1) := by decide +kernel
theorem dL_pass_14 : decode cL_pass 14 = .ok (.ireturn, 1) := by decide +kernel
theorem dL_pass_15 : decode cL_pass 15 = .ok (.iconst 0, 1) := by decide +kernel
theorem dL_pass_16 : decode cL_pass 16 = .ok (.ireturn, 1) := by decide +kernel
set_option maxRecDepth 20000 in
theorem ggL_foresee_X5_foresee : GoodIn wsL_foresee wsX5_foresee := goodIn_ca (goodIn_ca (goodIn_r _ [7, 8, 9, 10, 11, 12, 13, 14, 15, 6, 16, 17, 18, 19, 20, 21, 22, 23, 24, 25, 26, 27, 28, 29, 30, 31, 32, 33, 34, 35, 36, 37, 38, 39, 40, 41, 42, 43, 44, 45, 46, 47, 48, 49, 50, 51, 52, 53, 54, 55, 56, 57, 58, 59, 60, 61, 62, 63, 64, 65, 66, 67, 68, 69, 70, 71, 72, 73, 74, 75, 76, 77, 78, 79, 80, 81, 82, 83, 84, 85, 86, 87, 88, 89, 90, 91, 92, 93, 94, 95, 96, 97, 98, 99, 100, 101, 102, 103, 104, 105, 106, 107, 108, 109, 110, 111, 112, 113, 114, 115, 116, 117, 118, 119, 120, 121, 122, 123, 124, 125, 126, 127, 128, 129, 130, 131, 132, 133, 134, 135, 136, 137, 138, 139, 140, 141, 142, 143, 144, 145, 146, 147, 148, 149, 150, 151, 152, 153, 154, 155, 156, 157, 158, 159, 160, 161, 162, 163, 164, 165, 166, 167, 168, 169, 170, 171, 172, 173, 174] (by decide +kernel) (by decide +kernel)) (goodIn_sub (fun _ h => List.mem_cons_of_mem _ (List.mem_append_left _ (List.mem_append_right _ h))) (by decide +kernel))) (goodIn_sub (fun _ h => List.mem_cons_of_mem _ (List.mem_append_right _ h)) (by decide +kernel))
set_option maxRecDepth 20000 in
theorem gL_foresee_X5_foresee : GoodIn wsL_foresee (wsV RL 63 RX5 yX5_foresee wsX5_foresee) := goodIn_app (goodIn_of _ (by decide +kernel)) ggL_foresee_X5_foresee
theorem dL_foresee_0 : decode cL_foresee 0 = .ok (.aload_n 3, 1) := by decide +kernel
theorem dL_foresee_1 : decode cL_foresee 1 = .ok (.iconst 0, 1) := by decide +kernel
theorem dL_foresee_2 : decode cL_foresee 2 = .ok (.aload_n 0, 1) := by decide +kernel
theorem dL_foresee_3 : decode cL_foresee 3 = .ok (.iload_n 1, 1) := by decide +kernel
theorem dL_foresee_4 : decode cL_foresee 4 = .ok (.iload_n 2, 1) := by decide +kernel
theorem dL_foresee_5 : decode cL_foresee 5 = .ok (.invokevirtual 63, 3) := by decide +kernel
theorem dL_foresee_8 : decode cL_foresee 8 = .ok (.i2l, 1) := by decide +kernel
theorem dL_foresee_9 : decode cL_foresee 9 = .ok (.lastore, 1) := by decide +kernel
theorem dL_foresee_10 : decode cL_foresee 10 = .ok (.goto 11, 3) := by decide +kernel
theorem dL_foresee_13 : decode cL_foresee 13 = .ok (.astore 4, 2) := by decide +kernel
theorem dL_foresee_15 : decode cL_foresee 15 = .ok (.iconst 1, 1) := by decide +kernel
theorem dL_foresee_16 : decode cL_foresee 16 = .ok (.ireturn, 1) := by decide +kernel
theorem dL_foresee_17 : decode cL_foresee 17 = .ok (.astore 4, 2) := by decide +kernel
theorem dL_foresee_19 : decode cL_foresee 19 = .ok (.iconst 2, 1) := by decide +kernel
theorem dL_foresee_20 : decode cL_foresee 20 = .ok (.ireturn, 1) := by decide +kernel
theorem dL_foresee_21 : decode cL_foresee 21 = .ok (.iconst 0, 1) := by decide +kernel
theorem dL_foresee_22 : decode cL_foresee 22 = .ok (.ireturn, 1) := by decide +kernel
set_option maxRecDepth 20000 in
theorem ggL_advise_X5_advise : GoodIn wsL_advise wsX5_advise := goodIn_ca (goodIn_ca (goodIn_r _ [7, 8, 9, 10, 11, 12, 13, 14, 15, 16, 17, 18, 19, 20, 21, 22, 23, 6, 24, 25, 26, 27, 28, 29, 30, 31, 32, 33, 34, 35, 36, 37, 38, 39, 40, 41, 42, 43, 44, 45, 46, 47, 48, 49, 50, 51, 52, 53, 54, 55, 56, 57, 58, 59, 60, 61, 62, 63, 64, 65, 66, 67, 68, 69, 70, 71, 72, 73, 74, 75, 76, 77, 78, 79, 80, 81, 82, 83, 84, 85, 86, 87, 88, 89, 90, 91, 92, 93, 94, 95, 96, 97, 98, 99, 100, 101, 102, 103, 104, 105, 106, 107, 108, 109, 110, 111, 112, 113, 114, 115, 116, 117, 118, 119, 120, 121, 122, 123, 124, 125, 126, 127, 128, 129, 130, 131, 132, 133, 134, 135, 136, 137, 138, 139, 140, 141, 142, 143, 144, 145, 146, 147, 148, 149, 150, 151, 152, 153, 154, 155, 156, 157, 158, 159, 160, 161, 162, 163, 164, 165, 166, 167, 168, 169, 170, 171, 172, 173, 174, 175, 176, 177, 178, 179, 180, 181, 182, 183] (by decide +kernel) (by decide +kernel)) (goodIn_sub (fun _ h => List.mem_cons_of_mem _ (List.mem_append_left _ (List.mem_append_right _ h))) (by decide +kernel))) (goodIn_sub (fun _ h => List.mem_cons_of_mem _ (List.mem_append_right _ h)) (by decide +kernel))
set_option maxRecDepth 20000 in
theorem gL_advise_X5_advise : GoodIn wsL_advise (wsV RL 66 RX5 yX5_advise wsX5_advise) := goodIn_app (goodIn_of _ (by decide +kernel)) ggL_advise_X5_advise
theorem dL_advise_0 : decode cL_advise 0 = .ok (.aload_n 3, 1) := by decide +kernel
theorem dL_advise_1 : decode cL_advise 1 = .ok (.iconst 0, 1) := by decide +kernel
theorem dL_advise_2 : decode cL_advise 2 = .ok (.aload_n 0, 1) := by decide +kernel
theorem dL_advise_3 : decode cL_advise 3 = .ok (.iload_n 1, 1) := by decide +kernel
theorem dL_advise_4 : decode cL_advise 4 = .ok (.iload_n 2, 1) := by decide +kernel
theorem dL_advise_5 : decode cL_advise 5 = .ok (.invokevirtual 66, 3) := by decide +kernel
theorem dL_advise_8 : decode cL_advise 8 = .ok (.i2l, 1) := by decide +kernel
theorem dL_advise_9 : decode cL_advise 9 = .ok (.lastore, 1) := by decide +kernel
theorem dL_advise_10 : decode cL_advise 10 = .ok (.goto 11, 3) := by decide +kernel
theorem dL_advise_13 : decode cL_advise 13 = .ok (.astore 4, 2) := by decide +kernel
theorem dL_advise_15 : decode cL_advise 15 = .ok (.iconst 1, 1) := by decide +kernel
theorem dL_advise_16 : decode cL_advise 16 = .ok (.ireturn, 1) := by decide +kernel
theorem dL_advise_17 : decode cL_advise 17 = .ok (.astore 4, 2) := by decide +kernel
theorem dL_advise_19 : decode cL_advise 19 = .ok (.iconst 2, 1) := by decide +kernel
theorem dL_advise_20 : decode cL_advise 20 = .ok (.ireturn, 1) := by decide +kernel
theorem dL_advise_21 : decode cL_advise 21 = .ok (.iconst 0, 1) := by decide +kernel
theorem dL_advise_22 : decode cL_advise 22 = .ok (.ireturn, 1) := by decide +kernel
set_option maxRecDepth 20000 in
theorem ggL_law_X5_init : GoodIn wsL_law wsX5_init := goodIn_r _ [9, 10, 11, 12, 13, 14, 15, 16, 17, 18, 19, 20, 21, 22, 23, 24, 25, 26, 27, 28, 29, 30, 31, 32, 33, 34, 35, 36, 37, 38, 39, 40, 41, 42, 43, 44, 45, 46, 47, 48, 49, 50, 51, 52, 53, 54, 55, 56, 57, 58, 59, 60, 61, 62, 63, 64, 65, 66, 67, 68, 69, 70, 71, 72, 73, 74, 75, 76, 707, 708, 709, 710, 711, 693, 694, 695, 696, 712, 713, 714, 715, 716, 717, 718, 719, 720, 721, 722, 723, 724, 725, 726, 727, 728, 729, 730, 731] (by decide +kernel) (by decide +kernel)
set_option maxRecDepth 20000 in
theorem gL_law_X5_init : GoodIn wsL_law (wsX5_init) := ggL_law_X5_init
set_option maxRecDepth 20000 in
theorem ggL_law_X6_init : GoodIn wsL_law wsX6_init := goodIn_r _ [79, 80, 11, 12, 26, 81, 82, 83, 84, 85, 86, 697, 698, 699, 700, 701, 702, 703, 704, 705, 706] (by decide +kernel) (by decide +kernel)
set_option maxRecDepth 20000 in
theorem gL_law_X6_init : GoodIn wsL_law (wsX6_init) := ggL_law_X6_init
set_option maxRecDepth 20000 in
theorem ggL_law_L_setFall : GoodIn wsL_law wsL_setFall := goodIn_ca (goodIn_ca (goodIn_r _ [90, 91, 92, 93, 94, 95, 2, 96, 97, 98, 99, 100, 16, 101, 102, 103, 104, 693, 694, 695, 696, 707, 708, 709, 710, 711] (by decide +kernel) (by decide +kernel)) (goodIn_sub (fun _ h => List.mem_append_left _ (List.mem_append_left _ (List.mem_append_right _ h))) (by decide +kernel))) (goodIn_sub (fun _ h => List.mem_append_left _ (List.mem_append_right _ h)) (by decide +kernel))
set_option maxRecDepth 20000 in
theorem gL_law_L_setFall : GoodIn wsL_law (va_wsS RL 73 yL_setFall wsL_setFall) := goodIn_app (goodIn_of _ (by decide +kernel)) ggL_law_L_setFall
set_option maxRecDepth 20000 in
theorem ggL_law_X6_setFall : GoodIn wsL_law wsX6_setFall := goodIn_r _ [108, 109, 81, 110, 111, 5, 112, 113, 114, 115, 116, 697, 698, 699, 700, 701, 702, 703, 704, 705, 706] (by decide +kernel) (by decide +kernel)
set_option maxRecDepth 20000 in
theorem gL_law_X6_setFall : GoodIn wsL_law (wsV RL 78 RX6 yX6_setFall wsX6_setFall) := goodIn_app (goodIn_of _ (by decide +kernel)) ggL_law_X6_setFall
set_option maxRecDepth 20000 in
theorem ggL_law_X6_thrown : GoodIn wsL_law wsX6_thrown := goodIn_r _ [120, 109, 697, 698, 699, 700, 701, 702, 703, 704, 705, 706] (by decide +kernel) (by decide +kernel)
set_option maxRecDepth 20000 in
theorem gL_law_X6_thrown : GoodIn wsL_law (wsV RL 79 RX6 yX6_thrown wsX6_thrown) := goodIn_app (goodIn_of _ (by decide +kernel)) ggL_law_X6_thrown
set_option maxRecDepth 20000 in
theorem ggL_law_L_open : GoodIn wsL_law wsL_open := goodIn_ca (goodIn_ca (goodIn_r _ [123, 92, 124, 125, 126, 127, 2, 128, 99, 100, 129, 130, 16, 131, 132, 102, 103, 104, 133, 134, 135, 30, 136, 137, 48, 49, 50, 693, 694, 695, 696, 707, 708, 709, 710, 711, 715, 716, 717, 718, 719] (by decide +kernel) (by decide +kernel)) (goodIn_sub (fun _ h => List.mem_append_left _ (List.mem_append_right _ h)) (by decide +kernel))) (goodIn_sub (fun _ h => List.mem_append_right _ h) (by decide +kernel))
set_option maxRecDepth 20000 in
theorem gL_law_L_open : GoodIn wsL_law (va_wsS RL 83 yL_open wsL_open) := goodIn_app (goodIn_of _ (by decide +kernel)) ggL_law_L_open
set_option maxRecDepth 20000 in
theorem ggL_law_X6_open : GoodIn wsL_law wsX6_open := goodIn_r _ [141, 109, 142, 82, 110, 111, 5, 112, 113, 114, 115, 116, 697, 698, 699, 700, 701, 702, 703, 704, 705, 706] (by decide +kernel) (by decide +kernel)
set_option maxRecDepth 20000 in
theorem gL_law_X6_open : GoodIn wsL_law (wsV RL 86 RX6 yX6_open wsX6_open) := goodIn_app (goodIn_of _ (by decide +kernel)) ggL_law_X6_open
set_option maxRecDepth 20000 in
theorem ggL_law_L_hire : GoodIn wsL_law wsL_hire := goodIn_ca (goodIn_ca (goodIn_r _ [145, 92, 124, 146, 147, 148, 2, 149, 99, 100, 129, 130, 16, 150, 151, 102, 103, 104, 152, 153, 154, 34, 155, 156, 56, 57, 693, 694, 695, 696, 707, 708, 709, 710, 711, 720, 721, 722, 723, 724] (by decide +kernel) (by decide +kernel)) (goodIn_sub (fun _ h => List.mem_append_left _ (List.mem_append_right _ h)) (by decide +kernel))) (goodIn_sub (fun _ h => List.mem_append_right _ h) (by decide +kernel))
set_option maxRecDepth 20000 in
theorem gL_law_L_hire : GoodIn wsL_law (va_wsS RL 87 yL_hire wsL_hire) := goodIn_app (goodIn_of _ (by decide +kernel)) ggL_law_L_hire
set_option maxRecDepth 20000 in
theorem ggL_law_X6_hire : GoodIn wsL_law wsX6_hire := goodIn_r _ [160, 109, 161, 110, 111, 5, 112, 113, 114, 115, 116, 162, 163, 164, 165, 83, 697, 698, 699, 700, 701, 702, 703, 704, 705, 706] (by decide +kernel) (by decide +kernel)
set_option maxRecDepth 20000 in
theorem gL_law_X6_hire : GoodIn wsL_law (wsV RL 90 RX6 yX6_hire wsX6_hire) := goodIn_app (goodIn_of _ (by decide +kernel)) ggL_law_X6_hire
set_option maxRecDepth 20000 in
theorem ggL_law_L_send : GoodIn wsL_law wsL_send := goodIn_ca (goodIn_r _ [168, 91, 169, 170, 171, 2, 172, 97, 98, 16, 150, 131, 173, 174, 175, 176, 34, 177, 156, 178, 179, 180, 30, 181, 137, 693, 694, 695, 696, 707, 708, 709, 710, 711, 720, 721, 722, 723, 724, 715, 716, 717, 718, 719] (by decide +kernel) (by decide +kernel)) (goodIn_sub (fun _ h => List.mem_append_left _ (List.mem_append_left _ (List.mem_append_right _ h))) (by decide +kernel))
set_option maxRecDepth 20000 in
theorem gL_law_L_send : GoodIn wsL_law (va_wsS RL 91 yL_send wsL_send) := goodIn_app (goodIn_of _ (by decide +kernel)) ggL_law_L_send
set_option maxRecDepth 20000 in
theorem ggL_law_X6_send : GoodIn wsL_law wsX6_send := goodIn_r _ [185, 109, 186, 187, 188, 5, 189, 161, 110, 111, 112, 190, 191, 192, 193, 142, 113, 114, 115, 116, 194, 195, 196, 197, 83, 162, 163, 164, 165, 697, 698, 699, 700, 701, 702, 703, 704, 705, 706] (by decide +kernel) (by decide +kernel)
set_option maxRecDepth 20000 in
theorem gL_law_X6_send : GoodIn wsL_law (wsV RL 93 RX6 yX6_send wsX6_send) := goodIn_app (goodIn_of _ (by decide +kernel)) ggL_law_X6_send
set_option maxRecDepth 20000 in
theorem ggL_law_L_ring : GoodIn wsL_law wsL_ring := goodIn_ca (goodIn_ca (goodIn_r _ [200, 91, 124, 201, 202, 203, 2, 204, 97, 98, 129, 130, 16, 205, 206, 207, 208, 209, 38, 210, 211, 212, 213, 214, 215, 66, 65, 68, 693, 694, 695, 696, 707, 708, 709, 710, 711, 725, 726, 727, 728, 729, 730, 731] (by decide +kernel) (by decide +kernel)) (goodIn_sub (fun _ h => List.mem_append_left _ (List.mem_append_left _ (List.mem_append_right _ h))) (by decide +kernel))) (goodIn_sub (fun _ h => List.mem_append_right _ h) (by decide +kernel))
set_option maxRecDepth 20000 in
theorem gL_law_L_ring : GoodIn wsL_law (va_wsS RL 94 yL_ring wsL_ring) := goodIn_app (goodIn_of _ (by decide +kernel)) ggL_law_L_ring
set_option maxRecDepth 20000 in
theorem ggL_law_X6_ring : GoodIn wsL_law wsX6_ring := goodIn_r _ [219, 109, 220, 221, 222, 5, 223, 86, 110, 111, 112, 113, 114, 115, 116, 224, 225, 226, 227, 84, 228, 229, 230, 231, 82, 697, 698, 699, 700, 701, 702, 703, 704, 705, 706] (by decide +kernel) (by decide +kernel)
set_option maxRecDepth 20000 in
theorem gL_law_X6_ring : GoodIn wsL_law (wsV RL 96 RX6 yX6_ring wsX6_ring) := goodIn_app (goodIn_of _ (by decide +kernel)) ggL_law_X6_ring
set_option maxRecDepth 20000 in
theorem ggL_law_L_smash : GoodIn wsL_law wsL_smash := goodIn_ca (goodIn_ca (goodIn_r _ [234, 91, 124, 235, 236, 237, 2, 238, 97, 98, 129, 130, 16, 205, 206, 131, 239, 240, 207, 208, 209, 38, 210, 211, 241, 242, 243, 30, 244, 50, 245, 246, 247, 248, 249, 179, 180, 181, 137, 693, 694, 695, 696, 707, 708, 709, 710, 711, 725, 726, 727, 728, 729, 730, 731, 715, 716, 717, 718, 719] (by decide +kernel) (by decide +kernel)) (goodIn_sub (fun _ h => List.mem_append_left _ (List.mem_append_left _ (List.mem_append_right _ h))) (by decide +kernel))) (goodIn_sub (fun _ h => List.mem_append_right _ h) (by decide +kernel))
set_option maxRecDepth 20000 in
theorem gL_law_L_smash : GoodIn wsL_law (va_wsS RL 97 yL_smash wsL_smash) := goodIn_app (goodIn_of _ (by decide +kernel)) ggL_law_L_smash
set_option maxRecDepth 20000 in
theorem ggL_law_X6_smash : GoodIn wsL_law wsX6_smash := goodIn_r _ [253, 109, 84, 82, 254, 246, 247, 248, 220, 221, 222, 5, 223, 86, 110, 111, 112, 113, 114, 115, 116, 224, 225, 226, 227, 697, 698, 699, 700, 701, 702, 703, 704, 705, 706] (by decide +kernel) (by decide +kernel)
set_option maxRecDepth 20000 in
theorem gL_law_X6_smash : GoodIn wsL_law (wsV RL 99 RX6 yX6_smash wsX6_smash) := goodIn_app (goodIn_of _ (by decide +kernel)) ggL_law_X6_smash
set_option maxRecDepth 20000 in
theorem ggL_law_L_build : GoodIn wsL_law wsL_build := goodIn_ca (goodIn_ca (goodIn_r _ [257, 92, 124, 258, 259, 260, 2, 261, 99, 100, 129, 130, 21, 262, 102, 103, 104, 263, 264, 265, 20, 266, 267, 75, 693, 694, 695, 696, 712, 713, 714] (by decide +kernel) (by decide +kernel)) (goodIn_sub (fun _ h => List.mem_append_left _ (List.mem_append_right _ h)) (by decide +kernel))) (goodIn_sub (fun _ h => List.mem_append_right _ h) (by decide +kernel))
set_option maxRecDepth 20000 in
theorem gL_law_L_build : GoodIn wsL_law (va_wsS RL 100 yL_build wsL_build) := goodIn_app (goodIn_of _ (by decide +kernel)) ggL_law_L_build
set_option maxRecDepth 20000 in
theorem ggL_law_X6_build : GoodIn wsL_law wsX6_build := goodIn_r _ [271, 109, 272, 85, 110, 111, 5, 112, 113, 114, 115, 116, 697, 698, 699, 700, 701, 702, 703, 704, 705, 706] (by decide +kernel) (by decide +kernel)
set_option maxRecDepth 20000 in
theorem gL_law_X6_build : GoodIn wsL_law (wsV RL 102 RX6 yX6_build wsX6_build) := goodIn_app (goodIn_of _ (by decide +kernel)) ggL_law_X6_build
set_option maxRecDepth 20000 in
theorem ggL_law_L_load : GoodIn wsL_law wsL_load := goodIn_ca (goodIn_ca (goodIn_r _ [275, 91, 124, 276, 277, 278, 2, 279, 97, 98, 129, 130, 16, 205, 21, 206, 280, 207, 208, 209, 38, 210, 211, 281, 282, 283, 20, 284, 267, 285, 286, 287, 288, 76, 289, 290, 291, 292, 66, 293, 294, 295, 296, 297, 298, 299, 300, 301, 70, 302, 303, 304, 305, 306, 69, 693, 694, 695, 696, 707, 708, 709, 710, 711, 725, 726, 727, 728, 729, 730, 731, 712, 713, 714] (by decide +kernel) (by decide +kernel)) (goodIn_sub (fun _ h => List.mem_append_left _ (List.mem_append_left _ (List.mem_append_right _ h))) (by decide +kernel))) (goodIn_sub (fun _ h => List.mem_append_right _ h) (by decide +kernel))
set_option maxRecDepth 20000 in
theorem gL_law_L_load : GoodIn wsL_law (va_wsS RL 103 yL_load wsL_load) := goodIn_app (goodIn_of _ (by decide +kernel)) ggL_law_L_load
set_option maxRecDepth 20000 in
theorem ggL_law_X6_load : GoodIn wsL_law wsX6_load := goodIn_r _ [310, 109, 84, 220, 221, 222, 5, 223, 86, 110, 111, 112, 311, 312, 313, 314, 272, 113, 114, 115, 116, 224, 225, 226, 227, 315, 316, 317, 318, 85, 319, 320, 321, 322, 323, 324, 325, 326, 327, 328, 329, 330, 697, 698, 699, 700, 701, 702, 703, 704, 705, 706] (by decide +kernel) (by decide +kernel)
set_option maxRecDepth 20000 in
theorem gL_law_X6_load : GoodIn wsL_law (wsV RL 105 RX6 yX6_load wsX6_load) := goodIn_app (goodIn_of _ (by decide +kernel)) ggL_law_X6_load
set_option maxRecDepth 20000 in
theorem ggL_law_L_ship : GoodIn wsL_law wsL_ship := goodIn_ca (goodIn_ca (goodIn_r _ [333, 91, 124, 334, 335, 336, 2, 337, 97, 98, 129, 130, 21, 16, 280, 205, 338, 281, 282, 283, 20, 284, 267, 285, 286, 287, 288, 76, 339, 340, 341, 38, 342, 211, 70, 343, 344, 345, 15, 346, 27, 347, 348, 349, 350, 351, 352, 353, 354, 355, 69, 356, 357, 358, 359, 66, 65, 68, 360, 361, 362, 363, 693, 694, 695, 696, 707, 708, 709, 710, 711, 712, 713, 714, 725, 726, 727, 728, 729, 730, 731] (by decide +kernel) (by decide +kernel)) (goodIn_sub (fun _ h => List.mem_append_left _ (List.mem_append_left _ (List.mem_append_right _ h))) (by decide +kernel))) (goodIn_sub (fun _ h => List.mem_append_right _ h) (by decide +kernel))
set_option maxRecDepth 20000 in
theorem gL_law_L_ship : GoodIn wsL_law (va_wsS RL 106 yL_ship wsL_ship) := goodIn_app (goodIn_of _ (by decide +kernel)) ggL_law_L_ship
set_option maxRecDepth 20000 in
theorem ggL_law_X6_ship : GoodIn wsL_law wsX6_ship := goodIn_r _ [367, 109, 86, 84, 85, 311, 312, 313, 5, 314, 272, 110, 111, 112, 113, 114, 115, 116, 315, 316, 317, 318, 368, 369, 370, 371, 327, 328, 329, 330, 224, 225, 226, 227, 372, 373, 374, 375, 81, 376, 377, 378, 379, 228, 229, 230, 231, 82, 697, 698, 699, 700, 701, 702, 703, 704, 705, 706] (by decide +kernel) (by decide +kernel)
set_option maxRecDepth 20000 in
theorem gL_law_X6_ship : GoodIn wsL_law (wsV RL 108 RX6 yX6_ship wsX6_ship) := goodIn_app (goodIn_of _ (by decide +kernel)) ggL_law_X6_ship
set_option maxRecDepth 20000 in
theorem ggL_law_L_bed : GoodIn wsL_law wsL_bed := goodIn_ca (goodIn_r _ [382, 91, 383, 384, 385, 2, 386, 97, 98, 16, 131, 178, 179, 180, 30, 181, 137, 102, 103, 104, 387, 388, 389, 15, 390, 31, 391, 392, 393, 35, 394, 39, 395, 396, 397, 34, 398, 156, 57, 399, 400, 401, 38, 402, 211, 64, 68, 693, 694, 695, 696, 707, 708, 709, 710, 711, 715, 716, 717, 718, 719, 720, 721, 722, 723, 724, 725, 726, 727, 728, 729, 730, 731] (by decide +kernel) (by decide +kernel)) (goodIn_sub (fun _ h => List.mem_append_left _ (List.mem_append_left _ (List.mem_append_right _ h))) (by decide +kernel))
set_option maxRecDepth 20000 in
theorem gL_law_L_bed : GoodIn wsL_law (va_wsS RL 109 yL_bed wsL_bed) := goodIn_app (goodIn_of _ (by decide +kernel)) ggL_law_L_bed
set_option maxRecDepth 20000 in
theorem ggL_law_X6_bed : GoodIn wsL_law wsX6_bed := goodIn_r _ [406, 109, 190, 191, 192, 5, 193, 142, 110, 111, 112, 407, 408, 409, 410, 161, 86, 194, 195, 196, 197, 83, 228, 229, 230, 231, 82, 224, 225, 226, 227, 84, 113, 114, 115, 116, 697, 698, 699, 700, 701, 702, 703, 704, 705, 706] (by decide +kernel) (by decide +kernel)
set_option maxRecDepth 20000 in
theorem gL_law_X6_bed : GoodIn wsL_law (wsV RL 111 RX6 yX6_bed wsX6_bed) := goodIn_app (goodIn_of _ (by decide +kernel)) ggL_law_X6_bed
set_option maxRecDepth 20000 in
theorem ggL_law_L_quarrier : GoodIn wsL_law wsL_quarrier := goodIn_ca (goodIn_r _ [413, 91, 414, 415, 416, 2, 417, 97, 98, 16, 150, 174, 175, 176, 34, 177, 156, 102, 103, 104, 418, 419, 420, 15, 421, 35, 422, 423, 424, 425, 426, 427, 428, 429, 31, 430, 179, 180, 30, 181, 137, 431, 432, 433, 434, 48, 693, 694, 695, 696, 707, 708, 709, 710, 711, 720, 721, 722, 723, 724, 715, 716, 717, 718, 719] (by decide +kernel) (by decide +kernel)) (goodIn_sub (fun _ h => List.mem_append_left _ (List.mem_append_left _ (List.mem_append_right _ h))) (by decide +kernel))
set_option maxRecDepth 20000 in
theorem gL_law_L_quarrier : GoodIn wsL_law (va_wsS RL 112 yL_quarrier wsL_quarrier) := goodIn_app (goodIn_of _ (by decide +kernel)) ggL_law_L_quarrier
set_option maxRecDepth 20000 in
theorem ggL_law_X6_quarrier : GoodIn wsL_law wsX6_quarrier := goodIn_r _ [438, 109, 186, 187, 188, 5, 189, 161, 110, 111, 112, 439, 440, 441, 442, 194, 195, 196, 197, 83, 228, 229, 230, 231, 82, 113, 114, 115, 116, 697, 698, 699, 700, 701, 702, 703, 704, 705, 706] (by decide +kernel) (by decide +kernel)
set_option maxRecDepth 20000 in
theorem gL_law_X6_quarrier : GoodIn wsL_law (wsV RL 114 RX6 yX6_quarrier wsX6_quarrier) := goodIn_app (goodIn_of _ (by decide +kernel)) ggL_law_X6_quarrier
set_option maxRecDepth 20000 in
theorem ggL_law_L_wheel : GoodIn wsL_law wsL_wheel := goodIn_ca (goodIn_r _ [445, 91, 446, 447, 448, 2, 449, 97, 98, 16, 205, 207, 208, 209, 38, 210, 211, 102, 103, 104, 450, 451, 452, 453, 64, 66, 69, 70, 302, 290, 291, 292, 356, 357, 358, 359, 65, 68, 693, 694, 695, 696, 707, 708, 709, 710, 711, 725, 726, 727, 728, 729, 730, 731] (by decide +kernel) (by decide +kernel)) (goodIn_sub (fun _ h => List.mem_append_left _ (List.mem_append_left _ (List.mem_append_right _ h))) (by decide +kernel))
set_option maxRecDepth 20000 in
theorem gL_law_L_wheel : GoodIn wsL_law (va_wsS RL 115 yL_wheel wsL_wheel) := goodIn_app (goodIn_of _ (by decide +kernel)) ggL_law_L_wheel
set_option maxRecDepth 20000 in
theorem ggL_law_X6_wheel : GoodIn wsL_law wsX6_wheel := goodIn_r _ [457, 109, 220, 221, 222, 5, 223, 86, 110, 111, 112, 458, 459, 460, 461, 224, 225, 226, 227, 84, 319, 320, 321, 322, 376, 377, 378, 379, 228, 229, 230, 231, 82, 113, 114, 115, 116, 697, 698, 699, 700, 701, 702, 703, 704, 705, 706] (by decide +kernel) (by decide +kernel)
set_option maxRecDepth 20000 in
theorem gL_law_X6_wheel : GoodIn wsL_law (wsV RL 117 RX6 yX6_wheel wsX6_wheel) := goodIn_app (goodIn_of _ (by decide +kernel)) ggL_law_X6_wheel
set_option maxRecDepth 20000 in
theorem ggL_law_L_raft : GoodIn wsL_law wsL_raft := goodIn_ca (goodIn_r _ [464, 91, 465, 466, 467, 2, 468, 97, 98, 21, 281, 282, 283, 20, 284, 267, 102, 103, 104, 469, 470, 471, 472, 297, 16, 205, 280, 293, 294, 295, 296, 298, 299, 300, 38, 301, 211, 70, 302, 290, 291, 292, 66, 339, 340, 341, 342, 285, 286, 287, 288, 76, 693, 694, 695, 696, 712, 713, 714, 707, 708, 709, 710, 711, 725, 726, 727, 728, 729, 730, 731] (by decide +kernel) (by decide +kernel)) (goodIn_sub (fun _ h => List.mem_append_left _ (List.mem_append_left _ (List.mem_append_right _ h))) (by decide +kernel))
set_option maxRecDepth 20000 in
theorem gL_law_L_raft : GoodIn wsL_law (va_wsS RL 118 yL_raft wsL_raft) := goodIn_app (goodIn_of _ (by decide +kernel)) ggL_law_L_raft
set_option maxRecDepth 20000 in
theorem ggL_law_X6_raft : GoodIn wsL_law wsX6_raft := goodIn_r _ [476, 109, 311, 312, 313, 5, 314, 272, 110, 111, 112, 477, 478, 479, 480, 85, 323, 324, 325, 326, 86, 327, 328, 329, 330, 224, 225, 226, 227, 84, 319, 320, 321, 322, 368, 369, 370, 371, 315, 316, 317, 318, 113, 114, 115, 116, 697, 698, 699, 700, 701, 702, 703, 704, 705, 706] (by decide +kernel) (by decide +kernel)
set_option maxRecDepth 20000 in
theorem gL_law_X6_raft : GoodIn wsL_law (wsV RL 120 RX6 yX6_raft wsX6_raft) := goodIn_app (goodIn_of _ (by decide +kernel)) ggL_law_X6_raft
set_option maxRecDepth 20000 in
theorem ggL_law_L_count : GoodIn wsL_law wsL_count := goodIn_ca (goodIn_r _ [483, 91, 484, 485, 486, 2, 487, 97, 98, 102, 103, 104, 488, 489, 490, 491, 338, 16, 492, 493, 494, 15, 495, 347, 39, 496, 35, 497, 344, 345, 346, 27, 348, 349, 350, 351, 498, 499, 500, 501, 502, 503, 504, 38, 505, 211, 69, 506, 507, 508, 34, 509, 156, 58, 693, 694, 695, 696, 707, 708, 709, 710, 711, 725, 726, 727, 728, 729, 730, 731, 720, 721, 722, 723, 724] (by decide +kernel) (by decide +kernel)) (goodIn_sub (fun _ h => List.mem_append_left _ (List.mem_append_left _ (List.mem_append_right _ h))) (by decide +kernel))
set_option maxRecDepth 20000 in
theorem gL_law_L_count : GoodIn wsL_law (va_wsS RL 121 yL_count wsL_count) := goodIn_app (goodIn_of _ (by decide +kernel)) ggL_law_L_count
set_option maxRecDepth 20000 in
theorem ggL_law_X6_count : GoodIn wsL_law wsX6_count := goodIn_r _ [513, 109, 110, 111, 5, 112, 514, 515, 516, 517, 86, 161, 372, 373, 374, 375, 81, 194, 195, 196, 197, 83, 224, 225, 226, 227, 84, 113, 114, 115, 116, 697, 698, 699, 700, 701, 702, 703, 704, 705, 706] (by decide +kernel) (by decide +kernel)
set_option maxRecDepth 20000 in
theorem gL_law_X6_count : GoodIn wsL_law (wsV RL 123 RX6 yX6_count wsX6_count) := goodIn_app (goodIn_of _ (by decide +kernel)) ggL_law_X6_count
set_option maxRecDepth 20000 in
theorem ggL_law_L_pass : GoodIn wsL_law wsL_pass := goodIn_ca (goodIn_r _ [520, 92, 521, 522, 523, 2, 524, 99, 100, 16, 205, 525, 102, 103, 104, 526, 527, 528, 15, 529, 530, 531, 532, 533, 35, 534, 39, 347, 535, 536, 537, 538, 423, 31, 422, 496, 425, 393, 430, 179, 180, 30, 181, 137, 539, 540, 541, 34, 542, 58, 431, 432, 433, 434, 48, 543, 544, 545, 546, 59, 56, 547, 246, 247, 248, 548, 549, 550, 551, 552, 553, 554, 555, 394, 392, 391, 556, 557, 558, 559, 560, 561, 38, 562, 211, 64, 65, 66, 68, 69, 70, 563, 564, 565, 566, 156, 57, 567, 568, 498, 499, 500, 501, 497, 344, 345, 346, 27, 348, 349, 350, 351, 569, 570, 571, 572, 693, 694, 695, 696, 707, 708, 709, 710, 711, 725, 726, 727, 728, 729, 730, 731, 720, 721, 722, 723, 724, 715, 716, 717, 718, 719] (by decide +kernel) (by decide +kernel)) (goodIn_sub (fun _ h => List.mem_append_left _ (List.mem_append_right _ h)) (by decide +kernel))
set_option maxRecDepth 20000 in
theorem gL_law_L_pass : GoodIn wsL_law (va_wsS RL 124 yL_pass wsL_pass) := goodIn_app (goodIn_of _ (by decide +kernel)) ggL_law_L_pass
set_option maxRecDepth 20000 in
theorem ggL_law_X6_pass : GoodIn wsL_law wsX6_pass := goodIn_r _ [576, 109, 110, 111, 5, 112, 577, 578, 579, 580, 86, 581, 582, 583, 584, 161, 84, 272, 85, 585, 586, 587, 588, 254, 246, 247, 248, 194, 195, 196, 197, 83, 162, 163, 164, 165, 228, 229, 230, 231, 82, 589, 590, 591, 592, 593, 557, 558, 594, 595, 596, 597, 372, 373, 374, 375, 81, 224, 225, 226, 227, 315, 316, 317, 318, 113, 114, 115, 116, 697, 698, 699, 700, 701, 702, 703, 704, 705, 706] (by decide +kernel) (by decide +kernel)
set_option maxRecDepth 20000 in
theorem gL_law_X6_pass : GoodIn wsL_law (wsV RL 126 RX6 yX6_pass wsX6_pass) := goodIn_app (goodIn_of _ (by decide +kernel)) ggL_law_X6_pass
set_option maxRecDepth 20000 in
theorem ggL_law_L_foresee : GoodIn wsL_law wsL_foresee := goodIn_ca (goodIn_ca (goodIn_r _ [600, 92, 91, 601, 602, 603, 2, 604, 99, 100, 97, 98, 17, 16, 102, 103, 104, 605, 606, 607, 15, 608, 347, 27, 31, 35, 39, 609, 610, 611, 30, 612, 137, 48, 49, 50, 51, 613, 614, 615, 34, 616, 156, 56, 57, 58, 59, 617, 618, 619, 38, 620, 211, 64, 65, 66, 68, 69, 70, 526, 527, 528, 529, 530, 531, 532, 533, 534, 535, 536, 537, 538, 423, 422, 496, 425, 393, 430, 179, 180, 181, 539, 540, 541, 542, 431, 432, 433, 434, 543, 544, 545, 546, 547, 246, 247, 248, 548, 549, 550, 551, 552, 553, 554, 555, 394, 392, 391, 556, 557, 558, 559, 560, 561, 562, 563, 564, 565, 566, 567, 568, 498, 499, 500, 501, 497, 344, 345, 346, 348, 349, 350, 351, 569, 570, 571, 572, 492, 493, 494, 495, 502, 503, 504, 505, 506, 507, 508, 509, 693, 694, 695, 696, 707, 708, 709, 710, 711, 715, 716, 717, 718, 719, 720, 721, 722, 723, 724, 725, 726, 727, 728, 729, 730, 731] (by decide +kernel) (by decide +kernel)) (goodIn_sub (fun _ h => List.mem_append_left _ (List.mem_append_right _ h)) (by decide +kernel))) (goodIn_sub (fun _ h => List.mem_append_left _ (List.mem_append_left _ (List.mem_append_right _ h))) (by decide +kernel))
set_option maxRecDepth 20000 in
theorem gL_law_L_foresee : GoodIn wsL_law (va_wsS RL 127 yL_foresee wsL_foresee) := goodIn_app (goodIn_of _ (by decide +kernel)) ggL_law_L_foresee
set_option maxRecDepth 20000 in
theorem ggL_law_X6_foresee : GoodIn wsL_law wsX6_foresee := goodIn_r _ [624, 109, 110, 111, 5, 112, 113, 114, 115, 116, 625, 626, 627, 628, 629, 82, 630, 631, 632, 633, 634, 83, 84, 85, 86, 577, 578, 579, 580, 581, 582, 583, 584, 161, 272, 585, 586, 587, 588, 254, 246, 247, 248, 194, 195, 196, 197, 162, 163, 164, 165, 228, 229, 230, 231, 589, 590, 591, 592, 593, 557, 558, 594, 595, 596, 597, 372, 373, 374, 375, 81, 224, 225, 226, 227, 315, 316, 317, 318, 514, 515, 516, 517, 635, 636, 637, 638, 639, 640, 641, 642, 697, 698, 699, 700, 701, 702, 703, 704, 705, 706] (by decide +kernel) (by decide +kernel)
set_option maxRecDepth 20000 in
theorem gL_law_X6_foresee : GoodIn wsL_law (wsV RL 129 RX6 yX6_foresee wsX6_foresee) := goodIn_app (goodIn_of _ (by decide +kernel)) ggL_law_X6_foresee
set_option maxRecDepth 20000 in
theorem ggL_law_L_advise : GoodIn wsL_law wsL_advise := goodIn_ca (goodIn_ca (goodIn_r _ [645, 91, 92, 646, 647, 648, 2, 649, 97, 98, 99, 100, 16, 150, 131, 132, 174, 175, 176, 34, 177, 156, 102, 103, 104, 650, 651, 652, 653, 17, 173, 205, 605, 606, 607, 15, 608, 347, 27, 31, 35, 39, 609, 610, 611, 30, 612, 137, 48, 49, 50, 51, 613, 614, 615, 616, 56, 57, 58, 59, 617, 618, 619, 38, 620, 211, 64, 65, 66, 68, 69, 70, 526, 527, 528, 529, 530, 531, 532, 533, 534, 535, 536, 537, 538, 423, 422, 496, 425, 393, 430, 179, 180, 181, 539, 540, 541, 542, 431, 432, 433, 434, 543, 544, 545, 546, 547, 246, 247, 248, 548, 549, 550, 551, 552, 553, 554, 555, 394, 392, 391, 556, 557, 558, 559, 560, 561, 562, 563, 564, 565, 566, 567, 568, 498, 499, 500, 501, 497, 344, 345, 346, 348, 349, 350, 351, 569, 570, 571, 572, 654, 655, 656, 657, 356, 357, 358, 359, 693, 694, 695, 696, 707, 708, 709, 710, 711, 715, 716, 717, 718, 719, 720, 721, 722, 723, 724, 725, 726, 727, 728, 729, 730, 731] (by decide +kernel) (by decide +kernel)) (goodIn_sub (fun _ h => List.mem_append_left _ (List.mem_append_left _ (List.mem_append_right _ h))) (by decide +kernel))) (goodIn_sub (fun _ h => List.mem_append_left _ (List.mem_append_right _ h)) (by decide +kernel))
set_option maxRecDepth 20000 in
theorem gL_law_L_advise : GoodIn wsL_law (va_wsS RL 130 yL_advise wsL_advise) := goodIn_app (goodIn_of _ (by decide +kernel)) ggL_law_L_advise
set_option maxRecDepth 20000 in
theorem ggL_law_X6_advise : GoodIn wsL_law wsX6_advise := goodIn_r _ [661, 109, 142, 186, 187, 188, 5, 189, 161, 110, 111, 112, 113, 114, 115, 116, 625, 626, 627, 628, 629, 82, 630, 631, 632, 633, 634, 83, 84, 85, 86, 162, 163, 164, 165, 577, 578, 579, 580, 581, 582, 583, 584, 272, 585, 586, 587, 588, 254, 246, 247, 248, 194, 195, 196, 197, 228, 229, 230, 231, 589, 590, 591, 592, 593, 557, 558, 594, 595, 596, 597, 372, 373, 374, 375, 81, 224, 225, 226, 227, 315, 316, 317, 318, 662, 663, 664, 665, 376, 377, 378, 379, 635, 636, 637, 638, 639, 640, 641, 642, 697, 698, 699, 700, 701, 702, 703, 704, 705, 706] (by decide +kernel) (by decide +kernel)
set_option maxRecDepth 20000 in
theorem gL_law_X6_advise : GoodIn wsL_law (wsV RL 132 RX6 yX6_advise wsX6_advise) := goodIn_app (goodIn_of _ (by decide +kernel)) ggL_law_X6_advise
set_option maxRecDepth 20000 in
theorem ggL_law_X5_share : GoodIn wsL_law wsX5_share := goodIn_r _ [669, 16, 205, 525, 670, 671, 672, 38, 673, 211, 68, 693, 694, 695, 696, 707, 708, 709, 710, 711, 725, 726, 727, 728, 729, 730, 731] (by decide +kernel) (by decide +kernel)
set_option maxRecDepth 20000 in
theorem gL_law_X5_share : GoodIn wsL_law (wsV RL 133 RX5 yX5_share wsX5_share) := goodIn_app (goodIn_of _ (by decide +kernel)) ggL_law_X5_share
set_option maxRecDepth 20000 in
theorem ggL_law_X6_share : GoodIn wsL_law wsX6_share := goodIn_r _ [677, 109, 86, 224, 225, 226, 5, 227, 84, 697, 698, 699, 700, 701, 702, 703, 704, 705, 706] (by decide +kernel) (by decide +kernel)
set_option maxRecDepth 20000 in
theorem gL_law_X6_share : GoodIn wsL_law (wsV RL 137 RX6 yX6_share wsX6_share) := goodIn_app (goodIn_of _ (by decide +kernel)) ggL_law_X6_share
set_option maxRecDepth 20000 in
theorem ggL_law_X5_digest : GoodIn wsL_law wsX5_digest := goodIn_r _ [681, 682, 16, 101, 131, 132, 150, 151, 205, 525, 21, 262, 488, 489, 490, 2, 491, 338, 492, 493, 494, 15, 495, 347, 39, 496, 35, 497, 344, 345, 346, 27, 348, 349, 350, 351, 498, 499, 500, 501, 502, 503, 504, 38, 505, 211, 69, 506, 507, 508, 34, 509, 156, 58, 683, 684, 685, 686, 387, 388, 389, 390, 31, 391, 392, 393, 394, 395, 396, 397, 398, 57, 399, 400, 401, 402, 64, 68, 418, 419, 420, 421, 422, 423, 424, 425, 426, 427, 428, 429, 430, 179, 180, 30, 181, 137, 431, 432, 433, 434, 48, 450, 451, 452, 453, 66, 70, 302, 290, 291, 292, 356, 357, 358, 359, 65, 469, 470, 471, 472, 297, 280, 293, 294, 295, 296, 298, 299, 300, 301, 339, 340, 341, 342, 285, 286, 287, 20, 288, 76, 693, 694, 695, 696, 707, 708, 709, 710, 711, 715, 716, 717, 718, 719, 720, 721, 722, 723, 724, 725, 726, 727, 728, 729, 730, 731, 712, 713, 714] (by decide +kernel) (by decide +kernel)
set_option maxRecDepth 20000 in
theorem gL_law_X5_digest : GoodIn wsL_law (wsV RL 138 RX5 yX5_digest wsX5_digest) := goodIn_app (goodIn_of _ (by decide +kernel)) ggL_law_X5_digest
set_option maxRecDepth 20000 in
theorem ggL_law_X6_digest : GoodIn wsL_law wsX6_digest := goodIn_r _ [690, 109, 691, 692, 81, 142, 161, 86, 272, 514, 515, 516, 5, 517, 372, 373, 374, 375, 194, 195, 196, 197, 83, 224, 225, 226, 227, 84, 407, 408, 409, 410, 228, 229, 230, 231, 82, 439, 440, 441, 442, 458, 459, 460, 461, 319, 320, 321, 322, 376, 377, 378, 379, 477, 478, 479, 480, 85, 323, 324, 325, 326, 327, 328, 329, 330, 368, 369, 370, 371, 315, 316, 317, 318, 697, 698, 699, 700, 701, 702, 703, 704, 705, 706] (by decide +kernel) (by decide +kernel)
set_option maxRecDepth 20000 in
theorem gL_law_X6_digest : GoodIn wsL_law (wsV RL 142 RX6 yX6_digest wsX6_digest) := goodIn_app (goodIn_of _ (by decide +kernel)) ggL_law_X6_digest
theorem dL_law_0 : decode cL_law 0 = .ok (.new 8, 3) := by decide +kernel
theorem dL_law_3 : decode cL_law 3 = .ok (.dup, 1) := by decide +kernel
theorem dL_law_4 : decode cL_law 4 = .ok (.invokespecial 69, 3) := by decide +kernel
theorem dL_law_7 : decode cL_law 7 = .ok (.astore_n 1, 1) := by decide +kernel
theorem dL_law_8 : decode cL_law 8 = .ok (.new 70, 3) := by decide +kernel
theorem dL_law_11 : decode cL_law 11 = .ok (.dup, 1) := by decide +kernel
theorem dL_law_12 : decode cL_law 12 = .ok (.invokespecial 72, 3) := by decide +kernel
theorem dL_law_15 : decode cL_law 15 = .ok (.astore_n 2, 1) := by decide +kernel
theorem dL_law_16 : decode cL_law 16 = .ok (.iconst 1, 1) := by decide +kernel
theorem dL_law_17 : decode cL_law 17 = .ok (.newarray .long, 2) := by decide +kernel
theorem dL_law_19 : decode cL_law 19 = .ok (.astore_n 3, 1) := by decide +kernel
theorem dL_law_20 : decode cL_law 20 = .ok (.iconst 0, 1) := by decide +kernel
theorem dL_law_21 : decode cL_law 21 = .ok (.istore 4, 2) := by decide +kernel
theorem dL_law_23 : decode cL_law 23 = .ok (.iload 4, 2) := by decide +kernel
theorem dL_law_25 : decode cL_law 25 = .ok (.aload_n 0, 1) := by decide +kernel
theorem dL_law_26 : decode cL_law 26 = .ok (.arraylength, 1) := by decide +kernel
theorem dL_law_27 : decode cL_law 27 = .ok (.iconst 4, 1) := by decide +kernel
theorem dL_law_28 : decode cL_law 28 = .ok (.isub, 1) := by decide +kernel
theorem dL_law_29 : decode cL_law 29 = .ok (.if_icmp .gt 1244, 3) := by decide +kernel
theorem dL_law_32 : decode cL_law 32 = .ok (.aload_n 0, 1) := by decide +kernel
theorem dL_law_33 : decode cL_law 33 = .ok (.iload 4, 2) := by decide +kernel
theorem dL_law_35 : decode cL_law 35 = .ok (.iaload, 1) := by decide +kernel
theorem dL_law_36 : decode cL_law 36 = .ok (.bipush 31, 2) := by decide +kernel
theorem dL_law_38 : decode cL_law 38 = .ok (.iand, 1) := by decide +kernel
theorem dL_law_39 : decode cL_law 39 = .ok (.tableswitch 1228 0 18 #[89, 157, 237, 293, 361, 417, 473, 529, 597, 653, 721, 789, 857, 925, 981, 1037, 1105, 1173, 1214], 89) := by decide +kernel
theorem dL_law_128 : decode cL_law 128 = .ok (.aload_n 1, 1) := by decide +kernel
theorem dL_law_129 : decode cL_law 129 = .ok (.aload_n 0, 1) := by decide +kernel
theorem dL_law_130 : decode cL_law 130 = .ok (.iload 4, 2) := by decide +kernel
theorem dL_law_132 : decode cL_law 132 = .ok (.iconst 1, 1) := by decide +kernel
theorem dL_law_133 : decode cL_law 133 = .ok (.iadd, 1) := by decide +kernel
theorem dL_law_134 : decode cL_law 134 = .ok (.iaload, 1) := by decide +kernel
theorem dL_law_135 : decode cL_law 135 = .ok (.aload_n 0, 1) := by decide +kernel
theorem dL_law_136 : decode cL_law 136 = .ok (.iload 4, 2) := by decide +kernel
theorem dL_law_138 : decode cL_law 138 = .ok (.iconst 2, 1) := by decide +kernel
theorem dL_law_139 : decode cL_law 139 = .ok (.iadd, 1) := by decide +kernel
theorem dL_law_140 : decode cL_law 140 = .ok (.iaload, 1) := by decide +kernel
theorem dL_law_141 : decode cL_law 141 = .ok (.aload_n 3, 1) := by decide +kernel
theorem dL_law_142 : decode cL_law 142 = .ok (.invokestatic 73, 3) := by decide +kernel
theorem dL_law_145 : decode cL_law 145 = .ok (.istore 5, 2) := by decide +kernel
theorem dL_law_147 : decode cL_law 147 = .ok (.aload_n 2, 1) := by decide +kernel
theorem dL_law_148 : decode cL_law 148 = .ok (.aload_n 0, 1) := by decide +kernel
theorem dL_law_149 : decode cL_law 149 = .ok (.iload 4, 2) := by decide +kernel
theorem dL_law_151 : decode cL_law 151 = .ok (.iconst 1, 1) := by decide +kernel
theorem dL_law_152 : decode cL_law 152 = .ok (.iadd, 1) := by decide +kernel
theorem dL_law_153 : decode cL_law 153 = .ok (.iaload, 1) := by decide +kernel
theorem dL_law_154 : decode cL_law 154 = .ok (.aload_n 0, 1) := by decide +kernel
theorem dL_law_155 : decode cL_law 155 = .ok (.iload 4, 2) := by decide +kernel
theorem dL_law_157 : decode cL_law 157 = .ok (.iconst 2, 1) := by decide +kernel
theorem dL_law_158 : decode cL_law 158 = .ok (.iadd, 1) := by decide +kernel
theorem dL_law_159 : decode cL_law 159 = .ok (.iaload, 1) := by decide +kernel
theorem dL_law_160 : decode cL_law 160 = .ok (.invokevirtual 78, 3) := by decide +kernel
theorem dL_law_163 : decode cL_law 163 = .ok (.istore 6, 2) := by decide +kernel
theorem dL_law_165 : decode cL_law 165 = .ok (.aload_n 2, 1) := by decide +kernel
theorem dL_law_166 : decode cL_law 166 = .ok (.invokevirtual 79, 3) := by decide +kernel
theorem dL_law_169 : decode cL_law 169 = .ok (.iload 5, 2) := by decide +kernel
theorem dL_law_171 : decode cL_law 171 = .ok (.if_icmp .eq 5, 3) := by decide +kernel
theorem dL_law_174 : decode cL_law 174 = .ok (.iconst 0, 1) := by decide +kernel
theorem dL_law_175 : decode cL_law 175 = .ok (.ireturn, 1) := by decide +kernel
theorem dL_law_176 : decode cL_law 176 = .ok (.iload 5, 2) := by decide +kernel
theorem dL_law_178 : decode cL_law 178 = .ok (.ifCond .ne 15, 3) := by decide +kernel
theorem dL_law_181 : decode cL_law 181 = .ok (.aload_n 3, 1) := by decide +kernel
theorem dL_law_182 : decode cL_law 182 = .ok (.iconst 0, 1) := by decide +kernel
theorem dL_law_183 : decode cL_law 183 = .ok (.laload, 1) := by decide +kernel
theorem dL_law_184 : decode cL_law 184 = .ok (.iload 6, 2) := by decide +kernel
theorem dL_law_186 : decode cL_law 186 = .ok (.i2l, 1) := by decide +kernel
theorem dL_law_187 : decode cL_law 187 = .ok (.lcmp, 1) := by decide +kernel
theorem dL_law_188 : decode cL_law 188 = .ok (.ifCond .eq 5, 3) := by decide +kernel
theorem dL_law_191 : decode cL_law 191 = .ok (.iconst 0, 1) := by decide +kernel
theorem dL_law_192 : decode cL_law 192 = .ok (.ireturn, 1) := by decide +kernel
theorem dL_law_193 : decode cL_law 193 = .ok (.goto 1074, 3) := by decide +kernel
theorem dL_law_196 : decode cL_law 196 = .ok (.aload_n 1, 1) := by decide +kernel
theorem dL_law_197 : decode cL_law 197 = .ok (.aload_n 0, 1) := by decide +kernel
theorem dL_law_198 : decode cL_law 198 = .ok (.iload 4, 2) := by decide +kernel
theorem dL_law_200 : decode cL_law 200 = .ok (.iconst 1, 1) := by decide +kernel
theorem dL_law_201 : decode cL_law 201 = .ok (.iadd, 1) := by decide +kernel
theorem dL_law_202 : decode cL_law 202 = .ok (.iaload, 1) := by decide +kernel
theorem dL_law_203 : decode cL_law 203 = .ok (.aload_n 0, 1) := by decide +kernel
theorem dL_law_204 : decode cL_law 204 = .ok (.iload 4, 2) := by decide +kernel
theorem dL_law_206 : decode cL_law 206 = .ok (.iconst 2, 1) := by decide +kernel
theorem dL_law_207 : decode cL_law 207 = .ok (.iadd, 1) := by decide +kernel
theorem dL_law_208 : decode cL_law 208 = .ok (.iaload, 1) := by decide +kernel
theorem dL_law_209 : decode cL_law 209 = .ok (.aload_n 0, 1) := by decide +kernel
theorem dL_law_210 : decode cL_law 210 = .ok (.iload 4, 2) := by decide +kernel
theorem dL_law_212 : decode cL_law 212 = .ok (.iconst 3, 1) := by decide +kernel
theorem dL_law_213 : decode cL_law 213 = .ok (.iadd, 1) := by decide +kernel
theorem dL_law_214 : decode cL_law 214 = .ok (.iaload, 1) := by decide +kernel
theorem dL_law_215 : decode cL_law 215 = .ok (.aload_n 3, 1) := by decide +kernel
theorem dL_law_216 : decode cL_law 216 = .ok (.invokestatic 83, 3) := by decide +kernel
theorem dL_law_219 : decode cL_law 219 = .ok (.istore 5, 2) := by decide +kernel
theorem dL_law_221 : decode cL_law 221 = .ok (.aload_n 2, 1) := by decide +kernel
theorem dL_law_222 : decode cL_law 222 = .ok (.aload_n 0, 1) := by decide +kernel
theorem dL_law_223 : decode cL_law 223 = .ok (.iload 4, 2) := by decide +kernel
theorem dL_law_225 : decode cL_law 225 = .ok (.iconst 1, 1) := by decide +kernel
theorem dL_law_226 : decode cL_law 226 = .ok (.iadd, 1) := by decide +kernel
theorem dL_law_227 : decode cL_law 227 = .ok (.iaload, 1) := by decide +kernel
theorem dL_law_228 : decode cL_law 228 = .ok (.aload_n 0, 1) := by decide +kernel
theorem dL_law_229 : decode cL_law 229 = .ok (.iload 4, 2) := by decide +kernel
theorem dL_law_231 : decode cL_law 231 = .ok (.iconst 2, 1) := by decide +kernel
theorem dL_law_232 : decode cL_law 232 = .ok (.iadd, 1) := by decide +kernel
theorem dL_law_233 : decode cL_law 233 = .ok (.iaload, 1) := by decide +kernel
theorem dL_law_234 : decode cL_law 234 = .ok (.aload_n 0, 1) := by decide +kernel
theorem dL_law_235 : decode cL_law 235 = .ok (.iload 4, 2) := by decide +kernel
theorem dL_law_237 : decode cL_law 237 = .ok (.iconst 3, 1) := by decide +kernel
theorem dL_law_238 : decode cL_law 238 = .ok (.iadd, 1) := by decide +kernel
theorem dL_law_239 : decode cL_law 239 = .ok (.iaload, 1) := by decide +kernel
theorem dL_law_240 : decode cL_law 240 = .ok (.invokevirtual 86, 3) := by decide +kernel
theorem dL_law_243 : decode cL_law 243 = .ok (.istore 6, 2) := by decide +kernel
theorem dL_law_245 : decode cL_law 245 = .ok (.aload_n 2, 1) := by decide +kernel
theorem dL_law_246 : decode cL_law 246 = .ok (.invokevirtual 79, 3) := by decide +kernel
theorem dL_law_249 : decode cL_law 249 = .ok (.iload 5, 2) := by decide +kernel
theorem dL_law_251 : decode cL_law 251 = .ok (.if_icmp .eq 5, 3) := by decide +kernel
theorem dL_law_254 : decode cL_law 254 = .ok (.iconst 0, 1) := by decide +kernel
theorem dL_law_255 : decode cL_law 255 = .ok (.ireturn, 1) := by decide +kernel
theorem dL_law_256 : decode cL_law 256 = .ok (.iload 5, 2) := by decide +kernel
theorem dL_law_258 : decode cL_law 258 = .ok (.ifCond .ne 15, 3) := by decide +kernel
theorem dL_law_261 : decode cL_law 261 = .ok (.aload_n 3, 1) := by decide +kernel
theorem dL_law_262 : decode cL_law 262 = .ok (.iconst 0, 1) := by decide +kernel
theorem dL_law_263 : decode cL_law 263 = .ok (.laload, 1) := by decide +kernel
theorem dL_law_264 : decode cL_law 264 = .ok (.iload 6, 2) := by decide +kernel
theorem dL_law_266 : decode cL_law 266 = .ok (.i2l, 1) := by decide +kernel
theorem dL_law_267 : decode cL_law 267 = .ok (.lcmp, 1) := by decide +kernel
theorem dL_law_268 : decode cL_law 268 = .ok (.ifCond .eq 5, 3) := by decide +kernel
theorem dL_law_271 : decode cL_law 271 = .ok (.iconst 0, 1) := by decide +kernel
theorem dL_law_272 : decode cL_law 272 = .ok (.ireturn, 1) := by decide +kernel
theorem dL_law_273 : decode cL_law 273 = .ok (.goto 994, 3) := by decide +kernel
theorem dL_law_276 : decode cL_law 276 = .ok (.aload_n 1, 1) := by decide +kernel
theorem dL_law_277 : decode cL_law 277 = .ok (.aload_n 0, 1) := by decide +kernel
theorem dL_law_278 : decode cL_law 278 = .ok (.iload 4, 2) := by decide +kernel
theorem dL_law_280 : decode cL_law 280 = .ok (.iconst 1, 1) := by decide +kernel
theorem dL_law_281 : decode cL_law 281 = .ok (.iadd, 1) := by decide +kernel
theorem dL_law_282 : decode cL_law 282 = .ok (.iaload, 1) := by decide +kernel
theorem dL_law_283 : decode cL_law 283 = .ok (.aload_n 3, 1) := by decide +kernel
theorem dL_law_284 : decode cL_law 284 = .ok (.invokestatic 87, 3) := by decide +kernel
theorem dL_law_287 : decode cL_law 287 = .ok (.istore 5, 2) := by decide +kernel
theorem dL_law_289 : decode cL_law 289 = .ok (.aload_n 2, 1) := by decide +kernel
theorem dL_law_290 : decode cL_law 290 = .ok (.aload_n 0, 1) := by decide +kernel
theorem dL_law_291 : decode cL_law 291 = .ok (.iload 4, 2) := by decide +kernel
theorem dL_law_293 : decode cL_law 293 = .ok (.iconst 1, 1) := by decide +kernel
theorem dL_law_294 : decode cL_law 294 = .ok (.iadd, 1) := by decide +kernel
theorem dL_law_295 : decode cL_law 295 = .ok (.iaload, 1) := by decide +kernel
theorem dL_law_296 : decode cL_law 296 = .ok (.invokevirtual 90, 3) := by decide +kernel
theorem dL_law_299 : decode cL_law 299 = .ok (.istore 6, 2) := by decide +kernel
theorem dL_law_301 : decode cL_law 301 = .ok (.aload_n 2, 1) := by decide +kernel
theorem dL_law_302 : decode cL_law 302 = .ok (.invokevirtual 79, 3) := by decide +kernel
theorem dL_law_305 : decode cL_law 305 = .ok (.iload 5, 2) := by decide +kernel
theorem dL_law_307 : decode cL_law 307 = .ok (.if_icmp .eq 5, 3) := by decide +kernel
theorem dL_law_310 : decode cL_law 310 = .ok (.iconst 0, 1) := by decide +kernel
theorem dL_law_311 : decode cL_law 311 = .ok (.ireturn, 1) := by decide +kernel
theorem dL_law_312 : decode cL_law 312 = .ok (.iload 5, 2) := by decide +kernel
theorem dL_law_314 : decode cL_law 314 = .ok (.ifCond .ne 15, 3) := by decide +kernel
theorem dL_law_317 : decode cL_law 317 = .ok (.aload_n 3, 1) := by decide +kernel
theorem dL_law_318 : decode cL_law 318 = .ok (.iconst 0, 1) := by decide +kernel
theorem dL_law_319 : decode cL_law 319 = .ok (.laload, 1) := by decide +kernel
theorem dL_law_320 : decode cL_law 320 = .ok (.iload 6, 2) := by decide +kernel
theorem dL_law_322 : decode cL_law 322 = .ok (.i2l, 1) := by decide +kernel
theorem dL_law_323 : decode cL_law 323 = .ok (.lcmp, 1) := by decide +kernel
theorem dL_law_324 : decode cL_law 324 = .ok (.ifCond .eq 5, 3) := by decide +kernel
theorem dL_law_327 : decode cL_law 327 = .ok (.iconst 0, 1) := by decide +kernel
theorem dL_law_328 : decode cL_law 328 = .ok (.ireturn, 1) := by decide +kernel
theorem dL_law_329 : decode cL_law 329 = .ok (.goto 938, 3) := by decide +kernel
theorem dL_law_332 : decode cL_law 332 = .ok (.aload_n 1, 1) := by decide +kernel
theorem dL_law_333 : decode cL_law 333 = .ok (.aload_n 0, 1) := by decide +kernel
theorem dL_law_334 : decode cL_law 334 = .ok (.iload 4, 2) := by decide +kernel
theorem dL_law_336 : decode cL_law 336 = .ok (.iconst 1, 1) := by decide +kernel
theorem dL_law_337 : decode cL_law 337 = .ok (.iadd, 1) := by decide +kernel
theorem dL_law_338 : decode cL_law 338 = .ok (.iaload, 1) := by decide +kernel
theorem dL_law_339 : decode cL_law 339 = .ok (.aload_n 0, 1) := by decide +kernel
theorem dL_law_340 : decode cL_law 340 = .ok (.iload 4, 2) := by decide +kernel
theorem dL_law_342 : decode cL_law 342 = .ok (.iconst 2, 1) := by decide +kernel
theorem dL_law_343 : decode cL_law 343 = .ok (.iadd, 1) := by decide +kernel
theorem dL_law_344 : decode cL_law 344 = .ok (.iaload, 1) := by decide +kernel
theorem dL_law_345 : decode cL_law 345 = .ok (.aload_n 3, 1) := by decide +kernel
theorem dL_law_346 : decode cL_law 346 = .ok (.invokestatic 91, 3) := by decide +kernel
theorem dL_law_349 : decode cL_law 349 = .ok (.istore 5, 2) := by decide +kernel
theorem dL_law_351 : decode cL_law 351 = .ok (.aload_n 2, 1) := by decide +kernel
theorem dL_law_352 : decode cL_law 352 = .ok (.aload_n 0, 1) := by decide +kernel
theorem dL_law_353 : decode cL_law 353 = .ok (.iload 4, 2) := by decide +kernel
theorem dL_law_355 : decode cL_law 355 = .ok (.iconst 1, 1) := by decide +kernel
theorem dL_law_356 : decode cL_law 356 = .ok (.iadd, 1) := by decide +kernel
theorem dL_law_357 : decode cL_law 357 = .ok (.iaload, 1) := by decide +kernel
theorem dL_law_358 : decode cL_law 358 = .ok (.aload_n 0, 1) := by decide +kernel
theorem dL_law_359 : decode cL_law 359 = .ok (.iload 4, 2) := by decide +kernel
theorem dL_law_361 : decode cL_law 361 = .ok (.iconst 2, 1) := by decide +kernel
theorem dL_law_362 : decode cL_law 362 = .ok (.iadd, 1) := by decide +kernel
theorem dL_law_363 : decode cL_law 363 = .ok (.iaload, 1) := by decide +kernel
theorem dL_law_364 : decode cL_law 364 = .ok (.invokevirtual 93, 3) := by decide +kernel
theorem dL_law_367 : decode cL_law 367 = .ok (.istore 6, 2) := by decide +kernel
theorem dL_law_369 : decode cL_law 369 = .ok (.aload_n 2, 1) := by decide +kernel
theorem dL_law_370 : decode cL_law 370 = .ok (.invokevirtual 79, 3) := by decide +kernel
theorem dL_law_373 : decode cL_law 373 = .ok (.iload 5, 2) := by decide +kernel
theorem dL_law_375 : decode cL_law 375 = .ok (.if_icmp .eq 5, 3) := by decide +kernel
theorem dL_law_378 : decode cL_law 378 = .ok (.iconst 0, 1) := by decide +kernel
theorem dL_law_379 : decode cL_law 379 = .ok (.ireturn, 1) := by decide +kernel
theorem dL_law_380 : decode cL_law 380 = .ok (.iload 5, 2) := by decide +kernel
theorem dL_law_382 : decode cL_law 382 = .ok (.ifCond .ne 15, 3) := by decide +kernel
theorem dL_law_385 : decode cL_law 385 = .ok (.aload_n 3, 1) := by decide +kernel
theorem dL_law_386 : decode cL_law 386 = .ok (.iconst 0, 1) := by decide +kernel
theorem dL_law_387 : decode cL_law 387 = .ok (.laload, 1) := by decide +kernel
theorem dL_law_388 : decode cL_law 388 = .ok (.iload 6, 2) := by decide +kernel
theorem dL_law_390 : decode cL_law 390 = .ok (.i2l, 1) := by decide +kernel
theorem dL_law_391 : decode cL_law 391 = .ok (.lcmp, 1) := by decide +kernel
theorem dL_law_392 : decode cL_law 392 = .ok (.ifCond .eq 5, 3) := by decide +kernel
theorem dL_law_395 : decode cL_law 395 = .ok (.iconst 0, 1) := by decide +kernel
theorem dL_law_396 : decode cL_law 396 = .ok (.ireturn, 1) := by decide +kernel
theorem dL_law_397 : decode cL_law 397 = .ok (.goto 870, 3) := by decide +kernel
theorem dL_law_400 : decode cL_law 400 = .ok (.aload_n 1, 1) := by decide +kernel
theorem dL_law_401 : decode cL_law 401 = .ok (.aload_n 0, 1) := by decide +kernel
theorem dL_law_402 : decode cL_law 402 = .ok (.iload 4, 2) := by decide +kernel
theorem dL_law_404 : decode cL_law 404 = .ok (.iconst 1, 1) := by decide +kernel
theorem dL_law_405 : decode cL_law 405 = .ok (.iadd, 1) := by decide +kernel
theorem dL_law_406 : decode cL_law 406 = .ok (.iaload, 1) := by decide +kernel
theorem dL_law_407 : decode cL_law 407 = .ok (.aload_n 3, 1) := by decide +kernel
theorem dL_law_408 : decode cL_law 408 = .ok (.invokestatic 94, 3) := by decide +kernel
theorem dL_law_411 : decode cL_law 411 = .ok (.istore 5, 2) := by decide +kernel
theorem dL_law_413 : decode cL_law 413 = .ok (.aload_n 2, 1) := by decide +kernel
theorem dL_law_414 : decode cL_law 414 = .ok (.aload_n 0, 1) := by decide +kernel
theorem dL_law_415 : decode cL_law 415 = .ok (.iload 4, 2) := by decide +kernel
theorem dL_law_417 : decode cL_law 417 = .ok (.iconst 1, 1) := by decide +kernel
theorem dL_law_418 : decode cL_law 418 = .ok (.iadd, 1) := by decide +kernel
theorem dL_law_419 : decode cL_law 419 = .ok (.iaload, 1) := by decide +kernel
theorem dL_law_420 : decode cL_law 420 = .ok (.invokevirtual 96, 3) := by decide +kernel
theorem dL_law_423 : decode cL_law 423 = .ok (.istore 6, 2) := by decide +kernel
theorem dL_law_425 : decode cL_law 425 = .ok (.aload_n 2, 1) := by decide +kernel
theorem dL_law_426 : decode cL_law 426 = .ok (.invokevirtual 79, 3) := by decide +kernel
theorem dL_law_429 : decode cL_law 429 = .ok (.iload 5, 2) := by decide +kernel
theorem dL_law_431 : decode cL_law 431 = .ok (.if_icmp .eq 5, 3) := by decide +kernel
theorem dL_law_434 : decode cL_law 434 = .ok (.iconst 0, 1) := by decide +kernel
theorem dL_law_435 : decode cL_law 435 = .ok (.ireturn, 1) := by decide +kernel
theorem dL_law_436 : decode cL_law 436 = .ok (.iload 5, 2) := by decide +kernel
theorem dL_law_438 : decode cL_law 438 = .ok (.ifCond .ne 15, 3) := by decide +kernel
theorem dL_law_441 : decode cL_law 441 = .ok (.aload_n 3, 1) := by decide +kernel
theorem dL_law_442 : decode cL_law 442 = .ok (.iconst 0, 1) := by decide +kernel
theorem dL_law_443 : decode cL_law 443 = .ok (.laload, 1) := by decide +kernel
theorem dL_law_444 : decode cL_law 444 = .ok (.iload 6, 2) := by decide +kernel
theorem dL_law_446 : decode cL_law 446 = .ok (.i2l, 1) := by decide +kernel
theorem dL_law_447 : decode cL_law 447 = .ok (.lcmp, 1) := by decide +kernel
theorem dL_law_448 : decode cL_law 448 = .ok (.ifCond .eq 5, 3) := by decide +kernel
theorem dL_law_451 : decode cL_law 451 = .ok (.iconst 0, 1) := by decide +kernel
theorem dL_law_452 : decode cL_law 452 = .ok (.ireturn, 1) := by decide +kernel
theorem dL_law_453 : decode cL_law 453 = .ok (.goto 814, 3) := by decide +kernel
theorem dL_law_456 : decode cL_law 456 = .ok (.aload_n 1, 1) := by decide +kernel
theorem dL_law_457 : decode cL_law 457 = .ok (.aload_n 0, 1) := by decide +kernel
theorem dL_law_458 : decode cL_law 458 = .ok (.iload 4, 2) := by decide +kernel
theorem dL_law_460 : decode cL_law 460 = .ok (.iconst 1, 1) := by decide +kernel
theorem dL_law_461 : decode cL_law 461 = .ok (.iadd, 1) := by decide +kernel
theorem dL_law_462 : decode cL_law 462 = .ok (.iaload, 1) := by decide +kernel
theorem dL_law_463 : decode cL_law 463 = .ok (.aload_n 3, 1) := by decide +kernel
theorem dL_law_464 : decode cL_law 464 = .ok (.invokestatic 97, 3) := by decide +kernel
theorem dL_law_467 : decode cL_law 467 = .ok (.istore 5, 2) := by decide +kernel
theorem dL_law_469 : decode cL_law 469 = .ok (.aload_n 2, 1) := by decide +kernel
theorem dL_law_470 : decode cL_law 470 = .ok (.aload_n 0, 1) := by decide +kernel
theorem dL_law_471 : decode cL_law 471 = .ok (.iload 4, 2) := by decide +kernel
theorem dL_law_473 : decode cL_law 473 = .ok (.iconst 1, 1) := by decide +kernel
theorem dL_law_474 : decode cL_law 474 = .ok (.iadd, 1) := by decide +kernel
theorem dL_law_475 : decode cL_law 475 = .ok (.iaload, 1) := by decide +kernel
theorem dL_law_476 : decode cL_law 476 = .ok (.invokevirtual 99, 3) := by decide +kernel
theorem dL_law_479 : decode cL_law 479 = .ok (.istore 6, 2) := by decide +kernel
theorem dL_law_481 : decode cL_law 481 = .ok (.aload_n 2, 1) := by decide +kernel
theorem dL_law_482 : decode cL_law 482 = .ok (.invokevirtual 79, 3) := by decide +kernel
theorem dL_law_485 : decode cL_law 485 = .ok (.iload 5, 2) := by decide +kernel
theorem dL_law_487 : decode cL_law 487 = .ok (.if_icmp .eq 5, 3) := by decide +kernel
theorem dL_law_490 : decode cL_law 490 = .ok (.iconst 0, 1) := by decide +kernel
theorem dL_law_491 : decode cL_law 491 = .ok (.ireturn, 1) := by decide +kernel
theorem dL_law_492 : decode cL_law 492 = .ok (.iload 5, 2) := by decide +kernel
theorem dL_law_494 : decode cL_law 494 = .ok (.ifCond .ne 15, 3) := by decide +kernel
theorem dL_law_497 : decode cL_law 497 = .ok (.aload_n 3, 1) := by decide +kernel
theorem dL_law_498 : decode cL_law 498 = .ok (.iconst 0, 1) := by decide +kernel
theorem dL_law_499 : decode cL_law 499 = .ok (.laload, 1) := by decide +kernel
theorem dL_law_500 : decode cL_law 500 = .ok (.iload 6, 2) := by decide +kernel
theorem dL_law_502 : decode cL_law 502 = .ok (.i2l, 1) := by decide +kernel
theorem dL_law_503 : decode cL_law 503 = .ok (.lcmp, 1) := by decide +kernel
theorem dL_law_504 : decode cL_law 504 = .ok (.ifCond .eq 5, 3) := by decide +kernel
theorem dL_law_507 : decode cL_law 507 = .ok (.iconst 0, 1) := by decide +kernel
theorem dL_law_508 : decode cL_law 508 = .ok (.ireturn, 1) := by decide +kernel
theorem dL_law_509 : decode cL_law 509 = .ok (.goto 758, 3) := by decide +kernel
theorem dL_law_512 : decode cL_law 512 = .ok (.aload_n 1, 1) := by decide +kernel
theorem dL_law_513 : decode cL_law 513 = .ok (.aload_n 0, 1) := by decide +kernel
theorem dL_law_514 : decode cL_law 514 = .ok (.iload 4, 2) := by decide +kernel
theorem dL_law_516 : decode cL_law 516 = .ok (.iconst 1, 1) := by decide +kernel
theorem dL_law_517 : decode cL_law 517 = .ok (.iadd, 1) := by decide +kernel
theorem dL_law_518 : decode cL_law 518 = .ok (.iaload, 1) := by decide +kernel
theorem dL_law_519 : decode cL_law 519 = .ok (.aload_n 3, 1) := by decide +kernel
theorem dL_law_520 : decode cL_law 520 = .ok (.invokestatic 100, 3) := by decide +kernel
theorem dL_law_523 : decode cL_law 523 = .ok (.istore 5, 2) := by decide +kernel
theorem dL_law_525 : decode cL_law 525 = .ok (.aload_n 2, 1) := by decide +kernel
theorem dL_law_526 : decode cL_law 526 = .ok (.aload_n 0, 1) := by decide +kernel
theorem dL_law_527 : decode cL_law 527 = .ok (.iload 4, 2) := by decide +kernel
theorem dL_law_529 : decode cL_law 529 = .ok (.iconst 1, 1) := by decide +kernel
theorem dL_law_530 : decode cL_law 530 = .ok (.iadd, 1) := by decide +kernel
theorem dL_law_531 : decode cL_law 531 = .ok (.iaload, 1) := by decide +kernel
theorem dL_law_532 : decode cL_law 532 = .ok (.invokevirtual 102, 3) := by decide +kernel
theorem dL_law_535 : decode cL_law 535 = .ok (.istore 6, 2) := by decide +kernel
theorem dL_law_537 : decode cL_law 537 = .ok (.aload_n 2, 1) := by decide +kernel
theorem dL_law_538 : decode cL_law 538 = .ok (.invokevirtual 79, 3) := by decide +kernel
theorem dL_law_541 : decode cL_law 541 = .ok (.iload 5, 2) := by decide +kernel
theorem dL_law_543 : decode cL_law 543 = .ok (.if_icmp .eq 5, 3) := by decide +kernel
theorem dL_law_546 : decode cL_law 546 = .ok (.iconst 0, 1) := by decide +kernel
theorem dL_law_547 : decode cL_law 547 = .ok (.ireturn, 1) := by decide +kernel
theorem dL_law_548 : decode cL_law 548 = .ok (.iload 5, 2) := by decide +kernel
theorem dL_law_550 : decode cL_law 550 = .ok (.ifCond .ne 15, 3) := by decide +kernel
theorem dL_law_553 : decode cL_law 553 = .ok (.aload_n 3, 1) := by decide +kernel
theorem dL_law_554 : decode cL_law 554 = .ok (.iconst 0, 1) := by decide +kernel
theorem dL_law_555 : decode cL_law 555 = .ok (.laload, 1) := by decide +kernel
theorem dL_law_556 : decode cL_law 556 = .ok (.iload 6, 2) := by decide +kernel
theorem dL_law_558 : decode cL_law 558 = .ok (.i2l, 1) := by decide +kernel
theorem dL_law_559 : decode cL_law 559 = .ok (.lcmp, 1) := by decide +kernel
theorem dL_law_560 : decode cL_law 560 = .ok (.ifCond .eq 5, 3) := by decide +kernel
theorem dL_law_563 : decode cL_law 563 = .ok (.iconst 0, 1) := by decide +kernel
theorem dL_law_564 : decode cL_law 564 = .ok (.ireturn, 1) := by decide +kernel
theorem dL_law_565 : decode cL_law 565 = .ok (.goto 702, 3) := by decide +kernel
theorem dL_law_568 : decode cL_law 568 = .ok (.aload_n 1, 1) := by decide +kernel
theorem dL_law_569 : decode cL_law 569 = .ok (.aload_n 0, 1) := by decide +kernel
theorem dL_law_570 : decode cL_law 570 = .ok (.iload 4, 2) := by decide +kernel
theorem dL_law_572 : decode cL_law 572 = .ok (.iconst 1, 1) := by decide +kernel
theorem dL_law_573 : decode cL_law 573 = .ok (.iadd, 1) := by decide +kernel
theorem dL_law_574 : decode cL_law 574 = .ok (.iaload, 1) := by decide +kernel
theorem dL_law_575 : decode cL_law 575 = .ok (.aload_n 0, 1) := by decide +kernel
theorem dL_law_576 : decode cL_law 576 = .ok (.iload 4, 2) := by decide +kernel
theorem dL_law_578 : decode cL_law 578 = .ok (.iconst 2, 1) := by decide +kernel
theorem dL_law_579 : decode cL_law 579 = .ok (.iadd, 1) := by decide +kernel
theorem dL_law_580 : decode cL_law 580 = .ok (.iaload, 1) := by decide +kernel
theorem dL_law_581 : decode cL_law 581 = .ok (.aload_n 3, 1) := by decide +kernel
theorem dL_law_582 : decode cL_law 582 = .ok (.invokestatic 103, 3) := by decide +kernel
theorem dL_law_585 : decode cL_law 585 = .ok (.istore 5, 2) := by decide +kernel
theorem dL_law_587 : decode cL_law 587 = .ok (.aload_n 2, 1) := by decide +kernel
theorem dL_law_588 : decode cL_law 588 = .ok (.aload_n 0, 1) := by decide +kernel
theorem dL_law_589 : decode cL_law 589 = .ok (.iload 4, 2) := by decide +kernel
theorem dL_law_591 : decode cL_law 591 = .ok (.iconst 1, 1) := by decide +kernel
theorem dL_law_592 : decode cL_law 592 = .ok (.iadd, 1) := by decide +kernel
theorem dL_law_593 : decode cL_law 593 = .ok (.iaload, 1) := by decide +kernel
theorem dL_law_594 : decode cL_law 594 = .ok (.aload_n 0, 1) := by decide +kernel
theorem dL_law_595 : decode cL_law 595 = .ok (.iload 4, 2) := by decide +kernel
theorem dL_law_597 : decode cL_law 597 = .ok (.iconst 2, 1) := by decide +kernel
theorem dL_law_598 : decode cL_law 598 = .ok (.iadd, 1) := by decide +kernel
theorem dL_law_599 : decode cL_law 599 = .ok (.iaload, 1) := by decide +kernel
theorem dL_law_600 : decode cL_law 600 = .ok (.invokevirtual 105, 3) := by decide +kernel
theorem dL_law_603 : decode cL_law 603 = .ok (.istore 6, 2) := by decide +kernel
theorem dL_law_605 : decode cL_law 605 = .ok (.aload_n 2, 1) := by decide +kernel
theorem dL_law_606 : decode cL_law 606 = .ok (.invokevirtual 79, 3) := by decide +kernel
theorem dL_law_609 : decode cL_law 609 = .ok (.iload 5, 2) := by decide +kernel
theorem dL_law_611 : decode cL_law 611 = .ok (.if_icmp .eq 5, 3) := by decide +kernel
theorem dL_law_614 : decode cL_law 614 = .ok (.iconst 0, 1) := by decide +kernel
theorem dL_law_615 : decode cL_law 615 = .ok (.ireturn, 1) := by decide +kernel
theorem dL_law_616 : decode cL_law 616 = .ok (.iload 5, 2) := by decide +kernel
theorem dL_law_618 : decode cL_law 618 = .ok (.ifCond .ne 15, 3) := by decide +kernel
theorem dL_law_621 : decode cL_law 621 = .ok (.aload_n 3, 1) := by decide +kernel
theorem dL_law_622 : decode cL_law 622 = .ok (.iconst 0, 1) := by decide +kernel
theorem dL_law_623 : decode cL_law 623 = .ok (.laload, 1) := by decide +kernel
theorem dL_law_624 : decode cL_law 624 = .ok (.iload 6, 2) := by decide +kernel
theorem dL_law_626 : decode cL_law 626 = .ok (.i2l, 1) := by decide +kernel
theorem dL_law_627 : decode cL_law 627 = .ok (.lcmp, 1) := by decide +kernel
theorem dL_law_628 : decode cL_law 628 = .ok (.ifCond .eq 5, 3) := by decide +kernel
theorem dL_law_631 : decode cL_law 631 = .ok (.iconst 0, 1) := by decide +kernel
theorem dL_law_632 : decode cL_law 632 = .ok (.ireturn, 1) := by decide +kernel
theorem dL_law_633 : decode cL_law 633 = .ok (.goto 634, 3) := by decide +kernel
theorem dL_law_636 : decode cL_law 636 = .ok (.aload_n 1, 1) := by decide +kernel
theorem dL_law_637 : decode cL_law 637 = .ok (.aload_n 0, 1) := by decide +kernel
theorem dL_law_638 : decode cL_law 638 = .ok (.iload 4, 2) := by decide +kernel
theorem dL_law_640 : decode cL_law 640 = .ok (.iconst 1, 1) := by decide +kernel
theorem dL_law_641 : decode cL_law 641 = .ok (.iadd, 1) := by decide +kernel
theorem dL_law_642 : decode cL_law 642 = .ok (.iaload, 1) := by decide +kernel
theorem dL_law_643 : decode cL_law 643 = .ok (.aload_n 3, 1) := by decide +kernel
theorem dL_law_644 : decode cL_law 644 = .ok (.invokestatic 106, 3) := by decide +kernel
theorem dL_law_647 : decode cL_law 647 = .ok (.istore 5, 2) := by decide +kernel
theorem dL_law_649 : decode cL_law 649 = .ok (.aload_n 2, 1) := by decide +kernel
theorem dL_law_650 : decode cL_law 650 = .ok (.aload_n 0, 1) := by decide +kernel
theorem dL_law_651 : decode cL_law 651 = .ok (.iload 4, 2) := by decide +kernel
theorem dL_law_653 : decode cL_law 653 = .ok (.iconst 1, 1) := by decide +kernel
theorem dL_law_654 : decode cL_law 654 = .ok (.iadd, 1) := by decide +kernel
theorem dL_law_655 : decode cL_law 655 = .ok (.iaload, 1) := by decide +kernel
theorem dL_law_656 : decode cL_law 656 = .ok (.invokevirtual 108, 3) := by decide +kernel
theorem dL_law_659 : decode cL_law 659 = .ok (.istore 6, 2) := by decide +kernel
theorem dL_law_661 : decode cL_law 661 = .ok (.aload_n 2, 1) := by decide +kernel
theorem dL_law_662 : decode cL_law 662 = .ok (.invokevirtual 79, 3) := by decide +kernel
theorem dL_law_665 : decode cL_law 665 = .ok (.iload 5, 2) := by decide +kernel
theorem dL_law_667 : decode cL_law 667 = .ok (.if_icmp .eq 5, 3) := by decide +kernel
theorem dL_law_670 : decode cL_law 670 = .ok (.iconst 0, 1) := by decide +kernel
theorem dL_law_671 : decode cL_law 671 = .ok (.ireturn, 1) := by decide +kernel
theorem dL_law_672 : decode cL_law 672 = .ok (.iload 5, 2) := by decide +kernel
theorem dL_law_674 : decode cL_law 674 = .ok (.ifCond .ne 15, 3) := by decide +kernel
theorem dL_law_677 : decode cL_law 677 = .ok (.aload_n 3, 1) := by decide +kernel
theorem dL_law_678 : decode cL_law 678 = .ok (.iconst 0, 1) := by decide +kernel
theorem dL_law_679 : decode cL_law 679 = .ok (.laload, 1) := by decide +kernel
theorem dL_law_680 : decode cL_law 680 = .ok (.iload 6, 2) := by decide +kernel
theorem dL_law_682 : decode cL_law 682 = .ok (.i2l, 1) := by decide +kernel
theorem dL_law_683 : decode cL_law 683 = .ok (.lcmp, 1) := by decide +kernel
theorem dL_law_684 : decode cL_law 684 = .ok (.ifCond .eq 5, 3) := by decide +kernel
theorem dL_law_687 : decode cL_law 687 = .ok (.iconst 0, 1) := by decide +kernel
theorem dL_law_688 : decode cL_law 688 = .ok (.ireturn, 1) := by decide +kernel
theorem dL_law_689 : decode cL_law 689 = .ok (.goto 578, 3) := by decide +kernel
theorem dL_law_692 : decode cL_law 692 = .ok (.aload_n 1, 1) := by decide +kernel
theorem dL_law_693 : decode cL_law 693 = .ok (.aload_n 0, 1) := by decide +kernel
theorem dL_law_694 : decode cL_law 694 = .ok (.iload 4, 2) := by decide +kernel
theorem dL_law_696 : decode cL_law 696 = .ok (.iconst 1, 1) := by decide +kernel
theorem dL_law_697 : decode cL_law 697 = .ok (.iadd, 1) := by decide +kernel
theorem dL_law_698 : decode cL_law 698 = .ok (.iaload, 1) := by decide +kernel
theorem dL_law_699 : decode cL_law 699 = .ok (.aload_n 0, 1) := by decide +kernel
theorem dL_law_700 : decode cL_law 700 = .ok (.iload 4, 2) := by decide +kernel
theorem dL_law_702 : decode cL_law 702 = .ok (.iconst 2, 1) := by decide +kernel
theorem dL_law_703 : decode cL_law 703 = .ok (.iadd, 1) := by decide +kernel
theorem dL_law_704 : decode cL_law 704 = .ok (.iaload, 1) := by decide +kernel
theorem dL_law_705 : decode cL_law 705 = .ok (.aload_n 3, 1) := by decide +kernel
theorem dL_law_706 : decode cL_law 706 = .ok (.invokestatic 109, 3) := by decide +kernel
theorem dL_law_709 : decode cL_law 709 = .ok (.istore 5, 2) := by decide +kernel
theorem dL_law_711 : decode cL_law 711 = .ok (.aload_n 2, 1) := by decide +kernel
theorem dL_law_712 : decode cL_law 712 = .ok (.aload_n 0, 1) := by decide +kernel
theorem dL_law_713 : decode cL_law 713 = .ok (.iload 4, 2) := by decide +kernel
theorem dL_law_715 : decode cL_law 715 = .ok (.iconst 1, 1) := by decide +kernel
theorem dL_law_716 : decode cL_law 716 = .ok (.iadd, 1) := by decide +kernel
theorem dL_law_717 : decode cL_law 717 = .ok (.iaload, 1) := by decide +kernel
theorem dL_law_718 : decode cL_law 718 = .ok (.aload_n 0, 1) := by decide +kernel
theorem dL_law_719 : decode cL_law 719 = .ok (.iload 4, 2) := by decide +kernel
theorem dL_law_721 : decode cL_law 721 = .ok (.iconst 2, 1) := by decide +kernel
theorem dL_law_722 : decode cL_law 722 = .ok (.iadd, 1) := by decide +kernel
theorem dL_law_723 : decode cL_law 723 = .ok (.iaload, 1) := by decide +kernel
theorem dL_law_724 : decode cL_law 724 = .ok (.invokevirtual 111, 3) := by decide +kernel
theorem dL_law_727 : decode cL_law 727 = .ok (.istore 6, 2) := by decide +kernel
theorem dL_law_729 : decode cL_law 729 = .ok (.aload_n 2, 1) := by decide +kernel
theorem dL_law_730 : decode cL_law 730 = .ok (.invokevirtual 79, 3) := by decide +kernel
theorem dL_law_733 : decode cL_law 733 = .ok (.iload 5, 2) := by decide +kernel
theorem dL_law_735 : decode cL_law 735 = .ok (.if_icmp .eq 5, 3) := by decide +kernel
theorem dL_law_738 : decode cL_law 738 = .ok (.iconst 0, 1) := by decide +kernel
theorem dL_law_739 : decode cL_law 739 = .ok (.ireturn, 1) := by decide +kernel
theorem dL_law_740 : decode cL_law 740 = .ok (.iload 5, 2) := by decide +kernel
theorem dL_law_742 : decode cL_law 742 = .ok (.ifCond .ne 15, 3) := by decide +kernel
theorem dL_law_745 : decode cL_law 745 = .ok (.aload_n 3, 1) := by decide +kernel
theorem dL_law_746 : decode cL_law 746 = .ok (.iconst 0, 1) := by decide +kernel
theorem dL_law_747 : decode cL_law 747 = .ok (.laload, 1) := by decide +kernel
theorem dL_law_748 : decode cL_law 748 = .ok (.iload 6, 2) := by decide +kernel
theorem dL_law_750 : decode cL_law 750 = .ok (.i2l, 1) := by decide +kernel
theorem dL_law_751 : decode cL_law 751 = .ok (.lcmp, 1) := by decide +kernel
theorem dL_law_752 : decode cL_law 752 = .ok (.ifCond .eq 5, 3) := by decide +kernel
theorem dL_law_755 : decode cL_law 755 = .ok (.iconst 0, 1) := by decide +kernel
theorem dL_law_756 : decode cL_law 756 = .ok (.ireturn, 1) := by decide +kernel
theorem dL_law_757 : decode cL_law 757 = .ok (.goto 510, 3) := by decide +kernel
theorem dL_law_760 : decode cL_law 760 = .ok (.aload_n 1, 1) := by decide +kernel
theorem dL_law_761 : decode cL_law 761 = .ok (.aload_n 0, 1) := by decide +kernel
theorem dL_law_762 : decode cL_law 762 = .ok (.iload 4, 2) := by decide +kernel
theorem dL_law_764 : decode cL_law 764 = .ok (.iconst 1, 1) := by decide +kernel
theorem dL_law_765 : decode cL_law 765 = .ok (.iadd, 1) := by decide +kernel
theorem dL_law_766 : decode cL_law 766 = .ok (.iaload, 1) := by decide +kernel
theorem dL_law_767 : decode cL_law 767 = .ok (.aload_n 0, 1) := by decide +kernel
theorem dL_law_768 : decode cL_law 768 = .ok (.iload 4, 2) := by decide +kernel
theorem dL_law_770 : decode cL_law 770 = .ok (.iconst 2, 1) := by decide +kernel
theorem dL_law_771 : decode cL_law 771 = .ok (.iadd, 1) := by decide +kernel
theorem dL_law_772 : decode cL_law 772 = .ok (.iaload, 1) := by decide +kernel
theorem dL_law_773 : decode cL_law 773 = .ok (.aload_n 3, 1) := by decide +kernel
theorem dL_law_774 : decode cL_law 774 = .ok (.invokestatic 112, 3) := by decide +kernel
theorem dL_law_777 : decode cL_law 777 = .ok (.istore 5, 2) := by decide +kernel
theorem dL_law_779 : decode cL_law 779 = .ok (.aload_n 2, 1) := by decide +kernel
theorem dL_law_780 : decode cL_law 780 = .ok (.aload_n 0, 1) := by decide +kernel
theorem dL_law_781 : decode cL_law 781 = .ok (.iload 4, 2) := by decide +kernel
theorem dL_law_783 : decode cL_law 783 = .ok (.iconst 1, 1) := by decide +kernel
theorem dL_law_784 : decode cL_law 784 = .ok (.iadd, 1) := by decide +kernel
theorem dL_law_785 : decode cL_law 785 = .ok (.iaload, 1) := by decide +kernel
theorem dL_law_786 : decode cL_law 786 = .ok (.aload_n 0, 1) := by decide +kernel
theorem dL_law_787 : decode cL_law 787 = .ok (.iload 4, 2) := by decide +kernel
theorem dL_law_789 : decode cL_law 789 = .ok (.iconst 2, 1) := by decide +kernel
theorem dL_law_790 : decode cL_law 790 = .ok (.iadd, 1) := by decide +kernel
theorem dL_law_791 : decode cL_law 791 = .ok (.iaload, 1) := by decide +kernel
theorem dL_law_792 : decode cL_law 792 = .ok (.invokevirtual 114, 3) := by decide +kernel
theorem dL_law_795 : decode cL_law 795 = .ok (.istore 6, 2) := by decide +kernel
theorem dL_law_797 : decode cL_law 797 = .ok (.aload_n 2, 1) := by decide +kernel
theorem dL_law_798 : decode cL_law 798 = .ok (.invokevirtual 79, 3) := by decide +kernel
theorem dL_law_801 : decode cL_law 801 = .ok (.iload 5, 2) := by decide +kernel
theorem dL_law_803 : decode cL_law 803 = .ok (.if_icmp .eq 5, 3) := by decide +kernel
theorem dL_law_806 : decode cL_law 806 = .ok (.iconst 0, 1) := by decide +kernel
theorem dL_law_807 : decode cL_law 807 = .ok (.ireturn, 1) := by decide +kernel
theorem dL_law_808 : decode cL_law 808 = .ok (.iload 5, 2) := by decide +kernel
theorem dL_law_810 : decode cL_law 810 = .ok (.ifCond .ne 15, 3) := by decide +kernel
theorem dL_law_813 : decode cL_law 813 = .ok (.aload_n 3, 1) := by decide +kernel
theorem dL_law_814 : decode cL_law 814 = .ok (.iconst 0, 1) := by decide +kernel
theorem dL_law_815 : decode cL_law 815 = .ok (.laload, 1) := by decide +kernel
theorem dL_law_816 : decode cL_law 816 = .ok (.iload 6, 2) := by decide +kernel
theorem dL_law_818 : decode cL_law 818 = .ok (.i2l, 1) := by decide +kernel
theorem dL_law_819 : decode cL_law 819 = .ok (.lcmp, 1) := by decide +kernel
theorem dL_law_820 : decode cL_law 820 = .ok (.ifCond .eq 5, 3) := by decide +kernel
theorem dL_law_823 : decode cL_law 823 = .ok (.iconst 0, 1) := by decide +kernel
theorem dL_law_824 : decode cL_law 824 = .ok (.ireturn, 1) := by decide +kernel
theorem dL_law_825 : decode cL_law 825 = .ok (.goto 442, 3) := by decide +kernel
theorem dL_law_828 : decode cL_law 828 = .ok (.aload_n 1, 1) := by decide +kernel
theorem dL_law_829 : decode cL_law 829 = .ok (.aload_n 0, 1) := by decide +kernel
theorem dL_law_830 : decode cL_law 830 = .ok (.iload 4, 2) := by decide +kernel
theorem dL_law_832 : decode cL_law 832 = .ok (.iconst 1, 1) := by decide +kernel
theorem dL_law_833 : decode cL_law 833 = .ok (.iadd, 1) := by decide +kernel
theorem dL_law_834 : decode cL_law 834 = .ok (.iaload, 1) := by decide +kernel
theorem dL_law_835 : decode cL_law 835 = .ok (.aload_n 0, 1) := by decide +kernel
theorem dL_law_836 : decode cL_law 836 = .ok (.iload 4, 2) := by decide +kernel
theorem dL_law_838 : decode cL_law 838 = .ok (.iconst 2, 1) := by decide +kernel
theorem dL_law_839 : decode cL_law 839 = .ok (.iadd, 1) := by decide +kernel
theorem dL_law_840 : decode cL_law 840 = .ok (.iaload, 1) := by decide +kernel
theorem dL_law_841 : decode cL_law 841 = .ok (.aload_n 3, 1) := by decide +kernel
theorem dL_law_842 : decode cL_law 842 = .ok (.invokestatic 115, 3) := by decide +kernel
theorem dL_law_845 : decode cL_law 845 = .ok (.istore 5, 2) := by decide +kernel
theorem dL_law_847 : decode cL_law 847 = .ok (.aload_n 2, 1) := by decide +kernel
theorem dL_law_848 : decode cL_law 848 = .ok (.aload_n 0, 1) := by decide +kernel
theorem dL_law_849 : decode cL_law 849 = .ok (.iload 4, 2) := by decide +kernel
theorem dL_law_851 : decode cL_law 851 = .ok (.iconst 1, 1) := by decide +kernel
theorem dL_law_852 : decode cL_law 852 = .ok (.iadd, 1) := by decide +kernel
theorem dL_law_853 : decode cL_law 853 = .ok (.iaload, 1) := by decide +kernel
theorem dL_law_854 : decode cL_law 854 = .ok (.aload_n 0, 1) := by decide +kernel
theorem dL_law_855 : decode cL_law 855 = .ok (.iload 4, 2) := by decide +kernel
theorem dL_law_857 : decode cL_law 857 = .ok (.iconst 2, 1) := by decide +kernel
theorem dL_law_858 : decode cL_law 858 = .ok (.iadd, 1) := by decide +kernel
theorem dL_law_859 : decode cL_law 859 = .ok (.iaload, 1) := by decide +kernel
theorem dL_law_860 : decode cL_law 860 = .ok (.invokevirtual 117, 3) := by decide +kernel
theorem dL_law_863 : decode cL_law 863 = .ok (.istore 6, 2) := by decide +kernel
theorem dL_law_865 : decode cL_law 865 = .ok (.aload_n 2, 1) := by decide +kernel
theorem dL_law_866 : decode cL_law 866 = .ok (.invokevirtual 79, 3) := by decide +kernel
theorem dL_law_869 : decode cL_law 869 = .ok (.iload 5, 2) := by decide +kernel
theorem dL_law_871 : decode cL_law 871 = .ok (.if_icmp .eq 5, 3) := by decide +kernel
theorem dL_law_874 : decode cL_law 874 = .ok (.iconst 0, 1) := by decide +kernel
theorem dL_law_875 : decode cL_law 875 = .ok (.ireturn, 1) := by decide +kernel
theorem dL_law_876 : decode cL_law 876 = .ok (.iload 5, 2) := by decide +kernel
theorem dL_law_878 : decode cL_law 878 = .ok (.ifCond .ne 15, 3) := by decide +kernel
theorem dL_law_881 : decode cL_law 881 = .ok (.aload_n 3, 1) := by decide +kernel
theorem dL_law_882 : decode cL_law 882 = .ok (.iconst 0, 1) := by decide +kernel
theorem dL_law_883 : decode cL_law 883 = .ok (.laload, 1) := by decide +kernel
theorem dL_law_884 : decode cL_law 884 = .ok (.iload 6, 2) := by decide +kernel
theorem dL_law_886 : decode cL_law 886 = .ok (.i2l, 1) := by decide +kernel
theorem dL_law_887 : decode cL_law 887 = .ok (.lcmp, 1) := by decide +kernel
theorem dL_law_888 : decode cL_law 888 = .ok (.ifCond .eq 5, 3) := by decide +kernel
theorem dL_law_891 : decode cL_law 891 = .ok (.iconst 0, 1) := by decide +kernel
theorem dL_law_892 : decode cL_law 892 = .ok (.ireturn, 1) := by decide +kernel
theorem dL_law_893 : decode cL_law 893 = .ok (.goto 374, 3) := by decide +kernel
theorem dL_law_896 : decode cL_law 896 = .ok (.aload_n 1, 1) := by decide +kernel
theorem dL_law_897 : decode cL_law 897 = .ok (.aload_n 0, 1) := by decide +kernel
theorem dL_law_898 : decode cL_law 898 = .ok (.iload 4, 2) := by decide +kernel
theorem dL_law_900 : decode cL_law 900 = .ok (.iconst 1, 1) := by decide +kernel
theorem dL_law_901 : decode cL_law 901 = .ok (.iadd, 1) := by decide +kernel
theorem dL_law_902 : decode cL_law 902 = .ok (.iaload, 1) := by decide +kernel
theorem dL_law_903 : decode cL_law 903 = .ok (.aload_n 0, 1) := by decide +kernel
theorem dL_law_904 : decode cL_law 904 = .ok (.iload 4, 2) := by decide +kernel
theorem dL_law_906 : decode cL_law 906 = .ok (.iconst 2, 1) := by decide +kernel
theorem dL_law_907 : decode cL_law 907 = .ok (.iadd, 1) := by decide +kernel
theorem dL_law_908 : decode cL_law 908 = .ok (.iaload, 1) := by decide +kernel
theorem dL_law_909 : decode cL_law 909 = .ok (.aload_n 3, 1) := by decide +kernel
theorem dL_law_910 : decode cL_law 910 = .ok (.invokestatic 118, 3) := by decide +kernel
theorem dL_law_913 : decode cL_law 913 = .ok (.istore 5, 2) := by decide +kernel
theorem dL_law_915 : decode cL_law 915 = .ok (.aload_n 2, 1) := by decide +kernel
theorem dL_law_916 : decode cL_law 916 = .ok (.aload_n 0, 1) := by decide +kernel
theorem dL_law_917 : decode cL_law 917 = .ok (.iload 4, 2) := by decide +kernel
theorem dL_law_919 : decode cL_law 919 = .ok (.iconst 1, 1) := by decide +kernel
theorem dL_law_920 : decode cL_law 920 = .ok (.iadd, 1) := by decide +kernel
theorem dL_law_921 : decode cL_law 921 = .ok (.iaload, 1) := by decide +kernel
theorem dL_law_922 : decode cL_law 922 = .ok (.aload_n 0, 1) := by decide +kernel
theorem dL_law_923 : decode cL_law 923 = .ok (.iload 4, 2) := by decide +kernel
theorem dL_law_925 : decode cL_law 925 = .ok (.iconst 2, 1) := by decide +kernel
theorem dL_law_926 : decode cL_law 926 = .ok (.iadd, 1) := by decide +kernel
theorem dL_law_927 : decode cL_law 927 = .ok (.iaload, 1) := by decide +kernel
theorem dL_law_928 : decode cL_law 928 = .ok (.invokevirtual 120, 3) := by decide +kernel
theorem dL_law_931 : decode cL_law 931 = .ok (.istore 6, 2) := by decide +kernel
theorem dL_law_933 : decode cL_law 933 = .ok (.aload_n 2, 1) := by decide +kernel
theorem dL_law_934 : decode cL_law 934 = .ok (.invokevirtual 79, 3) := by decide +kernel
theorem dL_law_937 : decode cL_law 937 = .ok (.iload 5, 2) := by decide +kernel
theorem dL_law_939 : decode cL_law 939 = .ok (.if_icmp .eq 5, 3) := by decide +kernel
theorem dL_law_942 : decode cL_law 942 = .ok (.iconst 0, 1) := by decide +kernel
theorem dL_law_943 : decode cL_law 943 = .ok (.ireturn, 1) := by decide +kernel
theorem dL_law_944 : decode cL_law 944 = .ok (.iload 5, 2) := by decide +kernel
theorem dL_law_946 : decode cL_law 946 = .ok (.ifCond .ne 15, 3) := by decide +kernel
theorem dL_law_949 : decode cL_law 949 = .ok (.aload_n 3, 1) := by decide +kernel
theorem dL_law_950 : decode cL_law 950 = .ok (.iconst 0, 1) := by decide +kernel
theorem dL_law_951 : decode cL_law 951 = .ok (.laload, 1) := by decide +kernel
theorem dL_law_952 : decode cL_law 952 = .ok (.iload 6, 2) := by decide +kernel
theorem dL_law_954 : decode cL_law 954 = .ok (.i2l, 1) := by decide +kernel
theorem dL_law_955 : decode cL_law 955 = .ok (.lcmp, 1) := by decide +kernel
theorem dL_law_956 : decode cL_law 956 = .ok (.ifCond .eq 5, 3) := by decide +kernel
theorem dL_law_959 : decode cL_law 959 = .ok (.iconst 0, 1) := by decide +kernel
theorem dL_law_960 : decode cL_law 960 = .ok (.ireturn, 1) := by decide +kernel
theorem dL_law_961 : decode cL_law 961 = .ok (.goto 306, 3) := by decide +kernel
theorem dL_law_964 : decode cL_law 964 = .ok (.aload_n 1, 1) := by decide +kernel
theorem dL_law_965 : decode cL_law 965 = .ok (.aload_n 0, 1) := by decide +kernel
theorem dL_law_966 : decode cL_law 966 = .ok (.iload 4, 2) := by decide +kernel
theorem dL_law_968 : decode cL_law 968 = .ok (.iconst 1, 1) := by decide +kernel
theorem dL_law_969 : decode cL_law 969 = .ok (.iadd, 1) := by decide +kernel
theorem dL_law_970 : decode cL_law 970 = .ok (.iaload, 1) := by decide +kernel
theorem dL_law_971 : decode cL_law 971 = .ok (.aload_n 3, 1) := by decide +kernel
theorem dL_law_972 : decode cL_law 972 = .ok (.invokestatic 121, 3) := by decide +kernel
theorem dL_law_975 : decode cL_law 975 = .ok (.istore 5, 2) := by decide +kernel
theorem dL_law_977 : decode cL_law 977 = .ok (.aload_n 2, 1) := by decide +kernel
theorem dL_law_978 : decode cL_law 978 = .ok (.aload_n 0, 1) := by decide +kernel
theorem dL_law_979 : decode cL_law 979 = .ok (.iload 4, 2) := by decide +kernel
theorem dL_law_981 : decode cL_law 981 = .ok (.iconst 1, 1) := by decide +kernel
theorem dL_law_982 : decode cL_law 982 = .ok (.iadd, 1) := by decide +kernel
theorem dL_law_983 : decode cL_law 983 = .ok (.iaload, 1) := by decide +kernel
theorem dL_law_984 : decode cL_law 984 = .ok (.invokevirtual 123, 3) := by decide +kernel
theorem dL_law_987 : decode cL_law 987 = .ok (.istore 6, 2) := by decide +kernel
theorem dL_law_989 : decode cL_law 989 = .ok (.aload_n 2, 1) := by decide +kernel
theorem dL_law_990 : decode cL_law 990 = .ok (.invokevirtual 79, 3) := by decide +kernel
theorem dL_law_993 : decode cL_law 993 = .ok (.iload 5, 2) := by decide +kernel
theorem dL_law_995 : decode cL_law 995 = .ok (.if_icmp .eq 5, 3) := by decide +kernel
theorem dL_law_998 : decode cL_law 998 = .ok (.iconst 0, 1) := by decide +kernel
theorem dL_law_999 : decode cL_law 999 = .ok (.ireturn, 1) := by decide +kernel
theorem dL_law_1000 : decode cL_law 1000 = .ok (.iload 5, 2) := by decide +kernel
theorem dL_law_1002 : decode cL_law 1002 = .ok (.ifCond .ne 15, 3) := by decide +kernel
theorem dL_law_1005 : decode cL_law 1005 = .ok (.aload_n 3, 1) := by decide +kernel
theorem dL_law_1006 : decode cL_law 1006 = .ok (.iconst 0, 1) := by decide +kernel
theorem dL_law_1007 : decode cL_law 1007 = .ok (.laload, 1) := by decide +kernel
theorem dL_law_1008 : decode cL_law 1008 = .ok (.iload 6, 2) := by decide +kernel
theorem dL_law_1010 : decode cL_law 1010 = .ok (.i2l, 1) := by decide +kernel
theorem dL_law_1011 : decode cL_law 1011 = .ok (.lcmp, 1) := by decide +kernel
theorem dL_law_1012 : decode cL_law 1012 = .ok (.ifCond .eq 5, 3) := by decide +kernel
theorem dL_law_1015 : decode cL_law 1015 = .ok (.iconst 0, 1) := by decide +kernel
theorem dL_law_1016 : decode cL_law 1016 = .ok (.ireturn, 1) := by decide +kernel
theorem dL_law_1017 : decode cL_law 1017 = .ok (.goto 250, 3) := by decide +kernel
theorem dL_law_1020 : decode cL_law 1020 = .ok (.aload_n 1, 1) := by decide +kernel
theorem dL_law_1021 : decode cL_law 1021 = .ok (.aload_n 0, 1) := by decide +kernel
theorem dL_law_1022 : decode cL_law 1022 = .ok (.iload 4, 2) := by decide +kernel
theorem dL_law_1024 : decode cL_law 1024 = .ok (.iconst 1, 1) := by decide +kernel
theorem dL_law_1025 : decode cL_law 1025 = .ok (.iadd, 1) := by decide +kernel
theorem dL_law_1026 : decode cL_law 1026 = .ok (.iaload, 1) := by decide +kernel
theorem dL_law_1027 : decode cL_law 1027 = .ok (.aload_n 3, 1) := by decide +kernel
theorem dL_law_1028 : decode cL_law 1028 = .ok (.invokestatic 124, 3) := by decide +kernel
theorem dL_law_1031 : decode cL_law 1031 = .ok (.istore 5, 2) := by decide +kernel
theorem dL_law_1033 : decode cL_law 1033 = .ok (.aload_n 2, 1) := by decide +kernel
theorem dL_law_1034 : decode cL_law 1034 = .ok (.aload_n 0, 1) := by decide +kernel
theorem dL_law_1035 : decode cL_law 1035 = .ok (.iload 4, 2) := by decide +kernel
theorem dL_law_1037 : decode cL_law 1037 = .ok (.iconst 1, 1) := by decide +kernel
theorem dL_law_1038 : decode cL_law 1038 = .ok (.iadd, 1) := by decide +kernel
theorem dL_law_1039 : decode cL_law 1039 = .ok (.iaload, 1) := by decide +kernel
theorem dL_law_1040 : decode cL_law 1040 = .ok (.invokevirtual 126, 3) := by decide +kernel
theorem dL_law_1043 : decode cL_law 1043 = .ok (.istore 6, 2) := by decide +kernel
theorem dL_law_1045 : decode cL_law 1045 = .ok (.aload_n 2, 1) := by decide +kernel
theorem dL_law_1046 : decode cL_law 1046 = .ok (.invokevirtual 79, 3) := by decide +kernel
theorem dL_law_1049 : decode cL_law 1049 = .ok (.iload 5, 2) := by decide +kernel
theorem dL_law_1051 : decode cL_law 1051 = .ok (.if_icmp .eq 5, 3) := by decide +kernel
theorem dL_law_1054 : decode cL_law 1054 = .ok (.iconst 0, 1) := by decide +kernel
theorem dL_law_1055 : decode cL_law 1055 = .ok (.ireturn, 1) := by decide +kernel
theorem dL_law_1056 : decode cL_law 1056 = .ok (.iload 5, 2) := by decide +kernel
theorem dL_law_1058 : decode cL_law 1058 = .ok (.ifCond .ne 15, 3) := by decide +kernel
theorem dL_law_1061 : decode cL_law 1061 = .ok (.aload_n 3, 1) := by decide +kernel
theorem dL_law_1062 : decode cL_law 1062 = .ok (.iconst 0, 1) := by decide +kernel
theorem dL_law_1063 : decode cL_law 1063 = .ok (.laload, 1) := by decide +kernel
theorem dL_law_1064 : decode cL_law 1064 = .ok (.iload 6, 2) := by decide +kernel
theorem dL_law_1066 : decode cL_law 1066 = .ok (.i2l, 1) := by decide +kernel
theorem dL_law_1067 : decode cL_law 1067 = .ok (.lcmp, 1) := by decide +kernel
theorem dL_law_1068 : decode cL_law 1068 = .ok (.ifCond .eq 5, 3) := by decide +kernel
theorem dL_law_1071 : decode cL_law 1071 = .ok (.iconst 0, 1) := by decide +kernel
theorem dL_law_1072 : decode cL_law 1072 = .ok (.ireturn, 1) := by decide +kernel
theorem dL_law_1073 : decode cL_law 1073 = .ok (.goto 194, 3) := by decide +kernel
theorem dL_law_1076 : decode cL_law 1076 = .ok (.aload_n 1, 1) := by decide +kernel
theorem dL_law_1077 : decode cL_law 1077 = .ok (.aload_n 0, 1) := by decide +kernel
theorem dL_law_1078 : decode cL_law 1078 = .ok (.iload 4, 2) := by decide +kernel
theorem dL_law_1080 : decode cL_law 1080 = .ok (.iconst 1, 1) := by decide +kernel
theorem dL_law_1081 : decode cL_law 1081 = .ok (.iadd, 1) := by decide +kernel
theorem dL_law_1082 : decode cL_law 1082 = .ok (.iaload, 1) := by decide +kernel
theorem dL_law_1083 : decode cL_law 1083 = .ok (.aload_n 0, 1) := by decide +kernel
theorem dL_law_1084 : decode cL_law 1084 = .ok (.iload 4, 2) := by decide +kernel
theorem dL_law_1086 : decode cL_law 1086 = .ok (.iconst 2, 1) := by decide +kernel
theorem dL_law_1087 : decode cL_law 1087 = .ok (.iadd, 1) := by decide +kernel
theorem dL_law_1088 : decode cL_law 1088 = .ok (.iaload, 1) := by decide +kernel
theorem dL_law_1089 : decode cL_law 1089 = .ok (.aload_n 3, 1) := by decide +kernel
theorem dL_law_1090 : decode cL_law 1090 = .ok (.invokestatic 127, 3) := by decide +kernel
theorem dL_law_1093 : decode cL_law 1093 = .ok (.istore 5, 2) := by decide +kernel
theorem dL_law_1095 : decode cL_law 1095 = .ok (.aload_n 2, 1) := by decide +kernel
theorem dL_law_1096 : decode cL_law 1096 = .ok (.aload_n 0, 1) := by decide +kernel
theorem dL_law_1097 : decode cL_law 1097 = .ok (.iload 4, 2) := by decide +kernel
theorem dL_law_1099 : decode cL_law 1099 = .ok (.iconst 1, 1) := by decide +kernel
theorem dL_law_1100 : decode cL_law 1100 = .ok (.iadd, 1) := by decide +kernel
theorem dL_law_1101 : decode cL_law 1101 = .ok (.iaload, 1) := by decide +kernel
theorem dL_law_1102 : decode cL_law 1102 = .ok (.aload_n 0, 1) := by decide +kernel
theorem dL_law_1103 : decode cL_law 1103 = .ok (.iload 4, 2) := by decide +kernel
theorem dL_law_1105 : decode cL_law 1105 = .ok (.iconst 2, 1) := by decide +kernel
theorem dL_law_1106 : decode cL_law 1106 = .ok (.iadd, 1) := by decide +kernel
theorem dL_law_1107 : decode cL_law 1107 = .ok (.iaload, 1) := by decide +kernel
theorem dL_law_1108 : decode cL_law 1108 = .ok (.invokevirtual 129, 3) := by decide +kernel
theorem dL_law_1111 : decode cL_law 1111 = .ok (.istore 6, 2) := by decide +kernel
theorem dL_law_1113 : decode cL_law 1113 = .ok (.aload_n 2, 1) := by decide +kernel
theorem dL_law_1114 : decode cL_law 1114 = .ok (.invokevirtual 79, 3) := by decide +kernel
theorem dL_law_1117 : decode cL_law 1117 = .ok (.iload 5, 2) := by decide +kernel
theorem dL_law_1119 : decode cL_law 1119 = .ok (.if_icmp .eq 5, 3) := by decide +kernel
theorem dL_law_1122 : decode cL_law 1122 = .ok (.iconst 0, 1) := by decide +kernel
theorem dL_law_1123 : decode cL_law 1123 = .ok (.ireturn, 1) := by decide +kernel
theorem dL_law_1124 : decode cL_law 1124 = .ok (.iload 5, 2) := by decide +kernel
theorem dL_law_1126 : decode cL_law 1126 = .ok (.ifCond .ne 15, 3) := by decide +kernel
theorem dL_law_1129 : decode cL_law 1129 = .ok (.aload_n 3, 1) := by decide +kernel
theorem dL_law_1130 : decode cL_law 1130 = .ok (.iconst 0, 1) := by decide +kernel
theorem dL_law_1131 : decode cL_law 1131 = .ok (.laload, 1) := by decide +kernel
theorem dL_law_1132 : decode cL_law 1132 = .ok (.iload 6, 2) := by decide +kernel
theorem dL_law_1134 : decode cL_law 1134 = .ok (.i2l, 1) := by decide +kernel
theorem dL_law_1135 : decode cL_law 1135 = .ok (.lcmp, 1) := by decide +kernel
theorem dL_law_1136 : decode cL_law 1136 = .ok (.ifCond .eq 5, 3) := by decide +kernel
theorem dL_law_1139 : decode cL_law 1139 = .ok (.iconst 0, 1) := by decide +kernel
theorem dL_law_1140 : decode cL_law 1140 = .ok (.ireturn, 1) := by decide +kernel
theorem dL_law_1141 : decode cL_law 1141 = .ok (.goto 126, 3) := by decide +kernel
theorem dL_law_1144 : decode cL_law 1144 = .ok (.aload_n 1, 1) := by decide +kernel
theorem dL_law_1145 : decode cL_law 1145 = .ok (.aload_n 0, 1) := by decide +kernel
theorem dL_law_1146 : decode cL_law 1146 = .ok (.iload 4, 2) := by decide +kernel
theorem dL_law_1148 : decode cL_law 1148 = .ok (.iconst 1, 1) := by decide +kernel
theorem dL_law_1149 : decode cL_law 1149 = .ok (.iadd, 1) := by decide +kernel
theorem dL_law_1150 : decode cL_law 1150 = .ok (.iaload, 1) := by decide +kernel
theorem dL_law_1151 : decode cL_law 1151 = .ok (.aload_n 0, 1) := by decide +kernel
theorem dL_law_1152 : decode cL_law 1152 = .ok (.iload 4, 2) := by decide +kernel
theorem dL_law_1154 : decode cL_law 1154 = .ok (.iconst 2, 1) := by decide +kernel
theorem dL_law_1155 : decode cL_law 1155 = .ok (.iadd, 1) := by decide +kernel
theorem dL_law_1156 : decode cL_law 1156 = .ok (.iaload, 1) := by decide +kernel
theorem dL_law_1157 : decode cL_law 1157 = .ok (.aload_n 3, 1) := by decide +kernel
theorem dL_law_1158 : decode cL_law 1158 = .ok (.invokestatic 130, 3) := by decide +kernel
theorem dL_law_1161 : decode cL_law 1161 = .ok (.istore 5, 2) := by decide +kernel
theorem dL_law_1163 : decode cL_law 1163 = .ok (.aload_n 2, 1) := by decide +kernel
theorem dL_law_1164 : decode cL_law 1164 = .ok (.aload_n 0, 1) := by decide +kernel
theorem dL_law_1165 : decode cL_law 1165 = .ok (.iload 4, 2) := by decide +kernel
theorem dL_law_1167 : decode cL_law 1167 = .ok (.iconst 1, 1) := by decide +kernel
theorem dL_law_1168 : decode cL_law 1168 = .ok (.iadd, 1) := by decide +kernel
theorem dL_law_1169 : decode cL_law 1169 = .ok (.iaload, 1) := by decide +kernel
theorem dL_law_1170 : decode cL_law 1170 = .ok (.aload_n 0, 1) := by decide +kernel
theorem dL_law_1171 : decode cL_law 1171 = .ok (.iload 4, 2) := by decide +kernel
theorem dL_law_1173 : decode cL_law 1173 = .ok (.iconst 2, 1) := by decide +kernel
theorem dL_law_1174 : decode cL_law 1174 = .ok (.iadd, 1) := by decide +kernel
theorem dL_law_1175 : decode cL_law 1175 = .ok (.iaload, 1) := by decide +kernel
theorem dL_law_1176 : decode cL_law 1176 = .ok (.invokevirtual 132, 3) := by decide +kernel
theorem dL_law_1179 : decode cL_law 1179 = .ok (.istore 6, 2) := by decide +kernel
theorem dL_law_1181 : decode cL_law 1181 = .ok (.aload_n 2, 1) := by decide +kernel
theorem dL_law_1182 : decode cL_law 1182 = .ok (.invokevirtual 79, 3) := by decide +kernel
theorem dL_law_1185 : decode cL_law 1185 = .ok (.iload 5, 2) := by decide +kernel
theorem dL_law_1187 : decode cL_law 1187 = .ok (.if_icmp .eq 5, 3) := by decide +kernel
theorem dL_law_1190 : decode cL_law 1190 = .ok (.iconst 0, 1) := by decide +kernel
theorem dL_law_1191 : decode cL_law 1191 = .ok (.ireturn, 1) := by decide +kernel
theorem dL_law_1192 : decode cL_law 1192 = .ok (.iload 5, 2) := by decide +kernel
theorem dL_law_1194 : decode cL_law 1194 = .ok (.ifCond .ne 15, 3) := by decide +kernel
theorem dL_law_1197 : decode cL_law 1197 = .ok (.aload_n 3, 1) := by decide +kernel
theorem dL_law_1198 : decode cL_law 1198 = .ok (.iconst 0, 1) := by decide +kernel
theorem dL_law_1199 : decode cL_law 1199 = .ok (.laload, 1) := by decide +kernel
theorem dL_law_1200 : decode cL_law 1200 = .ok (.iload 6, 2) := by decide +kernel
theorem dL_law_1202 : decode cL_law 1202 = .ok (.i2l, 1) := by decide +kernel
theorem dL_law_1203 : decode cL_law 1203 = .ok (.lcmp, 1) := by decide +kernel
theorem dL_law_1204 : decode cL_law 1204 = .ok (.ifCond .eq 5, 3) := by decide +kernel
theorem dL_law_1207 : decode cL_law 1207 = .ok (.iconst 0, 1) := by decide +kernel
theorem dL_law_1208 : decode cL_law 1208 = .ok (.ireturn, 1) := by decide +kernel
theorem dL_law_1209 : decode cL_law 1209 = .ok (.goto 58, 3) := by decide +kernel
theorem dL_law_1212 : decode cL_law 1212 = .ok (.aload_n 1, 1) := by decide +kernel
theorem dL_law_1213 : decode cL_law 1213 = .ok (.invokevirtual 133, 3) := by decide +kernel
theorem dL_law_1216 : decode cL_law 1216 = .ok (.dstore 5, 2) := by decide +kernel
theorem dL_law_1218 : decode cL_law 1218 = .ok (.aload_n 2, 1) := by decide +kernel
theorem dL_law_1219 : decode cL_law 1219 = .ok (.invokevirtual 137, 3) := by decide +kernel
theorem dL_law_1222 : decode cL_law 1222 = .ok (.dstore 7, 2) := by decide +kernel
theorem dL_law_1224 : decode cL_law 1224 = .ok (.dload 5, 2) := by decide +kernel
theorem dL_law_1226 : decode cL_law 1226 = .ok (.dload 7, 2) := by decide +kernel
theorem dL_law_1228 : decode cL_law 1228 = .ok (.dcmp .l, 1) := by decide +kernel
theorem dL_law_1229 : decode cL_law 1229 = .ok (.ifCond .eq 21, 3) := by decide +kernel
theorem dL_law_1232 : decode cL_law 1232 = .ok (.dload 5, 2) := by decide +kernel
theorem dL_law_1234 : decode cL_law 1234 = .ok (.dload 5, 2) := by decide +kernel
theorem dL_law_1236 : decode cL_law 1236 = .ok (.dcmp .l, 1) := by decide +kernel
theorem dL_law_1237 : decode cL_law 1237 = .ok (.ifCond .eq 11, 3) := by decide +kernel
theorem dL_law_1240 : decode cL_law 1240 = .ok (.dload 7, 2) := by decide +kernel
theorem dL_law_1242 : decode cL_law 1242 = .ok (.dload 7, 2) := by decide +kernel
theorem dL_law_1244 : decode cL_law 1244 = .ok (.dcmp .l, 1) := by decide +kernel
theorem dL_law_1245 : decode cL_law 1245 = .ok (.ifCond .ne 5, 3) := by decide +kernel
theorem dL_law_1248 : decode cL_law 1248 = .ok (.iconst 0, 1) := by decide +kernel
theorem dL_law_1249 : decode cL_law 1249 = .ok (.ireturn, 1) := by decide +kernel
theorem dL_law_1250 : decode cL_law 1250 = .ok (.goto 17, 3) := by decide +kernel
theorem dL_law_1253 : decode cL_law 1253 = .ok (.aload_n 1, 1) := by decide +kernel
theorem dL_law_1254 : decode cL_law 1254 = .ok (.invokevirtual 138, 3) := by decide +kernel
theorem dL_law_1257 : decode cL_law 1257 = .ok (.aload_n 2, 1) := by decide +kernel
theorem dL_law_1258 : decode cL_law 1258 = .ok (.invokevirtual 142, 3) := by decide +kernel
theorem dL_law_1261 : decode cL_law 1261 = .ok (.lcmp, 1) := by decide +kernel
theorem dL_law_1262 : decode cL_law 1262 = .ok (.ifCond .eq 5, 3) := by decide +kernel
theorem dL_law_1265 : decode cL_law 1265 = .ok (.iconst 0, 1) := by decide +kernel
theorem dL_law_1266 : decode cL_law 1266 = .ok (.ireturn, 1) := by decide +kernel
theorem dL_law_1267 : decode cL_law 1267 = .ok (.iinc 4 4, 3) := by decide +kernel
theorem dL_law_1270 : decode cL_law 1270 = .ok (.goto (-1247), 3) := by decide +kernel
theorem dL_law_1273 : decode cL_law 1273 = .ok (.iconst 1, 1) := by decide +kernel
theorem dL_law_1274 : decode cL_law 1274 = .ok (.ireturn, 1) := by decide +kernel
