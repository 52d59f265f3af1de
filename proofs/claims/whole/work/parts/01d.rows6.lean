set_option maxRecDepth 20000 in
theorem ggX6_init_X6_gate : GoodIn wsX6_init wsX6_gate := goodIn_r _ [15] (by decide +kernel) (by decide +kernel)
set_option maxRecDepth 20000 in
theorem gX6_init_X6_gate : GoodIn wsX6_init (va_wsS RX6 29 yX6_gate wsX6_gate) := goodIn_app (goodIn_of _ (by decide +kernel)) ggX6_init_X6_gate
theorem dX6_init_0 : decode cX6_init 0 = .ok (.aload_n 0, 1) := by decide +kernel
theorem dX6_init_1 : decode cX6_init 1 = .ok (.invokespecial 1, 3) := by decide +kernel
theorem dX6_init_4 : decode cX6_init 4 = .ok (.aload_n 0, 1) := by decide +kernel
theorem dX6_init_5 : decode cX6_init 5 = .ok (.sipush 147, 3) := by decide +kernel
theorem dX6_init_8 : decode cX6_init 8 = .ok (.newarray .int, 2) := by decide +kernel
theorem dX6_init_10 : decode cX6_init 10 = .ok (.putfield 7, 3) := by decide +kernel
theorem dX6_init_13 : decode cX6_init 13 = .ok (.aload_n 0, 1) := by decide +kernel
theorem dX6_init_14 : decode cX6_init 14 = .ok (.sipush 147, 3) := by decide +kernel
theorem dX6_init_17 : decode cX6_init 17 = .ok (.newarray .int, 2) := by decide +kernel
theorem dX6_init_19 : decode cX6_init 19 = .ok (.putfield 13, 3) := by decide +kernel
theorem dX6_init_22 : decode cX6_init 22 = .ok (.aload_n 0, 1) := by decide +kernel
theorem dX6_init_23 : decode cX6_init 23 = .ok (.sipush 735, 3) := by decide +kernel
theorem dX6_init_26 : decode cX6_init 26 = .ok (.newarray .int, 2) := by decide +kernel
theorem dX6_init_28 : decode cX6_init 28 = .ok (.putfield 16, 3) := by decide +kernel
theorem dX6_init_31 : decode cX6_init 31 = .ok (.aload_n 0, 1) := by decide +kernel
theorem dX6_init_32 : decode cX6_init 32 = .ok (.sipush 200, 3) := by decide +kernel
theorem dX6_init_35 : decode cX6_init 35 = .ok (.newarray .int, 2) := by decide +kernel
theorem dX6_init_37 : decode cX6_init 37 = .ok (.putfield 19, 3) := by decide +kernel
theorem dX6_init_40 : decode cX6_init 40 = .ok (.aload_n 0, 1) := by decide +kernel
theorem dX6_init_41 : decode cX6_init 41 = .ok (.bipush 30, 2) := by decide +kernel
theorem dX6_init_43 : decode cX6_init 43 = .ok (.newarray .int, 2) := by decide +kernel
theorem dX6_init_45 : decode cX6_init 45 = .ok (.putfield 22, 3) := by decide +kernel
theorem dX6_init_48 : decode cX6_init 48 = .ok (.aload_n 0, 1) := by decide +kernel
theorem dX6_init_49 : decode cX6_init 49 = .ok (.bipush 64, 2) := by decide +kernel
theorem dX6_init_51 : decode cX6_init 51 = .ok (.newarray .long, 2) := by decide +kernel
theorem dX6_init_53 : decode cX6_init 53 = .ok (.putfield 25, 3) := by decide +kernel
theorem dX6_init_56 : decode cX6_init 56 = .ok (.aload_n 0, 1) := by decide +kernel
theorem dX6_init_57 : decode cX6_init 57 = .ok (.getfield 7, 3) := by decide +kernel
theorem dX6_init_60 : decode cX6_init 60 = .ok (.iconst 0, 1) := by decide +kernel
theorem dX6_init_61 : decode cX6_init 61 = .ok (.iconst 4, 1) := by decide +kernel
theorem dX6_init_62 : decode cX6_init 62 = .ok (.iastore, 1) := by decide +kernel
theorem dX6_init_63 : decode cX6_init 63 = .ok (.aload_n 0, 1) := by decide +kernel
theorem dX6_init_64 : decode cX6_init 64 = .ok (.getfield 7, 3) := by decide +kernel
theorem dX6_init_67 : decode cX6_init 67 = .ok (.iconst 0, 1) := by decide +kernel
theorem dX6_init_68 : decode cX6_init 68 = .ok (.iconst 0, 1) := by decide +kernel
theorem dX6_init_69 : decode cX6_init 69 = .ok (.iconst 2, 1) := by decide +kernel
theorem dX6_init_70 : decode cX6_init 70 = .ok (.invokestatic 29, 3) := by decide +kernel
theorem dX6_init_73 : decode cX6_init 73 = .ok (.aload_n 0, 1) := by decide +kernel
theorem dX6_init_74 : decode cX6_init 74 = .ok (.getfield 7, 3) := by decide +kernel
theorem dX6_init_77 : decode cX6_init 77 = .ok (.iconst 0, 1) := by decide +kernel
theorem dX6_init_78 : decode cX6_init 78 = .ok (.iconst 1, 1) := by decide +kernel
theorem dX6_init_79 : decode cX6_init 79 = .ok (.iconst 3, 1) := by decide +kernel
theorem dX6_init_80 : decode cX6_init 80 = .ok (.invokestatic 29, 3) := by decide +kernel
theorem dX6_init_83 : decode cX6_init 83 = .ok (.aload_n 0, 1) := by decide +kernel
theorem dX6_init_84 : decode cX6_init 84 = .ok (.getfield 7, 3) := by decide +kernel
theorem dX6_init_87 : decode cX6_init 87 = .ok (.iconst 1, 1) := by decide +kernel
theorem dX6_init_88 : decode cX6_init 88 = .ok (.iconst 4, 1) := by decide +kernel
theorem dX6_init_89 : decode cX6_init 89 = .ok (.iconst 5, 1) := by decide +kernel
theorem dX6_init_90 : decode cX6_init 90 = .ok (.invokestatic 29, 3) := by decide +kernel
theorem dX6_init_93 : decode cX6_init 93 = .ok (.aload_n 0, 1) := by decide +kernel
theorem dX6_init_94 : decode cX6_init 94 = .ok (.getfield 7, 3) := by decide +kernel
theorem dX6_init_97 : decode cX6_init 97 = .ok (.iconst 0, 1) := by decide +kernel
theorem dX6_init_98 : decode cX6_init 98 = .ok (.iconst 0, 1) := by decide +kernel
theorem dX6_init_99 : decode cX6_init 99 = .ok (.iconst 3, 1) := by decide +kernel
theorem dX6_init_100 : decode cX6_init 100 = .ok (.invokestatic 29, 3) := by decide +kernel
theorem dX6_init_103 : decode cX6_init 103 = .ok (.aload_n 0, 1) := by decide +kernel
theorem dX6_init_104 : decode cX6_init 104 = .ok (.getfield 7, 3) := by decide +kernel
theorem dX6_init_107 : decode cX6_init 107 = .ok (.iconst 0, 1) := by decide +kernel
theorem dX6_init_108 : decode cX6_init 108 = .ok (.iconst 1, 1) := by decide +kernel
theorem dX6_init_109 : decode cX6_init 109 = .ok (.iconst 2, 1) := by decide +kernel
theorem dX6_init_110 : decode cX6_init 110 = .ok (.invokestatic 29, 3) := by decide +kernel
theorem dX6_init_113 : decode cX6_init 113 = .ok (.aload_n 0, 1) := by decide +kernel
theorem dX6_init_114 : decode cX6_init 114 = .ok (.getfield 7, 3) := by decide +kernel
theorem dX6_init_117 : decode cX6_init 117 = .ok (.iconst 1, 1) := by decide +kernel
theorem dX6_init_118 : decode cX6_init 118 = .ok (.bipush 7, 2) := by decide +kernel
theorem dX6_init_120 : decode cX6_init 120 = .ok (.bipush 8, 2) := by decide +kernel
theorem dX6_init_122 : decode cX6_init 122 = .ok (.invokestatic 29, 3) := by decide +kernel
theorem dX6_init_125 : decode cX6_init 125 = .ok (.aload_n 0, 1) := by decide +kernel
theorem dX6_init_126 : decode cX6_init 126 = .ok (.getfield 7, 3) := by decide +kernel
theorem dX6_init_129 : decode cX6_init 129 = .ok (.bipush 74, 2) := by decide +kernel
theorem dX6_init_131 : decode cX6_init 131 = .ok (.iconst 2, 1) := by decide +kernel
theorem dX6_init_132 : decode cX6_init 132 = .ok (.iastore, 1) := by decide +kernel
theorem dX6_init_133 : decode cX6_init 133 = .ok (.aload_n 0, 1) := by decide +kernel
theorem dX6_init_134 : decode cX6_init 134 = .ok (.getfield 7, 3) := by decide +kernel
theorem dX6_init_137 : decode cX6_init 137 = .ok (.bipush 75, 2) := by decide +kernel
theorem dX6_init_139 : decode cX6_init 139 = .ok (.bipush 6, 2) := by decide +kernel
theorem dX6_init_141 : decode cX6_init 141 = .ok (.iastore, 1) := by decide +kernel
theorem dX6_init_142 : decode cX6_init 142 = .ok (.aload_n 0, 1) := by decide +kernel
theorem dX6_init_143 : decode cX6_init 143 = .ok (.getfield 7, 3) := by decide +kernel
theorem dX6_init_146 : decode cX6_init 146 = .ok (.bipush 76, 2) := by decide +kernel
theorem dX6_init_148 : decode cX6_init 148 = .ok (.bipush 9, 2) := by decide +kernel
theorem dX6_init_150 : decode cX6_init 150 = .ok (.iastore, 1) := by decide +kernel
theorem dX6_init_151 : decode cX6_init 151 = .ok (.aload_n 0, 1) := by decide +kernel
theorem dX6_init_152 : decode cX6_init 152 = .ok (.getfield 7, 3) := by decide +kernel
theorem dX6_init_155 : decode cX6_init 155 = .ok (.bipush 81, 2) := by decide +kernel
theorem dX6_init_157 : decode cX6_init 157 = .ok (.iconst 1, 1) := by decide +kernel
theorem dX6_init_158 : decode cX6_init 158 = .ok (.iastore, 1) := by decide +kernel
theorem dX6_init_159 : decode cX6_init 159 = .ok (.aload_n 0, 1) := by decide +kernel
theorem dX6_init_160 : decode cX6_init 160 = .ok (.getfield 7, 3) := by decide +kernel
theorem dX6_init_163 : decode cX6_init 163 = .ok (.bipush 88, 2) := by decide +kernel
theorem dX6_init_165 : decode cX6_init 165 = .ok (.iconst 1, 1) := by decide +kernel
theorem dX6_init_166 : decode cX6_init 166 = .ok (.iastore, 1) := by decide +kernel
theorem dX6_init_167 : decode cX6_init 167 = .ok (.aload_n 0, 1) := by decide +kernel
theorem dX6_init_168 : decode cX6_init 168 = .ok (.getfield 7, 3) := by decide +kernel
theorem dX6_init_171 : decode cX6_init 171 = .ok (.bipush 89, 2) := by decide +kernel
theorem dX6_init_173 : decode cX6_init 173 = .ok (.iconst 1, 1) := by decide +kernel
theorem dX6_init_174 : decode cX6_init 174 = .ok (.iastore, 1) := by decide +kernel
theorem dX6_init_175 : decode cX6_init 175 = .ok (.aload_n 0, 1) := by decide +kernel
theorem dX6_init_176 : decode cX6_init 176 = .ok (.getfield 7, 3) := by decide +kernel
theorem dX6_init_179 : decode cX6_init 179 = .ok (.bipush 92, 2) := by decide +kernel
theorem dX6_init_181 : decode cX6_init 181 = .ok (.iconst 1, 1) := by decide +kernel
theorem dX6_init_182 : decode cX6_init 182 = .ok (.iastore, 1) := by decide +kernel
theorem dX6_init_183 : decode cX6_init 183 = .ok (.aload_n 0, 1) := by decide +kernel
theorem dX6_init_184 : decode cX6_init 184 = .ok (.getfield 7, 3) := by decide +kernel
theorem dX6_init_187 : decode cX6_init 187 = .ok (.bipush 93, 2) := by decide +kernel
theorem dX6_init_189 : decode cX6_init 189 = .ok (.iconst 1, 1) := by decide +kernel
theorem dX6_init_190 : decode cX6_init 190 = .ok (.iastore, 1) := by decide +kernel
theorem dX6_init_191 : decode cX6_init 191 = .ok (.return_, 1) := by decide +kernel
theorem dX6_in_0 : decode cX6_in 0 = .ok (.lload_n 0, 1) := by decide +kernel
theorem dX6_in_1 : decode cX6_in 1 = .ok (.lload_n 2, 1) := by decide +kernel
theorem dX6_in_2 : decode cX6_in 2 = .ok (.lcmp, 1) := by decide +kernel
theorem dX6_in_3 : decode cX6_in 3 = .ok (.ifCond .lt 14, 3) := by decide +kernel
theorem dX6_in_6 : decode cX6_in 6 = .ok (.lload_n 0, 1) := by decide +kernel
theorem dX6_in_7 : decode cX6_in 7 = .ok (.lload 4, 2) := by decide +kernel
theorem dX6_in_9 : decode cX6_in 9 = .ok (.lcmp, 1) := by decide +kernel
theorem dX6_in_10 : decode cX6_in 10 = .ok (.ifCond .gt 7, 3) := by decide +kernel
theorem dX6_in_13 : decode cX6_in 13 = .ok (.iconst 1, 1) := by decide +kernel
theorem dX6_in_14 : decode cX6_in 14 = .ok (.goto 4, 3) := by decide +kernel
theorem dX6_in_17 : decode cX6_in 17 = .ok (.iconst 0, 1) := by decide +kernel
theorem dX6_in_18 : decode cX6_in 18 = .ok (.ireturn, 1) := by decide +kernel
theorem dX6_gate_0 : decode cX6_gate 0 = .ok (.iconst 2, 1) := by decide +kernel
theorem dX6_gate_1 : decode cX6_gate 1 = .ok (.iconst 3, 1) := by decide +kernel
theorem dX6_gate_2 : decode cX6_gate 2 = .ok (.aload_n 0, 1) := by decide +kernel
theorem dX6_gate_3 : decode cX6_gate 3 = .ok (.iconst 1, 1) := by decide +kernel
theorem dX6_gate_4 : decode cX6_gate 4 = .ok (.iaload, 1) := by decide +kernel
theorem dX6_gate_5 : decode cX6_gate 5 = .ok (.imul, 1) := by decide +kernel
theorem dX6_gate_6 : decode cX6_gate 6 = .ok (.iadd, 1) := by decide +kernel
theorem dX6_gate_7 : decode cX6_gate 7 = .ok (.istore 4, 2) := by decide +kernel
theorem dX6_gate_9 : decode cX6_gate 9 = .ok (.aload_n 0, 1) := by decide +kernel
theorem dX6_gate_10 : decode cX6_gate 10 = .ok (.iload 4, 2) := by decide +kernel
theorem dX6_gate_12 : decode cX6_gate 12 = .ok (.iload_n 1, 1) := by decide +kernel
theorem dX6_gate_13 : decode cX6_gate 13 = .ok (.iastore, 1) := by decide +kernel
theorem dX6_gate_14 : decode cX6_gate 14 = .ok (.aload_n 0, 1) := by decide +kernel
theorem dX6_gate_15 : decode cX6_gate 15 = .ok (.iload 4, 2) := by decide +kernel
theorem dX6_gate_17 : decode cX6_gate 17 = .ok (.iconst 1, 1) := by decide +kernel
theorem dX6_gate_18 : decode cX6_gate 18 = .ok (.iadd, 1) := by decide +kernel
theorem dX6_gate_19 : decode cX6_gate 19 = .ok (.iload_n 2, 1) := by decide +kernel
theorem dX6_gate_20 : decode cX6_gate 20 = .ok (.iastore, 1) := by decide +kernel
theorem dX6_gate_21 : decode cX6_gate 21 = .ok (.aload_n 0, 1) := by decide +kernel
theorem dX6_gate_22 : decode cX6_gate 22 = .ok (.iload 4, 2) := by decide +kernel
theorem dX6_gate_24 : decode cX6_gate 24 = .ok (.iconst 2, 1) := by decide +kernel
theorem dX6_gate_25 : decode cX6_gate 25 = .ok (.iadd, 1) := by decide +kernel
theorem dX6_gate_26 : decode cX6_gate 26 = .ok (.iload_n 3, 1) := by decide +kernel
theorem dX6_gate_27 : decode cX6_gate 27 = .ok (.iastore, 1) := by decide +kernel
theorem dX6_gate_28 : decode cX6_gate 28 = .ok (.aload_n 0, 1) := by decide +kernel
theorem dX6_gate_29 : decode cX6_gate 29 = .ok (.iconst 1, 1) := by decide +kernel
theorem dX6_gate_30 : decode cX6_gate 30 = .ok (.dup2, 1) := by decide +kernel
theorem dX6_gate_31 : decode cX6_gate 31 = .ok (.iaload, 1) := by decide +kernel
theorem dX6_gate_32 : decode cX6_gate 32 = .ok (.iconst 1, 1) := by decide +kernel
theorem dX6_gate_33 : decode cX6_gate 33 = .ok (.iadd, 1) := by decide +kernel
theorem dX6_gate_34 : decode cX6_gate 34 = .ok (.iastore, 1) := by decide +kernel
theorem dX6_gate_35 : decode cX6_gate 35 = .ok (.return_, 1) := by decide +kernel
theorem dX6_nodesOf_0 : decode cX6_nodesOf 0 = .ok (.aload_n 0, 1) := by decide +kernel
theorem dX6_nodesOf_1 : decode cX6_nodesOf 1 = .ok (.iconst 0, 1) := by decide +kernel
theorem dX6_nodesOf_2 : decode cX6_nodesOf 2 = .ok (.iaload, 1) := by decide +kernel
theorem dX6_nodesOf_3 : decode cX6_nodesOf 3 = .ok (.aload_n 0, 1) := by decide +kernel
theorem dX6_nodesOf_4 : decode cX6_nodesOf 4 = .ok (.iconst 1, 1) := by decide +kernel
theorem dX6_nodesOf_5 : decode cX6_nodesOf 5 = .ok (.iaload, 1) := by decide +kernel
theorem dX6_nodesOf_6 : decode cX6_nodesOf 6 = .ok (.iadd, 1) := by decide +kernel
theorem dX6_nodesOf_7 : decode cX6_nodesOf 7 = .ok (.ireturn, 1) := by decide +kernel
set_option maxRecDepth 20000 in
theorem ggX6_append_X6_in : GoodIn wsX6_append wsX6_in := goodIn_r _ [8] (by decide +kernel) (by decide +kernel)
set_option maxRecDepth 20000 in
theorem gX6_append_X6_in : GoodIn wsX6_append (va_wsS RX6 37 yX6_in wsX6_in) := goodIn_app (goodIn_of _ (by decide +kernel)) ggX6_append_X6_in
theorem dX6_append_0 : decode cX6_append 0 = .ok (.iload_n 1, 1) := by decide +kernel
theorem dX6_append_1 : decode cX6_append 1 = .ok (.i2l, 1) := by decide +kernel
theorem dX6_append_2 : decode cX6_append 2 = .ok (.ldc2_w 33, 3) := by decide +kernel
theorem dX6_append_5 : decode cX6_append 5 = .ok (.ldc2_w 35, 3) := by decide +kernel
theorem dX6_append_8 : decode cX6_append 8 = .ok (.invokestatic 37, 3) := by decide +kernel
theorem dX6_append_11 : decode cX6_append 11 = .ok (.ifCond .ne 6, 3) := by decide +kernel
theorem dX6_append_14 : decode cX6_append 14 = .ok (.bipush (-101), 2) := by decide +kernel
theorem dX6_append_16 : decode cX6_append 16 = .ok (.ireturn, 1) := by decide +kernel
theorem dX6_append_17 : decode cX6_append 17 = .ok (.aload_n 0, 1) := by decide +kernel
theorem dX6_append_18 : decode cX6_append 18 = .ok (.getfield 41, 3) := by decide +kernel
theorem dX6_append_21 : decode cX6_append 21 = .ok (.sipush 200, 3) := by decide +kernel
theorem dX6_append_24 : decode cX6_append 24 = .ok (.if_icmp .ne 6, 3) := by decide +kernel
theorem dX6_append_27 : decode cX6_append 27 = .ok (.bipush (-103), 2) := by decide +kernel
theorem dX6_append_29 : decode cX6_append 29 = .ok (.ireturn, 1) := by decide +kernel
theorem dX6_append_30 : decode cX6_append 30 = .ok (.aload_n 0, 1) := by decide +kernel
theorem dX6_append_31 : decode cX6_append 31 = .ok (.getfield 19, 3) := by decide +kernel
theorem dX6_append_34 : decode cX6_append 34 = .ok (.aload_n 0, 1) := by decide +kernel
theorem dX6_append_35 : decode cX6_append 35 = .ok (.getfield 41, 3) := by decide +kernel
theorem dX6_append_38 : decode cX6_append 38 = .ok (.iload_n 1, 1) := by decide +kernel
theorem dX6_append_39 : decode cX6_append 39 = .ok (.iastore, 1) := by decide +kernel
theorem dX6_append_40 : decode cX6_append 40 = .ok (.aload_n 0, 1) := by decide +kernel
theorem dX6_append_41 : decode cX6_append 41 = .ok (.dup, 1) := by decide +kernel
theorem dX6_append_42 : decode cX6_append 42 = .ok (.getfield 41, 3) := by decide +kernel
theorem dX6_append_45 : decode cX6_append 45 = .ok (.iconst 1, 1) := by decide +kernel
theorem dX6_append_46 : decode cX6_append 46 = .ok (.iadd, 1) := by decide +kernel
theorem dX6_append_47 : decode cX6_append 47 = .ok (.putfield 41, 3) := by decide +kernel
theorem dX6_append_50 : decode cX6_append 50 = .ok (.aload_n 0, 1) := by decide +kernel
theorem dX6_append_51 : decode cX6_append 51 = .ok (.getfield 41, 3) := by decide +kernel
theorem dX6_append_54 : decode cX6_append 54 = .ok (.ireturn, 1) := by decide +kernel
theorem dX6_clearText_0 : decode cX6_clearText 0 = .ok (.aload_n 0, 1) := by decide +kernel
theorem dX6_clearText_1 : decode cX6_clearText 1 = .ok (.getfield 41, 3) := by decide +kernel
theorem dX6_clearText_4 : decode cX6_clearText 4 = .ok (.istore_n 1, 1) := by decide +kernel
theorem dX6_clearText_5 : decode cX6_clearText 5 = .ok (.aload_n 0, 1) := by decide +kernel
theorem dX6_clearText_6 : decode cX6_clearText 6 = .ok (.iconst 0, 1) := by decide +kernel
theorem dX6_clearText_7 : decode cX6_clearText 7 = .ok (.putfield 41, 3) := by decide +kernel
theorem dX6_clearText_10 : decode cX6_clearText 10 = .ok (.iload_n 1, 1) := by decide +kernel
theorem dX6_clearText_11 : decode cX6_clearText 11 = .ok (.ireturn, 1) := by decide +kernel
theorem dX6_here_0 : decode cX6_here 0 = .ok (.aload_n 0, 1) := by decide +kernel
theorem dX6_here_1 : decode cX6_here 1 = .ok (.getfield 45, 3) := by decide +kernel
theorem dX6_here_4 : decode cX6_here 4 = .ok (.aload_n 0, 1) := by decide +kernel
theorem dX6_here_5 : decode cX6_here 5 = .ok (.getfield 41, 3) := by decide +kernel
theorem dX6_here_8 : decode cX6_here 8 = .ok (.if_icmp .ge 15, 3) := by decide +kernel
theorem dX6_here_11 : decode cX6_here 11 = .ok (.aload_n 0, 1) := by decide +kernel
theorem dX6_here_12 : decode cX6_here 12 = .ok (.getfield 19, 3) := by decide +kernel
theorem dX6_here_15 : decode cX6_here 15 = .ok (.aload_n 0, 1) := by decide +kernel
theorem dX6_here_16 : decode cX6_here 16 = .ok (.getfield 45, 3) := by decide +kernel
theorem dX6_here_19 : decode cX6_here 19 = .ok (.iaload, 1) := by decide +kernel
theorem dX6_here_20 : decode cX6_here 20 = .ok (.goto 4, 3) := by decide +kernel
theorem dX6_here_23 : decode cX6_here 23 = .ok (.iconst 0, 1) := by decide +kernel
theorem dX6_here_24 : decode cX6_here 24 = .ok (.ireturn, 1) := by decide +kernel
set_option maxRecDepth 20000 in
theorem ggX6_number_X6_here : GoodIn wsX6_number wsX6_here := goodIn_r _ [10, 3, 11, 12, 16, 17, 18, 19, 20, 21, 22, 23, 24, 25, 26] (by decide +kernel) (by decide +kernel)
set_option maxRecDepth 20000 in
theorem gX6_number_X6_here : GoodIn wsX6_number (wsV RX6 48 RX6 yX6_here wsX6_here) := goodIn_app (goodIn_of _ (by decide +kernel)) ggX6_number_X6_here
set_option maxRecDepth 20000 in
theorem ggX6_number_X6_in : GoodIn wsX6_number wsX6_in := goodIn_r _ [15] (by decide +kernel) (by decide +kernel)
set_option maxRecDepth 20000 in
theorem gX6_number_X6_in : GoodIn wsX6_number (va_wsS RX6 37 yX6_in wsX6_in) := goodIn_app (goodIn_of _ (by decide +kernel)) ggX6_number_X6_in
theorem dX6_number_0 : decode cX6_number 0 = .ok (.iconst 0, 1) := by decide +kernel
theorem dX6_number_1 : decode cX6_number 1 = .ok (.istore_n 1, 1) := by decide +kernel
theorem dX6_number_2 : decode cX6_number 2 = .ok (.iconst 0, 1) := by decide +kernel
theorem dX6_number_3 : decode cX6_number 3 = .ok (.istore_n 2, 1) := by decide +kernel
theorem dX6_number_4 : decode cX6_number 4 = .ok (.aload_n 0, 1) := by decide +kernel
theorem dX6_number_5 : decode cX6_number 5 = .ok (.invokevirtual 48, 3) := by decide +kernel
theorem dX6_number_8 : decode cX6_number 8 = .ok (.i2l, 1) := by decide +kernel
theorem dX6_number_9 : decode cX6_number 9 = .ok (.ldc2_w 52, 3) := by decide +kernel
theorem dX6_number_12 : decode cX6_number 12 = .ok (.ldc2_w 54, 3) := by decide +kernel
theorem dX6_number_15 : decode cX6_number 15 = .ok (.invokestatic 37, 3) := by decide +kernel
theorem dX6_number_18 : decode cX6_number 18 = .ok (.ifCond .eq 41, 3) := by decide +kernel
theorem dX6_number_21 : decode cX6_number 21 = .ok (.iload_n 2, 1) := by decide +kernel
theorem dX6_number_22 : decode cX6_number 22 = .ok (.iconst 2, 1) := by decide +kernel
theorem dX6_number_23 : decode cX6_number 23 = .ok (.if_icmp .ge 18, 3) := by decide +kernel
theorem dX6_number_26 : decode cX6_number 26 = .ok (.bipush 10, 2) := by decide +kernel
theorem dX6_number_28 : decode cX6_number 28 = .ok (.iload_n 1, 1) := by decide +kernel
theorem dX6_number_29 : decode cX6_number 29 = .ok (.imul, 1) := by decide +kernel
theorem dX6_number_30 : decode cX6_number 30 = .ok (.aload_n 0, 1) := by decide +kernel
theorem dX6_number_31 : decode cX6_number 31 = .ok (.invokevirtual 48, 3) := by decide +kernel
theorem dX6_number_34 : decode cX6_number 34 = .ok (.iadd, 1) := by decide +kernel
theorem dX6_number_35 : decode cX6_number 35 = .ok (.bipush 48, 2) := by decide +kernel
theorem dX6_number_37 : decode cX6_number 37 = .ok (.isub, 1) := by decide +kernel
theorem dX6_number_38 : decode cX6_number 38 = .ok (.goto 4, 3) := by decide +kernel
theorem dX6_number_41 : decode cX6_number 41 = .ok (.iload_n 1, 1) := by decide +kernel
theorem dX6_number_42 : decode cX6_number 42 = .ok (.istore_n 1, 1) := by decide +kernel
theorem dX6_number_43 : decode cX6_number 43 = .ok (.iinc 2 1, 3) := by decide +kernel
theorem dX6_number_46 : decode cX6_number 46 = .ok (.aload_n 0, 1) := by decide +kernel
theorem dX6_number_47 : decode cX6_number 47 = .ok (.dup, 1) := by decide +kernel
theorem dX6_number_48 : decode cX6_number 48 = .ok (.getfield 45, 3) := by decide +kernel
theorem dX6_number_51 : decode cX6_number 51 = .ok (.iconst 1, 1) := by decide +kernel
theorem dX6_number_52 : decode cX6_number 52 = .ok (.iadd, 1) := by decide +kernel
theorem dX6_number_53 : decode cX6_number 53 = .ok (.putfield 45, 3) := by decide +kernel
theorem dX6_number_56 : decode cX6_number 56 = .ok (.goto (-52), 3) := by decide +kernel
theorem dX6_number_59 : decode cX6_number 59 = .ok (.aload_n 0, 1) := by decide +kernel
theorem dX6_number_60 : decode cX6_number 60 = .ok (.aload_n 0, 1) := by decide +kernel
theorem dX6_number_61 : decode cX6_number 61 = .ok (.getfield 56, 3) := by decide +kernel
theorem dX6_number_64 : decode cX6_number 64 = .ok (.ifCond .ne 19, 3) := by decide +kernel
theorem dX6_number_67 : decode cX6_number 67 = .ok (.iload_n 2, 1) := by decide +kernel
theorem dX6_number_68 : decode cX6_number 68 = .ok (.i2l, 1) := by decide +kernel
theorem dX6_number_69 : decode cX6_number 69 = .ok (.lconst 1, 1) := by decide +kernel
theorem dX6_number_70 : decode cX6_number 70 = .ok (.ldc2_w 59, 3) := by decide +kernel
theorem dX6_number_73 : decode cX6_number 73 = .ok (.invokestatic 37, 3) := by decide +kernel
theorem dX6_number_76 : decode cX6_number 76 = .ok (.ifCond .ne 7, 3) := by decide +kernel
theorem dX6_number_79 : decode cX6_number 79 = .ok (.iconst 2, 1) := by decide +kernel
theorem dX6_number_80 : decode cX6_number 80 = .ok (.goto 7, 3) := by decide +kernel
theorem dX6_number_83 : decode cX6_number 83 = .ok (.aload_n 0, 1) := by decide +kernel
theorem dX6_number_84 : decode cX6_number 84 = .ok (.getfield 56, 3) := by decide +kernel
theorem dX6_number_87 : decode cX6_number 87 = .ok (.putfield 56, 3) := by decide +kernel
theorem dX6_number_90 : decode cX6_number 90 = .ok (.iload_n 1, 1) := by decide +kernel
theorem dX6_number_91 : decode cX6_number 91 = .ok (.ireturn, 1) := by decide +kernel
set_option maxRecDepth 20000 in
theorem ggX6_sign_X6_here : GoodIn wsX6_sign wsX6_here := goodIn_r _ [7, 2, 8, 9, 10, 11, 12, 13, 14, 15, 16, 17, 18, 19, 20] (by decide +kernel) (by decide +kernel)
set_option maxRecDepth 20000 in
theorem gX6_sign_X6_here : GoodIn wsX6_sign (wsV RX6 48 RX6 yX6_here wsX6_here) := goodIn_app (goodIn_of _ (by decide +kernel)) ggX6_sign_X6_here
theorem dX6_sign_0 : decode cX6_sign 0 = .ok (.aload_n 0, 1) := by decide +kernel
theorem dX6_sign_1 : decode cX6_sign 1 = .ok (.aload_n 0, 1) := by decide +kernel
theorem dX6_sign_2 : decode cX6_sign 2 = .ok (.getfield 56, 3) := by decide +kernel
theorem dX6_sign_5 : decode cX6_sign 5 = .ok (.ifCond .ne 15, 3) := by decide +kernel
theorem dX6_sign_8 : decode cX6_sign 8 = .ok (.aload_n 0, 1) := by decide +kernel
theorem dX6_sign_9 : decode cX6_sign 9 = .ok (.invokevirtual 48, 3) := by decide +kernel
theorem dX6_sign_12 : decode cX6_sign 12 = .ok (.iload_n 1, 1) := by decide +kernel
theorem dX6_sign_13 : decode cX6_sign 13 = .ok (.if_icmp .eq 7, 3) := by decide +kernel
theorem dX6_sign_16 : decode cX6_sign 16 = .ok (.iconst 2, 1) := by decide +kernel
theorem dX6_sign_17 : decode cX6_sign 17 = .ok (.goto 7, 3) := by decide +kernel
theorem dX6_sign_20 : decode cX6_sign 20 = .ok (.aload_n 0, 1) := by decide +kernel
theorem dX6_sign_21 : decode cX6_sign 21 = .ok (.getfield 56, 3) := by decide +kernel
theorem dX6_sign_24 : decode cX6_sign 24 = .ok (.putfield 56, 3) := by decide +kernel
theorem dX6_sign_27 : decode cX6_sign 27 = .ok (.aload_n 0, 1) := by decide +kernel
theorem dX6_sign_28 : decode cX6_sign 28 = .ok (.dup, 1) := by decide +kernel
theorem dX6_sign_29 : decode cX6_sign 29 = .ok (.getfield 45, 3) := by decide +kernel
theorem dX6_sign_32 : decode cX6_sign 32 = .ok (.iconst 1, 1) := by decide +kernel
theorem dX6_sign_33 : decode cX6_sign 33 = .ok (.iadd, 1) := by decide +kernel
theorem dX6_sign_34 : decode cX6_sign 34 = .ok (.putfield 45, 3) := by decide +kernel
theorem dX6_sign_37 : decode cX6_sign 37 = .ok (.return_, 1) := by decide +kernel
theorem dX6_checked_0 : decode cX6_checked 0 = .ok (.aload_n 0, 1) := by decide +kernel
theorem dX6_checked_1 : decode cX6_checked 1 = .ok (.aload_n 0, 1) := by decide +kernel
theorem dX6_checked_2 : decode cX6_checked 2 = .ok (.getfield 56, 3) := by decide +kernel
theorem dX6_checked_5 : decode cX6_checked 5 = .ok (.ifCond .eq 10, 3) := by decide +kernel
theorem dX6_checked_8 : decode cX6_checked 8 = .ok (.aload_n 0, 1) := by decide +kernel
theorem dX6_checked_9 : decode cX6_checked 9 = .ok (.getfield 56, 3) := by decide +kernel
theorem dX6_checked_12 : decode cX6_checked 12 = .ok (.goto 20, 3) := by decide +kernel
theorem dX6_checked_15 : decode cX6_checked 15 = .ok (.iload_n 1, 1) := by decide +kernel
theorem dX6_checked_16 : decode cX6_checked 16 = .ok (.ifCond .ne 7, 3) := by decide +kernel
theorem dX6_checked_19 : decode cX6_checked 19 = .ok (.iconst 3, 1) := by decide +kernel
theorem dX6_checked_20 : decode cX6_checked 20 = .ok (.goto 12, 3) := by decide +kernel
theorem dX6_checked_23 : decode cX6_checked 23 = .ok (.iload_n 2, 1) := by decide +kernel
theorem dX6_checked_24 : decode cX6_checked 24 = .ok (.ifCond .ne 7, 3) := by decide +kernel
theorem dX6_checked_27 : decode cX6_checked 27 = .ok (.iconst 4, 1) := by decide +kernel
theorem dX6_checked_28 : decode cX6_checked 28 = .ok (.goto 4, 3) := by decide +kernel
theorem dX6_checked_31 : decode cX6_checked 31 = .ok (.iconst 0, 1) := by decide +kernel
theorem dX6_checked_32 : decode cX6_checked 32 = .ok (.putfield 56, 3) := by decide +kernel
theorem dX6_checked_35 : decode cX6_checked 35 = .ok (.return_, 1) := by decide +kernel
set_option maxRecDepth 20000 in
theorem ggX6_isNodeOf_X6_nodesOf : GoodIn wsX6_isNodeOf wsX6_nodesOf := goodIn_r _ [5] (by decide +kernel) (by decide +kernel)
set_option maxRecDepth 20000 in
theorem gX6_isNodeOf_X6_nodesOf : GoodIn wsX6_isNodeOf (va_wsS RX6 61 yX6_nodesOf wsX6_nodesOf) := goodIn_app (goodIn_of _ (by decide +kernel)) ggX6_isNodeOf_X6_nodesOf
theorem dX6_isNodeOf_0 : decode cX6_isNodeOf 0 = .ok (.iload_n 1, 1) := by decide +kernel
theorem dX6_isNodeOf_1 : decode cX6_isNodeOf 1 = .ok (.aload_n 0, 1) := by decide +kernel
theorem dX6_isNodeOf_2 : decode cX6_isNodeOf 2 = .ok (.getfield 13, 3) := by decide +kernel
theorem dX6_isNodeOf_5 : decode cX6_isNodeOf 5 = .ok (.invokestatic 61, 3) := by decide +kernel
theorem dX6_isNodeOf_8 : decode cX6_isNodeOf 8 = .ok (.if_icmp .ge 7, 3) := by decide +kernel
theorem dX6_isNodeOf_11 : decode cX6_isNodeOf 11 = .ok (.iconst 1, 1) := by decide +kernel
theorem dX6_isNodeOf_12 : decode cX6_isNodeOf 12 = .ok (.goto 4, 3) := by decide +kernel
theorem dX6_isNodeOf_15 : decode cX6_isNodeOf 15 = .ok (.iconst 0, 1) := by decide +kernel
theorem dX6_isNodeOf_16 : decode cX6_isNodeOf 16 = .ok (.ireturn, 1) := by decide +kernel
set_option maxRecDepth 20000 in
theorem ggX6_gateHere_X6_number : GoodIn wsX6_gateHere wsX6_number := goodIn_r _ [7, 8, 9, 10, 1, 11, 12, 13, 14, 6, 15, 16, 17, 18, 19, 20, 39, 40, 41, 42, 43, 44, 45, 46, 47, 48, 49] (by decide +kernel) (by decide +kernel)
set_option maxRecDepth 20000 in
theorem gX6_gateHere_X6_number : GoodIn wsX6_gateHere (wsV RX6 65 RX6 yX6_number wsX6_number) := goodIn_app (goodIn_of _ (by decide +kernel)) ggX6_gateHere_X6_number
set_option maxRecDepth 20000 in
theorem ggX6_gateHere_X6_sign : GoodIn wsX6_gateHere wsX6_sign := goodIn_r _ [24, 1, 10, 12, 13, 14, 6, 15, 16, 17, 39, 40, 41, 42, 43, 44, 45, 46, 47, 48, 49] (by decide +kernel) (by decide +kernel)
set_option maxRecDepth 20000 in
theorem gX6_gateHere_X6_sign : GoodIn wsX6_gateHere (wsV RX6 68 RX6 yX6_sign wsX6_sign) := goodIn_app (goodIn_of _ (by decide +kernel)) ggX6_gateHere_X6_sign
set_option maxRecDepth 20000 in
theorem ggX6_gateHere_X6_here : GoodIn wsX6_gateHere wsX6_here := goodIn_r _ [15, 10, 16, 17, 39, 40, 41, 42, 43, 44, 45, 46, 47, 48, 49] (by decide +kernel) (by decide +kernel)
set_option maxRecDepth 20000 in
theorem gX6_gateHere_X6_here : GoodIn wsX6_gateHere (wsV RX6 48 RX6 yX6_here wsX6_here) := goodIn_app (goodIn_of _ (by decide +kernel)) ggX6_gateHere_X6_here
set_option maxRecDepth 20000 in
theorem ggX6_gateHere_X6_isNodeOf : GoodIn wsX6_gateHere wsX6_isNodeOf := goodIn_r _ [28, 2, 29, 30, 6, 31, 39, 40, 41, 42, 43, 44, 45, 46, 47, 48, 49] (by decide +kernel) (by decide +kernel)
set_option maxRecDepth 20000 in
theorem gX6_gateHere_X6_isNodeOf : GoodIn wsX6_gateHere (wsV RX6 72 RX6 yX6_isNodeOf wsX6_isNodeOf) := goodIn_app (goodIn_of _ (by decide +kernel)) ggX6_gateHere_X6_isNodeOf
set_option maxRecDepth 20000 in
theorem ggX6_gateHere_X6_checked : GoodIn wsX6_gateHere wsX6_checked := goodIn_r _ [35, 1, 39, 40, 41, 42, 43, 44, 45, 46, 47, 48, 49] (by decide +kernel) (by decide +kernel)
set_option maxRecDepth 20000 in
theorem gX6_gateHere_X6_checked : GoodIn wsX6_gateHere (wsV RX6 76 RX6 yX6_checked wsX6_checked) := goodIn_app (goodIn_of _ (by decide +kernel)) ggX6_gateHere_X6_checked
set_option maxRecDepth 20000 in
theorem ggX6_gateHere_X6_gate : GoodIn wsX6_gateHere wsX6_gate := goodIn_r _ [38] (by decide +kernel) (by decide +kernel)
set_option maxRecDepth 20000 in
theorem gX6_gateHere_X6_gate : GoodIn wsX6_gateHere (va_wsS RX6 29 yX6_gate wsX6_gate) := goodIn_app (goodIn_of _ (by decide +kernel)) ggX6_gateHere_X6_gate
theorem dX6_gateHere_0 : decode cX6_gateHere 0 = .ok (.aload_n 0, 1) := by decide +kernel
theorem dX6_gateHere_1 : decode cX6_gateHere 1 = .ok (.invokevirtual 65, 3) := by decide +kernel
theorem dX6_gateHere_4 : decode cX6_gateHere 4 = .ok (.istore_n 1, 1) := by decide +kernel
theorem dX6_gateHere_5 : decode cX6_gateHere 5 = .ok (.aload_n 0, 1) := by decide +kernel
theorem dX6_gateHere_6 : decode cX6_gateHere 6 = .ok (.bipush 44, 2) := by decide +kernel
theorem dX6_gateHere_8 : decode cX6_gateHere 8 = .ok (.invokevirtual 68, 3) := by decide +kernel
theorem dX6_gateHere_11 : decode cX6_gateHere 11 = .ok (.aload_n 0, 1) := by decide +kernel
theorem dX6_gateHere_12 : decode cX6_gateHere 12 = .ok (.invokevirtual 65, 3) := by decide +kernel
theorem dX6_gateHere_15 : decode cX6_gateHere 15 = .ok (.istore_n 2, 1) := by decide +kernel
theorem dX6_gateHere_16 : decode cX6_gateHere 16 = .ok (.aload_n 0, 1) := by decide +kernel
theorem dX6_gateHere_17 : decode cX6_gateHere 17 = .ok (.getfield 56, 3) := by decide +kernel
theorem dX6_gateHere_20 : decode cX6_gateHere 20 = .ok (.ifCond .ne 16, 3) := by decide +kernel
theorem dX6_gateHere_23 : decode cX6_gateHere 23 = .ok (.aload_n 0, 1) := by decide +kernel
theorem dX6_gateHere_24 : decode cX6_gateHere 24 = .ok (.invokevirtual 48, 3) := by decide +kernel
theorem dX6_gateHere_27 : decode cX6_gateHere 27 = .ok (.bipush 44, 2) := by decide +kernel
theorem dX6_gateHere_29 : decode cX6_gateHere 29 = .ok (.if_icmp .ne 7, 3) := by decide +kernel
theorem dX6_gateHere_32 : decode cX6_gateHere 32 = .ok (.iconst 1, 1) := by decide +kernel
theorem dX6_gateHere_33 : decode cX6_gateHere 33 = .ok (.goto 4, 3) := by decide +kernel
theorem dX6_gateHere_36 : decode cX6_gateHere 36 = .ok (.iconst 0, 1) := by decide +kernel
theorem dX6_gateHere_37 : decode cX6_gateHere 37 = .ok (.istore_n 3, 1) := by decide +kernel
theorem dX6_gateHere_38 : decode cX6_gateHere 38 = .ok (.iconst 0, 1) := by decide +kernel
theorem dX6_gateHere_39 : decode cX6_gateHere 39 = .ok (.istore 4, 2) := by decide +kernel
theorem dX6_gateHere_41 : decode cX6_gateHere 41 = .ok (.iload_n 3, 1) := by decide +kernel
theorem dX6_gateHere_42 : decode cX6_gateHere 42 = .ok (.ifCond .eq 15, 3) := by decide +kernel
theorem dX6_gateHere_45 : decode cX6_gateHere 45 = .ok (.aload_n 0, 1) := by decide +kernel
theorem dX6_gateHere_46 : decode cX6_gateHere 46 = .ok (.bipush 44, 2) := by decide +kernel
theorem dX6_gateHere_48 : decode cX6_gateHere 48 = .ok (.invokevirtual 68, 3) := by decide +kernel
theorem dX6_gateHere_51 : decode cX6_gateHere 51 = .ok (.aload_n 0, 1) := by decide +kernel
theorem dX6_gateHere_52 : decode cX6_gateHere 52 = .ok (.invokevirtual 65, 3) := by decide +kernel
theorem dX6_gateHere_55 : decode cX6_gateHere 55 = .ok (.istore 4, 2) := by decide +kernel
theorem dX6_gateHere_57 : decode cX6_gateHere 57 = .ok (.aload_n 0, 1) := by decide +kernel
theorem dX6_gateHere_58 : decode cX6_gateHere 58 = .ok (.bipush 59, 2) := by decide +kernel
theorem dX6_gateHere_60 : decode cX6_gateHere 60 = .ok (.invokevirtual 68, 3) := by decide +kernel
theorem dX6_gateHere_63 : decode cX6_gateHere 63 = .ok (.aload_n 0, 1) := by decide +kernel
theorem dX6_gateHere_64 : decode cX6_gateHere 64 = .ok (.iload_n 1, 1) := by decide +kernel
theorem dX6_gateHere_65 : decode cX6_gateHere 65 = .ok (.iconst 5, 1) := by decide +kernel
theorem dX6_gateHere_66 : decode cX6_gateHere 66 = .ok (.if_icmp .gt 50, 3) := by decide +kernel
theorem dX6_gateHere_69 : decode cX6_gateHere 69 = .ok (.iload_n 1, 1) := by decide +kernel
theorem dX6_gateHere_70 : decode cX6_gateHere 70 = .ok (.iconst 5, 1) := by decide +kernel
theorem dX6_gateHere_71 : decode cX6_gateHere 71 = .ok (.if_icmp .ne 7, 3) := by decide +kernel
theorem dX6_gateHere_74 : decode cX6_gateHere 74 = .ok (.iconst 1, 1) := by decide +kernel
theorem dX6_gateHere_75 : decode cX6_gateHere 75 = .ok (.goto 4, 3) := by decide +kernel
theorem dX6_gateHere_78 : decode cX6_gateHere 78 = .ok (.iconst 0, 1) := by decide +kernel
theorem dX6_gateHere_79 : decode cX6_gateHere 79 = .ok (.iload_n 3, 1) := by decide +kernel
theorem dX6_gateHere_80 : decode cX6_gateHere 80 = .ok (.ifCond .ne 7, 3) := by decide +kernel
theorem dX6_gateHere_83 : decode cX6_gateHere 83 = .ok (.iconst 1, 1) := by decide +kernel
theorem dX6_gateHere_84 : decode cX6_gateHere 84 = .ok (.goto 4, 3) := by decide +kernel
theorem dX6_gateHere_87 : decode cX6_gateHere 87 = .ok (.iconst 0, 1) := by decide +kernel
theorem dX6_gateHere_88 : decode cX6_gateHere 88 = .ok (.if_icmp .ne 28, 3) := by decide +kernel
theorem dX6_gateHere_91 : decode cX6_gateHere 91 = .ok (.aload_n 0, 1) := by decide +kernel
theorem dX6_gateHere_92 : decode cX6_gateHere 92 = .ok (.iload_n 2, 1) := by decide +kernel
theorem dX6_gateHere_93 : decode cX6_gateHere 93 = .ok (.invokevirtual 72, 3) := by decide +kernel
theorem dX6_gateHere_96 : decode cX6_gateHere 96 = .ok (.ifCond .eq 20, 3) := by decide +kernel
theorem dX6_gateHere_99 : decode cX6_gateHere 99 = .ok (.iload_n 3, 1) := by decide +kernel
theorem dX6_gateHere_100 : decode cX6_gateHere 100 = .ok (.ifCond .eq 12, 3) := by decide +kernel
theorem dX6_gateHere_103 : decode cX6_gateHere 103 = .ok (.aload_n 0, 1) := by decide +kernel
theorem dX6_gateHere_104 : decode cX6_gateHere 104 = .ok (.iload 4, 2) := by decide +kernel
theorem dX6_gateHere_106 : decode cX6_gateHere 106 = .ok (.invokevirtual 72, 3) := by decide +kernel
theorem dX6_gateHere_109 : decode cX6_gateHere 109 = .ok (.ifCond .eq 7, 3) := by decide +kernel
theorem dX6_gateHere_112 : decode cX6_gateHere 112 = .ok (.iconst 1, 1) := by decide +kernel
theorem dX6_gateHere_113 : decode cX6_gateHere 113 = .ok (.goto 4, 3) := by decide +kernel
theorem dX6_gateHere_116 : decode cX6_gateHere 116 = .ok (.iconst 0, 1) := by decide +kernel
theorem dX6_gateHere_117 : decode cX6_gateHere 117 = .ok (.aload_n 0, 1) := by decide +kernel
theorem dX6_gateHere_118 : decode cX6_gateHere 118 = .ok (.getfield 13, 3) := by decide +kernel
theorem dX6_gateHere_121 : decode cX6_gateHere 121 = .ok (.iconst 1, 1) := by decide +kernel
theorem dX6_gateHere_122 : decode cX6_gateHere 122 = .ok (.iaload, 1) := by decide +kernel
theorem dX6_gateHere_123 : decode cX6_gateHere 123 = .ok (.bipush 24, 2) := by decide +kernel
theorem dX6_gateHere_125 : decode cX6_gateHere 125 = .ok (.if_icmp .ge 7, 3) := by decide +kernel
theorem dX6_gateHere_128 : decode cX6_gateHere 128 = .ok (.iconst 1, 1) := by decide +kernel
theorem dX6_gateHere_129 : decode cX6_gateHere 129 = .ok (.goto 4, 3) := by decide +kernel
theorem dX6_gateHere_132 : decode cX6_gateHere 132 = .ok (.iconst 0, 1) := by decide +kernel
theorem dX6_gateHere_133 : decode cX6_gateHere 133 = .ok (.invokevirtual 76, 3) := by decide +kernel
theorem dX6_gateHere_136 : decode cX6_gateHere 136 = .ok (.aload_n 0, 1) := by decide +kernel
theorem dX6_gateHere_137 : decode cX6_gateHere 137 = .ok (.getfield 56, 3) := by decide +kernel
theorem dX6_gateHere_140 : decode cX6_gateHere 140 = .ok (.ifCond .ne 14, 3) := by decide +kernel
theorem dX6_gateHere_143 : decode cX6_gateHere 143 = .ok (.aload_n 0, 1) := by decide +kernel
theorem dX6_gateHere_144 : decode cX6_gateHere 144 = .ok (.getfield 13, 3) := by decide +kernel
theorem dX6_gateHere_147 : decode cX6_gateHere 147 = .ok (.iload_n 1, 1) := by decide +kernel
theorem dX6_gateHere_148 : decode cX6_gateHere 148 = .ok (.iload_n 2, 1) := by decide +kernel
theorem dX6_gateHere_149 : decode cX6_gateHere 149 = .ok (.iload 4, 2) := by decide +kernel
theorem dX6_gateHere_151 : decode cX6_gateHere 151 = .ok (.invokestatic 29, 3) := by decide +kernel
theorem dX6_gateHere_154 : decode cX6_gateHere 154 = .ok (.return_, 1) := by decide +kernel
set_option maxRecDepth 20000 in
theorem ggX6_statement_X6_here : GoodIn wsX6_statement wsX6_here := goodIn_r _ [10, 1, 11, 12, 45, 46, 47, 48, 49, 50, 51, 52, 53, 54, 55] (by decide +kernel) (by decide +kernel)
set_option maxRecDepth 20000 in
theorem gX6_statement_X6_here : GoodIn wsX6_statement (wsV RX6 48 RX6 yX6_here wsX6_here) := goodIn_app (goodIn_of _ (by decide +kernel)) ggX6_statement_X6_here
set_option maxRecDepth 20000 in
theorem ggX6_statement_X6_gateHere : GoodIn wsX6_statement wsX6_gateHere := goodIn_r _ [16, 2, 4, 17, 18, 19, 9, 20, 21, 22, 1, 23, 6, 7, 8, 10, 11, 12, 24, 25, 26, 27, 28, 29, 30, 31, 32, 33, 34, 35, 36, 37, 38, 39, 40, 41, 42, 43, 44, 45, 46, 47, 48, 49, 50, 51, 52, 53, 54, 55] (by decide +kernel) (by decide +kernel)
set_option maxRecDepth 20000 in
theorem gX6_statement_X6_gateHere : GoodIn wsX6_statement (wsV RX6 80 RX6 yX6_gateHere wsX6_gateHere) := goodIn_app (goodIn_of _ (by decide +kernel)) ggX6_statement_X6_gateHere
set_option maxRecDepth 20000 in
theorem ggX6_statement_X6_number : GoodIn wsX6_statement wsX6_number := goodIn_r _ [20, 21, 22, 1, 2, 23, 6, 7, 8, 9, 10, 11, 12, 24, 25, 26, 45, 46, 47, 48, 49, 50, 51, 52, 53, 54, 55] (by decide +kernel) (by decide +kernel)
set_option maxRecDepth 20000 in
theorem gX6_statement_X6_number : GoodIn wsX6_statement (wsV RX6 65 RX6 yX6_number wsX6_number) := goodIn_app (goodIn_of _ (by decide +kernel)) ggX6_statement_X6_number
set_option maxRecDepth 20000 in
theorem ggX6_statement_X6_sign : GoodIn wsX6_statement wsX6_sign := goodIn_r _ [30, 2, 1, 6, 7, 8, 9, 10, 11, 12, 45, 46, 47, 48, 49, 50, 51, 52, 53, 54, 55] (by decide +kernel) (by decide +kernel)
set_option maxRecDepth 20000 in
theorem gX6_statement_X6_sign : GoodIn wsX6_statement (wsV RX6 68 RX6 yX6_sign wsX6_sign) := goodIn_app (goodIn_of _ (by decide +kernel)) ggX6_statement_X6_sign
set_option maxRecDepth 20000 in
theorem ggX6_statement_X6_in : GoodIn wsX6_statement wsX6_in := goodIn_r _ [26] (by decide +kernel) (by decide +kernel)
set_option maxRecDepth 20000 in
theorem gX6_statement_X6_in : GoodIn wsX6_statement (va_wsS RX6 37 yX6_in wsX6_in) := goodIn_app (goodIn_of _ (by decide +kernel)) ggX6_statement_X6_in
set_option maxRecDepth 20000 in
theorem ggX6_statement_X6_checked : GoodIn wsX6_statement wsX6_checked := goodIn_r _ [41, 2, 45, 46, 47, 48, 49, 50, 51, 52, 53, 54, 55] (by decide +kernel) (by decide +kernel)
set_option maxRecDepth 20000 in
theorem gX6_statement_X6_checked : GoodIn wsX6_statement (wsV RX6 76 RX6 yX6_checked wsX6_checked) := goodIn_app (goodIn_of _ (by decide +kernel)) ggX6_statement_X6_checked
set_option maxRecDepth 20000 in
theorem ggX6_statement_X6_isNodeOf : GoodIn wsX6_statement wsX6_isNodeOf := goodIn_r _ [34, 4, 35, 36, 9, 37, 45, 46, 47, 48, 49, 50, 51, 52, 53, 54, 55] (by decide +kernel) (by decide +kernel)
set_option maxRecDepth 20000 in
theorem gX6_statement_X6_isNodeOf : GoodIn wsX6_statement (wsV RX6 72 RX6 yX6_isNodeOf wsX6_isNodeOf) := goodIn_app (goodIn_of _ (by decide +kernel)) ggX6_statement_X6_isNodeOf
theorem dX6_statement_0 : decode cX6_statement 0 = .ok (.aload_n 0, 1) := by decide +kernel
theorem dX6_statement_1 : decode cX6_statement 1 = .ok (.invokevirtual 48, 3) := by decide +kernel
theorem dX6_statement_4 : decode cX6_statement 4 = .ok (.istore_n 2, 1) := by decide +kernel
theorem dX6_statement_5 : decode cX6_statement 5 = .ok (.aload_n 0, 1) := by decide +kernel
theorem dX6_statement_6 : decode cX6_statement 6 = .ok (.dup, 1) := by decide +kernel
theorem dX6_statement_7 : decode cX6_statement 7 = .ok (.getfield 45, 3) := by decide +kernel
theorem dX6_statement_10 : decode cX6_statement 10 = .ok (.iconst 1, 1) := by decide +kernel
theorem dX6_statement_11 : decode cX6_statement 11 = .ok (.iadd, 1) := by decide +kernel
theorem dX6_statement_12 : decode cX6_statement 12 = .ok (.putfield 45, 3) := by decide +kernel
theorem dX6_statement_15 : decode cX6_statement 15 = .ok (.iload_n 2, 1) := by decide +kernel
theorem dX6_statement_16 : decode cX6_statement 16 = .ok (.bipush 105, 2) := by decide +kernel
theorem dX6_statement_18 : decode cX6_statement 18 = .ok (.if_icmp .eq 21, 3) := by decide +kernel
theorem dX6_statement_21 : decode cX6_statement 21 = .ok (.iload_n 2, 1) := by decide +kernel
theorem dX6_statement_22 : decode cX6_statement 22 = .ok (.bipush 103, 2) := by decide +kernel
theorem dX6_statement_24 : decode cX6_statement 24 = .ok (.if_icmp .eq 15, 3) := by decide +kernel
theorem dX6_statement_27 : decode cX6_statement 27 = .ok (.iload_n 2, 1) := by decide +kernel
theorem dX6_statement_28 : decode cX6_statement 28 = .ok (.bipush 111, 2) := by decide +kernel
theorem dX6_statement_30 : decode cX6_statement 30 = .ok (.if_icmp .eq 9, 3) := by decide +kernel
theorem dX6_statement_33 : decode cX6_statement 33 = .ok (.iload_n 2, 1) := by decide +kernel
theorem dX6_statement_34 : decode cX6_statement 34 = .ok (.bipush 119, 2) := by decide +kernel
theorem dX6_statement_36 : decode cX6_statement 36 = .ok (.if_icmp .ne 7, 3) := by decide +kernel
theorem dX6_statement_39 : decode cX6_statement 39 = .ok (.iconst 1, 1) := by decide +kernel
theorem dX6_statement_40 : decode cX6_statement 40 = .ok (.goto 4, 3) := by decide +kernel
theorem dX6_statement_43 : decode cX6_statement 43 = .ok (.iconst 0, 1) := by decide +kernel
theorem dX6_statement_44 : decode cX6_statement 44 = .ok (.istore_n 3, 1) := by decide +kernel
theorem dX6_statement_45 : decode cX6_statement 45 = .ok (.iload_n 3, 1) := by decide +kernel
theorem dX6_statement_46 : decode cX6_statement 46 = .ok (.ifCond .eq 18, 3) := by decide +kernel
theorem dX6_statement_49 : decode cX6_statement 49 = .ok (.iload_n 2, 1) := by decide +kernel
theorem dX6_statement_50 : decode cX6_statement 50 = .ok (.bipush 105, 2) := by decide +kernel
theorem dX6_statement_52 : decode cX6_statement 52 = .ok (.if_icmp .ne 7, 3) := by decide +kernel
theorem dX6_statement_55 : decode cX6_statement 55 = .ok (.iconst 1, 1) := by decide +kernel
theorem dX6_statement_56 : decode cX6_statement 56 = .ok (.goto 4, 3) := by decide +kernel
theorem dX6_statement_59 : decode cX6_statement 59 = .ok (.iconst 0, 1) := by decide +kernel
theorem dX6_statement_60 : decode cX6_statement 60 = .ok (.iload_n 1, 1) := by decide +kernel
theorem dX6_statement_61 : decode cX6_statement 61 = .ok (.if_icmp .eq 9, 3) := by decide +kernel
theorem dX6_statement_64 : decode cX6_statement 64 = .ok (.aload_n 0, 1) := by decide +kernel
theorem dX6_statement_65 : decode cX6_statement 65 = .ok (.iconst 1, 1) := by decide +kernel
theorem dX6_statement_66 : decode cX6_statement 66 = .ok (.putfield 56, 3) := by decide +kernel
theorem dX6_statement_69 : decode cX6_statement 69 = .ok (.return_, 1) := by decide +kernel
theorem dX6_statement_70 : decode cX6_statement 70 = .ok (.iload_n 2, 1) := by decide +kernel
theorem dX6_statement_71 : decode cX6_statement 71 = .ok (.bipush 103, 2) := by decide +kernel
theorem dX6_statement_73 : decode cX6_statement 73 = .ok (.if_icmp .ne 8, 3) := by decide +kernel
theorem dX6_statement_76 : decode cX6_statement 76 = .ok (.aload_n 0, 1) := by decide +kernel
theorem dX6_statement_77 : decode cX6_statement 77 = .ok (.invokevirtual 80, 3) := by decide +kernel
theorem dX6_statement_80 : decode cX6_statement 80 = .ok (.return_, 1) := by decide +kernel
theorem dX6_statement_81 : decode cX6_statement 81 = .ok (.aload_n 0, 1) := by decide +kernel
theorem dX6_statement_82 : decode cX6_statement 82 = .ok (.invokevirtual 65, 3) := by decide +kernel
theorem dX6_statement_85 : decode cX6_statement 85 = .ok (.istore 4, 2) := by decide +kernel
theorem dX6_statement_87 : decode cX6_statement 87 = .ok (.aload_n 0, 1) := by decide +kernel
theorem dX6_statement_88 : decode cX6_statement 88 = .ok (.bipush 59, 2) := by decide +kernel
theorem dX6_statement_90 : decode cX6_statement 90 = .ok (.invokevirtual 68, 3) := by decide +kernel
theorem dX6_statement_93 : decode cX6_statement 93 = .ok (.iload_n 2, 1) := by decide +kernel
theorem dX6_statement_94 : decode cX6_statement 94 = .ok (.bipush 105, 2) := by decide +kernel
theorem dX6_statement_96 : decode cX6_statement 96 = .ok (.if_icmp .ne 29, 3) := by decide +kernel
theorem dX6_statement_99 : decode cX6_statement 99 = .ok (.aload_n 0, 1) := by decide +kernel
theorem dX6_statement_100 : decode cX6_statement 100 = .ok (.iload 4, 2) := by decide +kernel
theorem dX6_statement_102 : decode cX6_statement 102 = .ok (.i2l, 1) := by decide +kernel
theorem dX6_statement_103 : decode cX6_statement 103 = .ok (.lconst 1, 1) := by decide +kernel
theorem dX6_statement_104 : decode cX6_statement 104 = .ok (.ldc2_w 83, 3) := by decide +kernel
theorem dX6_statement_107 : decode cX6_statement 107 = .ok (.invokestatic 37, 3) := by decide +kernel
theorem dX6_statement_110 : decode cX6_statement 110 = .ok (.iconst 1, 1) := by decide +kernel
theorem dX6_statement_111 : decode cX6_statement 111 = .ok (.invokevirtual 76, 3) := by decide +kernel
theorem dX6_statement_114 : decode cX6_statement 114 = .ok (.aload_n 0, 1) := by decide +kernel
theorem dX6_statement_115 : decode cX6_statement 115 = .ok (.getfield 13, 3) := by decide +kernel
theorem dX6_statement_118 : decode cX6_statement 118 = .ok (.iconst 0, 1) := by decide +kernel
theorem dX6_statement_119 : decode cX6_statement 119 = .ok (.iload 4, 2) := by decide +kernel
theorem dX6_statement_121 : decode cX6_statement 121 = .ok (.iastore, 1) := by decide +kernel
theorem dX6_statement_122 : decode cX6_statement 122 = .ok (.goto 125, 3) := by decide +kernel
theorem dX6_statement_125 : decode cX6_statement 125 = .ok (.iload_n 2, 1) := by decide +kernel
theorem dX6_statement_126 : decode cX6_statement 126 = .ok (.bipush 111, 2) := by decide +kernel
theorem dX6_statement_128 : decode cX6_statement 128 = .ok (.if_icmp .ne 68, 3) := by decide +kernel
theorem dX6_statement_131 : decode cX6_statement 131 = .ok (.aload_n 0, 1) := by decide +kernel
theorem dX6_statement_132 : decode cX6_statement 132 = .ok (.aload_n 0, 1) := by decide +kernel
theorem dX6_statement_133 : decode cX6_statement 133 = .ok (.iload 4, 2) := by decide +kernel
theorem dX6_statement_135 : decode cX6_statement 135 = .ok (.invokevirtual 72, 3) := by decide +kernel
theorem dX6_statement_138 : decode cX6_statement 138 = .ok (.aload_n 0, 1) := by decide +kernel
theorem dX6_statement_139 : decode cX6_statement 139 = .ok (.getfield 13, 3) := by decide +kernel
theorem dX6_statement_142 : decode cX6_statement 142 = .ok (.bipush 74, 2) := by decide +kernel
theorem dX6_statement_144 : decode cX6_statement 144 = .ok (.iaload, 1) := by decide +kernel
theorem dX6_statement_145 : decode cX6_statement 145 = .ok (.bipush 6, 2) := by decide +kernel
theorem dX6_statement_147 : decode cX6_statement 147 = .ok (.if_icmp .ge 7, 3) := by decide +kernel
theorem dX6_statement_150 : decode cX6_statement 150 = .ok (.iconst 1, 1) := by decide +kernel
theorem dX6_statement_151 : decode cX6_statement 151 = .ok (.goto 4, 3) := by decide +kernel
theorem dX6_statement_154 : decode cX6_statement 154 = .ok (.iconst 0, 1) := by decide +kernel
theorem dX6_statement_155 : decode cX6_statement 155 = .ok (.invokevirtual 76, 3) := by decide +kernel
theorem dX6_statement_158 : decode cX6_statement 158 = .ok (.aload_n 0, 1) := by decide +kernel
theorem dX6_statement_159 : decode cX6_statement 159 = .ok (.getfield 56, 3) := by decide +kernel
theorem dX6_statement_162 : decode cX6_statement 162 = .ok (.ifCond .ne 85, 3) := by decide +kernel
theorem dX6_statement_165 : decode cX6_statement 165 = .ok (.aload_n 0, 1) := by decide +kernel
theorem dX6_statement_166 : decode cX6_statement 166 = .ok (.getfield 13, 3) := by decide +kernel
theorem dX6_statement_169 : decode cX6_statement 169 = .ok (.bipush 75, 2) := by decide +kernel
theorem dX6_statement_171 : decode cX6_statement 171 = .ok (.aload_n 0, 1) := by decide +kernel
theorem dX6_statement_172 : decode cX6_statement 172 = .ok (.getfield 13, 3) := by decide +kernel
theorem dX6_statement_175 : decode cX6_statement 175 = .ok (.bipush 74, 2) := by decide +kernel
theorem dX6_statement_177 : decode cX6_statement 177 = .ok (.iaload, 1) := by decide +kernel
theorem dX6_statement_178 : decode cX6_statement 178 = .ok (.iadd, 1) := by decide +kernel
theorem dX6_statement_179 : decode cX6_statement 179 = .ok (.iload 4, 2) := by decide +kernel
theorem dX6_statement_181 : decode cX6_statement 181 = .ok (.iastore, 1) := by decide +kernel
theorem dX6_statement_182 : decode cX6_statement 182 = .ok (.aload_n 0, 1) := by decide +kernel
theorem dX6_statement_183 : decode cX6_statement 183 = .ok (.getfield 13, 3) := by decide +kernel
theorem dX6_statement_186 : decode cX6_statement 186 = .ok (.bipush 74, 2) := by decide +kernel
theorem dX6_statement_188 : decode cX6_statement 188 = .ok (.dup2, 1) := by decide +kernel
theorem dX6_statement_189 : decode cX6_statement 189 = .ok (.iaload, 1) := by decide +kernel
theorem dX6_statement_190 : decode cX6_statement 190 = .ok (.iconst 1, 1) := by decide +kernel
theorem dX6_statement_191 : decode cX6_statement 191 = .ok (.iadd, 1) := by decide +kernel
theorem dX6_statement_192 : decode cX6_statement 192 = .ok (.iastore, 1) := by decide +kernel
theorem dX6_statement_193 : decode cX6_statement 193 = .ok (.goto 54, 3) := by decide +kernel
theorem dX6_statement_196 : decode cX6_statement 196 = .ok (.aload_n 0, 1) := by decide +kernel
theorem dX6_statement_197 : decode cX6_statement 197 = .ok (.iload 4, 2) := by decide +kernel
theorem dX6_statement_199 : decode cX6_statement 199 = .ok (.iconst 1, 1) := by decide +kernel
theorem dX6_statement_200 : decode cX6_statement 200 = .ok (.aload_n 0, 1) := by decide +kernel
theorem dX6_statement_201 : decode cX6_statement 201 = .ok (.getfield 13, 3) := by decide +kernel
theorem dX6_statement_204 : decode cX6_statement 204 = .ok (.iconst 0, 1) := by decide +kernel
theorem dX6_statement_205 : decode cX6_statement 205 = .ok (.iaload, 1) := by decide +kernel
theorem dX6_statement_206 : decode cX6_statement 206 = .ok (.ishl, 1) := by decide +kernel
theorem dX6_statement_207 : decode cX6_statement 207 = .ok (.if_icmp .ge 7, 3) := by decide +kernel
theorem dX6_statement_210 : decode cX6_statement 210 = .ok (.iconst 1, 1) := by decide +kernel
theorem dX6_statement_211 : decode cX6_statement 211 = .ok (.goto 4, 3) := by decide +kernel
theorem dX6_statement_214 : decode cX6_statement 214 = .ok (.iconst 0, 1) := by decide +kernel
theorem dX6_statement_215 : decode cX6_statement 215 = .ok (.iconst 1, 1) := by decide +kernel
theorem dX6_statement_216 : decode cX6_statement 216 = .ok (.invokevirtual 76, 3) := by decide +kernel
theorem dX6_statement_219 : decode cX6_statement 219 = .ok (.aload_n 0, 1) := by decide +kernel
theorem dX6_statement_220 : decode cX6_statement 220 = .ok (.getfield 56, 3) := by decide +kernel
theorem dX6_statement_223 : decode cX6_statement 223 = .ok (.ifCond .ne 24, 3) := by decide +kernel
theorem dX6_statement_226 : decode cX6_statement 226 = .ok (.aload_n 0, 1) := by decide +kernel
theorem dX6_statement_227 : decode cX6_statement 227 = .ok (.getfield 13, 3) := by decide +kernel
theorem dX6_statement_230 : decode cX6_statement 230 = .ok (.bipush 83, 2) := by decide +kernel
theorem dX6_statement_232 : decode cX6_statement 232 = .ok (.iload 4, 2) := by decide +kernel
theorem dX6_statement_234 : decode cX6_statement 234 = .ok (.iadd, 1) := by decide +kernel
theorem dX6_statement_235 : decode cX6_statement 235 = .ok (.iconst 1, 1) := by decide +kernel
theorem dX6_statement_236 : decode cX6_statement 236 = .ok (.iastore, 1) := by decide +kernel
theorem dX6_statement_237 : decode cX6_statement 237 = .ok (.aload_n 0, 1) := by decide +kernel
theorem dX6_statement_238 : decode cX6_statement 238 = .ok (.dup, 1) := by decide +kernel
theorem dX6_statement_239 : decode cX6_statement 239 = .ok (.getfield 85, 3) := by decide +kernel
theorem dX6_statement_242 : decode cX6_statement 242 = .ok (.iconst 1, 1) := by decide +kernel
theorem dX6_statement_243 : decode cX6_statement 243 = .ok (.iadd, 1) := by decide +kernel
theorem dX6_statement_244 : decode cX6_statement 244 = .ok (.putfield 85, 3) := by decide +kernel
theorem dX6_statement_247 : decode cX6_statement 247 = .ok (.return_, 1) := by decide +kernel
set_option maxRecDepth 20000 in
theorem ggX6_readAll_X6_statement : GoodIn wsX6_readAll wsX6_statement := goodIn_r _ [10, 2, 3, 11, 1, 4, 12, 13, 14, 9, 15, 5, 16, 17, 18, 19, 20, 21, 22, 23, 24, 25, 26, 27, 28, 29, 30, 31, 32, 33, 34, 35, 36, 37, 38, 39, 40, 41, 42, 43, 44, 45, 46, 47, 48, 49, 50, 51, 52, 53, 54, 55, 56, 57, 58, 59] (by decide +kernel) (by decide +kernel)
set_option maxRecDepth 20000 in
theorem gX6_readAll_X6_statement : GoodIn wsX6_readAll (wsV RX6 88 RX6 yX6_statement wsX6_statement) := goodIn_app (goodIn_of _ (by decide +kernel)) ggX6_readAll_X6_statement
theorem dX6_readAll_0 : decode cX6_readAll 0 = .ok (.iconst 0, 1) := by decide +kernel
theorem dX6_readAll_1 : decode cX6_readAll 1 = .ok (.istore_n 1, 1) := by decide +kernel
theorem dX6_readAll_2 : decode cX6_readAll 2 = .ok (.iload_n 1, 1) := by decide +kernel
theorem dX6_readAll_3 : decode cX6_readAll 3 = .ok (.sipush 147, 3) := by decide +kernel
theorem dX6_readAll_6 : decode cX6_readAll 6 = .ok (.if_icmp .ge 16, 3) := by decide +kernel
theorem dX6_readAll_9 : decode cX6_readAll 9 = .ok (.aload_n 0, 1) := by decide +kernel
theorem dX6_readAll_10 : decode cX6_readAll 10 = .ok (.getfield 13, 3) := by decide +kernel
theorem dX6_readAll_13 : decode cX6_readAll 13 = .ok (.iload_n 1, 1) := by decide +kernel
theorem dX6_readAll_14 : decode cX6_readAll 14 = .ok (.iconst 0, 1) := by decide +kernel
theorem dX6_readAll_15 : decode cX6_readAll 15 = .ok (.iastore, 1) := by decide +kernel
theorem dX6_readAll_16 : decode cX6_readAll 16 = .ok (.iinc 1 1, 3) := by decide +kernel
theorem dX6_readAll_19 : decode cX6_readAll 19 = .ok (.goto (-17), 3) := by decide +kernel
theorem dX6_readAll_22 : decode cX6_readAll 22 = .ok (.aload_n 0, 1) := by decide +kernel
theorem dX6_readAll_23 : decode cX6_readAll 23 = .ok (.iconst 0, 1) := by decide +kernel
theorem dX6_readAll_24 : decode cX6_readAll 24 = .ok (.putfield 45, 3) := by decide +kernel
theorem dX6_readAll_27 : decode cX6_readAll 27 = .ok (.aload_n 0, 1) := by decide +kernel
theorem dX6_readAll_28 : decode cX6_readAll 28 = .ok (.iconst 0, 1) := by decide +kernel
theorem dX6_readAll_29 : decode cX6_readAll 29 = .ok (.putfield 56, 3) := by decide +kernel
theorem dX6_readAll_32 : decode cX6_readAll 32 = .ok (.aload_n 0, 1) := by decide +kernel
theorem dX6_readAll_33 : decode cX6_readAll 33 = .ok (.iconst 0, 1) := by decide +kernel
theorem dX6_readAll_34 : decode cX6_readAll 34 = .ok (.putfield 85, 3) := by decide +kernel
theorem dX6_readAll_37 : decode cX6_readAll 37 = .ok (.aload_n 0, 1) := by decide +kernel
theorem dX6_readAll_38 : decode cX6_readAll 38 = .ok (.getfield 45, 3) := by decide +kernel
theorem dX6_readAll_41 : decode cX6_readAll 41 = .ok (.aload_n 0, 1) := by decide +kernel
theorem dX6_readAll_42 : decode cX6_readAll 42 = .ok (.getfield 41, 3) := by decide +kernel
theorem dX6_readAll_45 : decode cX6_readAll 45 = .ok (.if_icmp .ge 33, 3) := by decide +kernel
theorem dX6_readAll_48 : decode cX6_readAll 48 = .ok (.aload_n 0, 1) := by decide +kernel
theorem dX6_readAll_49 : decode cX6_readAll 49 = .ok (.getfield 45, 3) := by decide +kernel
theorem dX6_readAll_52 : decode cX6_readAll 52 = .ok (.istore_n 1, 1) := by decide +kernel
theorem dX6_readAll_53 : decode cX6_readAll 53 = .ok (.aload_n 0, 1) := by decide +kernel
theorem dX6_readAll_54 : decode cX6_readAll 54 = .ok (.iload_n 1, 1) := by decide +kernel
theorem dX6_readAll_55 : decode cX6_readAll 55 = .ok (.ifCond .ne 7, 3) := by decide +kernel
theorem dX6_readAll_58 : decode cX6_readAll 58 = .ok (.iconst 1, 1) := by decide +kernel
theorem dX6_readAll_59 : decode cX6_readAll 59 = .ok (.goto 4, 3) := by decide +kernel
theorem dX6_readAll_62 : decode cX6_readAll 62 = .ok (.iconst 0, 1) := by decide +kernel
theorem dX6_readAll_63 : decode cX6_readAll 63 = .ok (.invokevirtual 88, 3) := by decide +kernel
theorem dX6_readAll_66 : decode cX6_readAll 66 = .ok (.aload_n 0, 1) := by decide +kernel
theorem dX6_readAll_67 : decode cX6_readAll 67 = .ok (.getfield 56, 3) := by decide +kernel
theorem dX6_readAll_70 : decode cX6_readAll 70 = .ok (.ifCond .eq 5, 3) := by decide +kernel
theorem dX6_readAll_73 : decode cX6_readAll 73 = .ok (.iload_n 1, 1) := by decide +kernel
theorem dX6_readAll_74 : decode cX6_readAll 74 = .ok (.ireturn, 1) := by decide +kernel
theorem dX6_readAll_75 : decode cX6_readAll 75 = .ok (.goto (-38), 3) := by decide +kernel
theorem dX6_readAll_78 : decode cX6_readAll 78 = .ok (.bipush (-104), 2) := by decide +kernel
theorem dX6_readAll_80 : decode cX6_readAll 80 = .ok (.ireturn, 1) := by decide +kernel
set_option maxRecDepth 20000 in
theorem ggX6_firstError_X6_readAll : GoodIn wsX6_firstError wsX6_readAll := goodIn_r _ [5, 6, 7, 8, 9, 10, 11, 12, 13, 4, 14, 15, 16, 17, 18, 19, 20, 21, 22, 23, 24, 25, 26, 27, 28, 29, 30, 31, 32, 33, 34, 35, 36, 37, 38, 39, 40, 41, 42, 43, 44, 45, 46, 47, 48, 49, 50, 51, 52, 53, 54, 55, 56, 57, 58, 59, 60, 61, 62, 63] (by decide +kernel) (by decide +kernel)
set_option maxRecDepth 20000 in
theorem gX6_firstError_X6_readAll : GoodIn wsX6_firstError (wsV RX6 92 RX6 yX6_readAll wsX6_readAll) := goodIn_app (goodIn_of _ (by decide +kernel)) ggX6_firstError_X6_readAll
theorem dX6_firstError_0 : decode cX6_firstError 0 = .ok (.aload_n 0, 1) := by decide +kernel
theorem dX6_firstError_1 : decode cX6_firstError 1 = .ok (.invokevirtual 92, 3) := by decide +kernel
theorem dX6_firstError_4 : decode cX6_firstError 4 = .ok (.ireturn, 1) := by decide +kernel
set_option maxRecDepth 20000 in
theorem ggX6_errorReason_X6_readAll : GoodIn wsX6_errorReason wsX6_readAll := goodIn_r _ [6, 7, 8, 1, 9, 10, 11, 12, 13, 5, 14, 15, 16, 17, 18, 19, 20, 21, 22, 23, 24, 25, 26, 27, 28, 29, 30, 31, 32, 33, 34, 35, 36, 37, 38, 39, 40, 41, 42, 43, 44, 45, 46, 47, 48, 49, 50, 51, 52, 53, 54, 55, 56, 57, 58, 59, 60, 61, 62, 63] (by decide +kernel) (by decide +kernel)
set_option maxRecDepth 20000 in
theorem gX6_errorReason_X6_readAll : GoodIn wsX6_errorReason (wsV RX6 92 RX6 yX6_readAll wsX6_readAll) := goodIn_app (goodIn_of _ (by decide +kernel)) ggX6_errorReason_X6_readAll
theorem dX6_errorReason_0 : decode cX6_errorReason 0 = .ok (.aload_n 0, 1) := by decide +kernel
theorem dX6_errorReason_1 : decode cX6_errorReason 1 = .ok (.invokevirtual 92, 3) := by decide +kernel
theorem dX6_errorReason_4 : decode cX6_errorReason 4 = .ok (.bipush (-104), 2) := by decide +kernel
theorem dX6_errorReason_6 : decode cX6_errorReason 6 = .ok (.if_icmp .ne 8, 3) := by decide +kernel
theorem dX6_errorReason_9 : decode cX6_errorReason 9 = .ok (.bipush (-104), 2) := by decide +kernel
theorem dX6_errorReason_11 : decode cX6_errorReason 11 = .ok (.goto 7, 3) := by decide +kernel
theorem dX6_errorReason_14 : decode cX6_errorReason 14 = .ok (.aload_n 0, 1) := by decide +kernel
theorem dX6_errorReason_15 : decode cX6_errorReason 15 = .ok (.getfield 56, 3) := by decide +kernel
theorem dX6_errorReason_18 : decode cX6_errorReason 18 = .ok (.ireturn, 1) := by decide +kernel
set_option maxRecDepth 20000 in
theorem ggX6_configure_X6_readAll : GoodIn wsX6_configure wsX6_readAll := goodIn_r _ [10, 2, 11, 12, 4, 1, 13, 14, 15, 9, 16, 17, 18, 19, 20, 21, 22, 23, 24, 25, 26, 27, 28, 29, 30, 31, 32, 33, 34, 35, 36, 37, 38, 39, 40, 41, 42, 43, 44, 45, 46, 47, 48, 49, 50, 51, 52, 53, 54, 55, 56, 57, 58, 59, 60, 61, 62, 63, 64, 65] (by decide +kernel) (by decide +kernel)
set_option maxRecDepth 20000 in
theorem gX6_configure_X6_readAll : GoodIn wsX6_configure (wsV RX6 92 RX6 yX6_readAll wsX6_readAll) := goodIn_app (goodIn_of _ (by decide +kernel)) ggX6_configure_X6_readAll
set_option maxRecDepth 20000 in
theorem ggX6_configure_X6_nodesOf : GoodIn wsX6_configure wsX6_nodesOf := goodIn_r _ [47] (by decide +kernel) (by decide +kernel)
set_option maxRecDepth 20000 in
theorem gX6_configure_X6_nodesOf : GoodIn wsX6_configure (va_wsS RX6 61 yX6_nodesOf wsX6_nodesOf) := goodIn_app (goodIn_of _ (by decide +kernel)) ggX6_configure_X6_nodesOf
theorem dX6_configure_0 : decode cX6_configure 0 = .ok (.aload_n 0, 1) := by decide +kernel
theorem dX6_configure_1 : decode cX6_configure 1 = .ok (.invokevirtual 92, 3) := by decide +kernel
theorem dX6_configure_4 : decode cX6_configure 4 = .ok (.bipush (-104), 2) := by decide +kernel
theorem dX6_configure_6 : decode cX6_configure 6 = .ok (.if_icmp .ne 10, 3) := by decide +kernel
theorem dX6_configure_9 : decode cX6_configure 9 = .ok (.aload_n 0, 1) := by decide +kernel
theorem dX6_configure_10 : decode cX6_configure 10 = .ok (.getfield 41, 3) := by decide +kernel
theorem dX6_configure_13 : decode cX6_configure 13 = .ok (.ifCond .ne 6, 3) := by decide +kernel
theorem dX6_configure_16 : decode cX6_configure 16 = .ok (.bipush (-102), 2) := by decide +kernel
theorem dX6_configure_18 : decode cX6_configure 18 = .ok (.ireturn, 1) := by decide +kernel
theorem dX6_configure_19 : decode cX6_configure 19 = .ok (.aload_n 0, 1) := by decide +kernel
theorem dX6_configure_20 : decode cX6_configure 20 = .ok (.getfield 13, 3) := by decide +kernel
theorem dX6_configure_23 : decode cX6_configure 23 = .ok (.bipush 81, 2) := by decide +kernel
theorem dX6_configure_25 : decode cX6_configure 25 = .ok (.aload_n 0, 1) := by decide +kernel
theorem dX6_configure_26 : decode cX6_configure 26 = .ok (.getfield 7, 3) := by decide +kernel
theorem dX6_configure_29 : decode cX6_configure 29 = .ok (.bipush 81, 2) := by decide +kernel
theorem dX6_configure_31 : decode cX6_configure 31 = .ok (.iaload, 1) := by decide +kernel
theorem dX6_configure_32 : decode cX6_configure 32 = .ok (.iastore, 1) := by decide +kernel
theorem dX6_configure_33 : decode cX6_configure 33 = .ok (.aload_n 0, 1) := by decide +kernel
theorem dX6_configure_34 : decode cX6_configure 34 = .ok (.getfield 13, 3) := by decide +kernel
theorem dX6_configure_37 : decode cX6_configure 37 = .ok (.bipush 82, 2) := by decide +kernel
theorem dX6_configure_39 : decode cX6_configure 39 = .ok (.aload_n 0, 1) := by decide +kernel
theorem dX6_configure_40 : decode cX6_configure 40 = .ok (.getfield 7, 3) := by decide +kernel
theorem dX6_configure_43 : decode cX6_configure 43 = .ok (.bipush 82, 2) := by decide +kernel
theorem dX6_configure_45 : decode cX6_configure 45 = .ok (.iaload, 1) := by decide +kernel
theorem dX6_configure_46 : decode cX6_configure 46 = .ok (.iastore, 1) := by decide +kernel
theorem dX6_configure_47 : decode cX6_configure 47 = .ok (.iconst 0, 1) := by decide +kernel
theorem dX6_configure_48 : decode cX6_configure 48 = .ok (.istore_n 1, 1) := by decide +kernel
theorem dX6_configure_49 : decode cX6_configure 49 = .ok (.iload_n 1, 1) := by decide +kernel
theorem dX6_configure_50 : decode cX6_configure 50 = .ok (.iconst 1, 1) := by decide +kernel
theorem dX6_configure_51 : decode cX6_configure 51 = .ok (.aload_n 0, 1) := by decide +kernel
theorem dX6_configure_52 : decode cX6_configure 52 = .ok (.getfield 13, 3) := by decide +kernel
theorem dX6_configure_55 : decode cX6_configure 55 = .ok (.iconst 0, 1) := by decide +kernel
theorem dX6_configure_56 : decode cX6_configure 56 = .ok (.iaload, 1) := by decide +kernel
theorem dX6_configure_57 : decode cX6_configure 57 = .ok (.ishl, 1) := by decide +kernel
theorem dX6_configure_58 : decode cX6_configure 58 = .ok (.if_icmp .ge 26, 3) := by decide +kernel
theorem dX6_configure_61 : decode cX6_configure 61 = .ok (.aload_n 0, 1) := by decide +kernel
theorem dX6_configure_62 : decode cX6_configure 62 = .ok (.getfield 85, 3) := by decide +kernel
theorem dX6_configure_65 : decode cX6_configure 65 = .ok (.ifCond .ne 19, 3) := by decide +kernel
theorem dX6_configure_68 : decode cX6_configure 68 = .ok (.aload_n 0, 1) := by decide +kernel
theorem dX6_configure_69 : decode cX6_configure 69 = .ok (.getfield 13, 3) := by decide +kernel
theorem dX6_configure_72 : decode cX6_configure 72 = .ok (.bipush 83, 2) := by decide +kernel
theorem dX6_configure_74 : decode cX6_configure 74 = .ok (.iload_n 1, 1) := by decide +kernel
theorem dX6_configure_75 : decode cX6_configure 75 = .ok (.iadd, 1) := by decide +kernel
theorem dX6_configure_76 : decode cX6_configure 76 = .ok (.iconst 1, 1) := by decide +kernel
theorem dX6_configure_77 : decode cX6_configure 77 = .ok (.iastore, 1) := by decide +kernel
theorem dX6_configure_78 : decode cX6_configure 78 = .ok (.iinc 1 1, 3) := by decide +kernel
theorem dX6_configure_81 : decode cX6_configure 81 = .ok (.goto (-32), 3) := by decide +kernel
theorem dX6_configure_84 : decode cX6_configure 84 = .ok (.iconst 0, 1) := by decide +kernel
theorem dX6_configure_85 : decode cX6_configure 85 = .ok (.istore_n 1, 1) := by decide +kernel
theorem dX6_configure_86 : decode cX6_configure 86 = .ok (.iload_n 1, 1) := by decide +kernel
theorem dX6_configure_87 : decode cX6_configure 87 = .ok (.sipush 147, 3) := by decide +kernel
theorem dX6_configure_90 : decode cX6_configure 90 = .ok (.if_icmp .ge 21, 3) := by decide +kernel
theorem dX6_configure_93 : decode cX6_configure 93 = .ok (.aload_n 0, 1) := by decide +kernel
theorem dX6_configure_94 : decode cX6_configure 94 = .ok (.getfield 7, 3) := by decide +kernel
theorem dX6_configure_97 : decode cX6_configure 97 = .ok (.iload_n 1, 1) := by decide +kernel
theorem dX6_configure_98 : decode cX6_configure 98 = .ok (.aload_n 0, 1) := by decide +kernel
theorem dX6_configure_99 : decode cX6_configure 99 = .ok (.getfield 13, 3) := by decide +kernel
theorem dX6_configure_102 : decode cX6_configure 102 = .ok (.iload_n 1, 1) := by decide +kernel
theorem dX6_configure_103 : decode cX6_configure 103 = .ok (.iaload, 1) := by decide +kernel
theorem dX6_configure_104 : decode cX6_configure 104 = .ok (.iastore, 1) := by decide +kernel
theorem dX6_configure_105 : decode cX6_configure 105 = .ok (.iinc 1 1, 3) := by decide +kernel
theorem dX6_configure_108 : decode cX6_configure 108 = .ok (.goto (-22), 3) := by decide +kernel
theorem dX6_configure_111 : decode cX6_configure 111 = .ok (.aload_n 0, 1) := by decide +kernel
theorem dX6_configure_112 : decode cX6_configure 112 = .ok (.iconst 0, 1) := by decide +kernel
theorem dX6_configure_113 : decode cX6_configure 113 = .ok (.putfield 95, 3) := by decide +kernel
theorem dX6_configure_116 : decode cX6_configure 116 = .ok (.aload_n 0, 1) := by decide +kernel
theorem dX6_configure_117 : decode cX6_configure 117 = .ok (.getfield 7, 3) := by decide +kernel
theorem dX6_configure_120 : decode cX6_configure 120 = .ok (.invokestatic 61, 3) := by decide +kernel
theorem dX6_configure_123 : decode cX6_configure 123 = .ok (.ireturn, 1) := by decide +kernel
theorem dX6_keeps_0 : decode cX6_keeps 0 = .ok (.aload_n 0, 1) := by decide +kernel
theorem dX6_keeps_1 : decode cX6_keeps 1 = .ok (.getfield 95, 3) := by decide +kernel
theorem dX6_keeps_4 : decode cX6_keeps 4 = .ok (.iconst 5, 1) := by decide +kernel
theorem dX6_keeps_5 : decode cX6_keeps 5 = .ok (.if_icmp .ne 44, 3) := by decide +kernel
theorem dX6_keeps_8 : decode cX6_keeps 8 = .ok (.iconst 0, 1) := by decide +kernel
theorem dX6_keeps_9 : decode cX6_keeps 9 = .ok (.istore_n 1, 1) := by decide +kernel
theorem dX6_keeps_10 : decode cX6_keeps 10 = .ok (.iload_n 1, 1) := by decide +kernel
theorem dX6_keeps_11 : decode cX6_keeps 11 = .ok (.sipush 588, 3) := by decide +kernel
theorem dX6_keeps_14 : decode cX6_keeps 14 = .ok (.if_icmp .ge 25, 3) := by decide +kernel
theorem dX6_keeps_17 : decode cX6_keeps 17 = .ok (.aload_n 0, 1) := by decide +kernel
theorem dX6_keeps_18 : decode cX6_keeps 18 = .ok (.getfield 16, 3) := by decide +kernel
theorem dX6_keeps_21 : decode cX6_keeps 21 = .ok (.iload_n 1, 1) := by decide +kernel
theorem dX6_keeps_22 : decode cX6_keeps 22 = .ok (.aload_n 0, 1) := by decide +kernel
theorem dX6_keeps_23 : decode cX6_keeps 23 = .ok (.getfield 16, 3) := by decide +kernel
theorem dX6_keeps_26 : decode cX6_keeps 26 = .ok (.sipush 147, 3) := by decide +kernel
theorem dX6_keeps_29 : decode cX6_keeps 29 = .ok (.iload_n 1, 1) := by decide +kernel
theorem dX6_keeps_30 : decode cX6_keeps 30 = .ok (.iadd, 1) := by decide +kernel
theorem dX6_keeps_31 : decode cX6_keeps 31 = .ok (.iaload, 1) := by decide +kernel
theorem dX6_keeps_32 : decode cX6_keeps 32 = .ok (.iastore, 1) := by decide +kernel
theorem dX6_keeps_33 : decode cX6_keeps 33 = .ok (.iinc 1 1, 3) := by decide +kernel
theorem dX6_keeps_36 : decode cX6_keeps 36 = .ok (.goto (-26), 3) := by decide +kernel
theorem dX6_keeps_39 : decode cX6_keeps 39 = .ok (.aload_n 0, 1) := by decide +kernel
theorem dX6_keeps_40 : decode cX6_keeps 40 = .ok (.dup, 1) := by decide +kernel
theorem dX6_keeps_41 : decode cX6_keeps 41 = .ok (.getfield 95, 3) := by decide +kernel
theorem dX6_keeps_44 : decode cX6_keeps 44 = .ok (.iconst 1, 1) := by decide +kernel
theorem dX6_keeps_45 : decode cX6_keeps 45 = .ok (.isub, 1) := by decide +kernel
theorem dX6_keeps_46 : decode cX6_keeps 46 = .ok (.putfield 95, 3) := by decide +kernel
theorem dX6_keeps_49 : decode cX6_keeps 49 = .ok (.iconst 0, 1) := by decide +kernel
theorem dX6_keeps_50 : decode cX6_keeps 50 = .ok (.istore_n 1, 1) := by decide +kernel
theorem dX6_keeps_51 : decode cX6_keeps 51 = .ok (.iload_n 1, 1) := by decide +kernel
theorem dX6_keeps_52 : decode cX6_keeps 52 = .ok (.sipush 147, 3) := by decide +kernel
theorem dX6_keeps_55 : decode cX6_keeps 55 = .ok (.if_icmp .ge 30, 3) := by decide +kernel
theorem dX6_keeps_58 : decode cX6_keeps 58 = .ok (.aload_n 0, 1) := by decide +kernel
theorem dX6_keeps_59 : decode cX6_keeps 59 = .ok (.getfield 16, 3) := by decide +kernel
theorem dX6_keeps_62 : decode cX6_keeps 62 = .ok (.sipush 147, 3) := by decide +kernel
theorem dX6_keeps_65 : decode cX6_keeps 65 = .ok (.aload_n 0, 1) := by decide +kernel
theorem dX6_keeps_66 : decode cX6_keeps 66 = .ok (.getfield 95, 3) := by decide +kernel
theorem dX6_keeps_69 : decode cX6_keeps 69 = .ok (.imul, 1) := by decide +kernel
theorem dX6_keeps_70 : decode cX6_keeps 70 = .ok (.iload_n 1, 1) := by decide +kernel
theorem dX6_keeps_71 : decode cX6_keeps 71 = .ok (.iadd, 1) := by decide +kernel
theorem dX6_keeps_72 : decode cX6_keeps 72 = .ok (.aload_n 0, 1) := by decide +kernel
theorem dX6_keeps_73 : decode cX6_keeps 73 = .ok (.getfield 7, 3) := by decide +kernel
theorem dX6_keeps_76 : decode cX6_keeps 76 = .ok (.iload_n 1, 1) := by decide +kernel
theorem dX6_keeps_77 : decode cX6_keeps 77 = .ok (.iaload, 1) := by decide +kernel
theorem dX6_keeps_78 : decode cX6_keeps 78 = .ok (.iastore, 1) := by decide +kernel
theorem dX6_keeps_79 : decode cX6_keeps 79 = .ok (.iinc 1 1, 3) := by decide +kernel
theorem dX6_keeps_82 : decode cX6_keeps 82 = .ok (.goto (-31), 3) := by decide +kernel
theorem dX6_keeps_85 : decode cX6_keeps 85 = .ok (.aload_n 0, 1) := by decide +kernel
theorem dX6_keeps_86 : decode cX6_keeps 86 = .ok (.dup, 1) := by decide +kernel
theorem dX6_keeps_87 : decode cX6_keeps 87 = .ok (.getfield 95, 3) := by decide +kernel
theorem dX6_keeps_90 : decode cX6_keeps 90 = .ok (.iconst 1, 1) := by decide +kernel
theorem dX6_keeps_91 : decode cX6_keeps 91 = .ok (.iadd, 1) := by decide +kernel
theorem dX6_keeps_92 : decode cX6_keeps 92 = .ok (.putfield 95, 3) := by decide +kernel
theorem dX6_keeps_95 : decode cX6_keeps 95 = .ok (.return_, 1) := by decide +kernel
theorem dX6_undo_0 : decode cX6_undo 0 = .ok (.aload_n 0, 1) := by decide +kernel
theorem dX6_undo_1 : decode cX6_undo 1 = .ok (.getfield 95, 3) := by decide +kernel
theorem dX6_undo_4 : decode cX6_undo 4 = .ok (.ifCond .ne 6, 3) := by decide +kernel
theorem dX6_undo_7 : decode cX6_undo 7 = .ok (.bipush (-102), 2) := by decide +kernel
theorem dX6_undo_9 : decode cX6_undo 9 = .ok (.ireturn, 1) := by decide +kernel
theorem dX6_undo_10 : decode cX6_undo 10 = .ok (.aload_n 0, 1) := by decide +kernel
theorem dX6_undo_11 : decode cX6_undo 11 = .ok (.dup, 1) := by decide +kernel
theorem dX6_undo_12 : decode cX6_undo 12 = .ok (.getfield 95, 3) := by decide +kernel
theorem dX6_undo_15 : decode cX6_undo 15 = .ok (.iconst 1, 1) := by decide +kernel
theorem dX6_undo_16 : decode cX6_undo 16 = .ok (.isub, 1) := by decide +kernel
theorem dX6_undo_17 : decode cX6_undo 17 = .ok (.putfield 95, 3) := by decide +kernel
theorem dX6_undo_20 : decode cX6_undo 20 = .ok (.iconst 0, 1) := by decide +kernel
theorem dX6_undo_21 : decode cX6_undo 21 = .ok (.istore_n 1, 1) := by decide +kernel
theorem dX6_undo_22 : decode cX6_undo 22 = .ok (.iload_n 1, 1) := by decide +kernel
theorem dX6_undo_23 : decode cX6_undo 23 = .ok (.sipush 147, 3) := by decide +kernel
theorem dX6_undo_26 : decode cX6_undo 26 = .ok (.if_icmp .ge 30, 3) := by decide +kernel
theorem dX6_undo_29 : decode cX6_undo 29 = .ok (.aload_n 0, 1) := by decide +kernel
theorem dX6_undo_30 : decode cX6_undo 30 = .ok (.getfield 7, 3) := by decide +kernel
theorem dX6_undo_33 : decode cX6_undo 33 = .ok (.iload_n 1, 1) := by decide +kernel
theorem dX6_undo_34 : decode cX6_undo 34 = .ok (.aload_n 0, 1) := by decide +kernel
theorem dX6_undo_35 : decode cX6_undo 35 = .ok (.getfield 16, 3) := by decide +kernel
theorem dX6_undo_38 : decode cX6_undo 38 = .ok (.sipush 147, 3) := by decide +kernel
theorem dX6_undo_41 : decode cX6_undo 41 = .ok (.aload_n 0, 1) := by decide +kernel
theorem dX6_undo_42 : decode cX6_undo 42 = .ok (.getfield 95, 3) := by decide +kernel
theorem dX6_undo_45 : decode cX6_undo 45 = .ok (.imul, 1) := by decide +kernel
theorem dX6_undo_46 : decode cX6_undo 46 = .ok (.iload_n 1, 1) := by decide +kernel
theorem dX6_undo_47 : decode cX6_undo 47 = .ok (.iadd, 1) := by decide +kernel
theorem dX6_undo_48 : decode cX6_undo 48 = .ok (.iaload, 1) := by decide +kernel
theorem dX6_undo_49 : decode cX6_undo 49 = .ok (.iastore, 1) := by decide +kernel
theorem dX6_undo_50 : decode cX6_undo 50 = .ok (.iinc 1 1, 3) := by decide +kernel
theorem dX6_undo_53 : decode cX6_undo 53 = .ok (.goto (-31), 3) := by decide +kernel
theorem dX6_undo_56 : decode cX6_undo 56 = .ok (.aload_n 0, 1) := by decide +kernel
theorem dX6_undo_57 : decode cX6_undo 57 = .ok (.getfield 95, 3) := by decide +kernel
theorem dX6_undo_60 : decode cX6_undo 60 = .ok (.ireturn, 1) := by decide +kernel
set_option maxRecDepth 20000 in
theorem ggX6_isNode_X6_nodesOf : GoodIn wsX6_isNode wsX6_nodesOf := goodIn_r _ [5] (by decide +kernel) (by decide +kernel)
set_option maxRecDepth 20000 in
theorem gX6_isNode_X6_nodesOf : GoodIn wsX6_isNode (va_wsS RX6 61 yX6_nodesOf wsX6_nodesOf) := goodIn_app (goodIn_of _ (by decide +kernel)) ggX6_isNode_X6_nodesOf
set_option maxRecDepth 20000 in
theorem ggX6_isNode_X6_in : GoodIn wsX6_isNode wsX6_in := goodIn_r _ [8] (by decide +kernel) (by decide +kernel)
set_option maxRecDepth 20000 in
theorem gX6_isNode_X6_in : GoodIn wsX6_isNode (va_wsS RX6 37 yX6_in wsX6_in) := goodIn_app (goodIn_of _ (by decide +kernel)) ggX6_isNode_X6_in
theorem dX6_isNode_0 : decode cX6_isNode 0 = .ok (.iload_n 1, 1) := by decide +kernel
theorem dX6_isNode_1 : decode cX6_isNode 1 = .ok (.i2l, 1) := by decide +kernel
theorem dX6_isNode_2 : decode cX6_isNode 2 = .ok (.lconst 0, 1) := by decide +kernel
theorem dX6_isNode_3 : decode cX6_isNode 3 = .ok (.aload_n 0, 1) := by decide +kernel
theorem dX6_isNode_4 : decode cX6_isNode 4 = .ok (.getfield 7, 3) := by decide +kernel
theorem dX6_isNode_7 : decode cX6_isNode 7 = .ok (.invokestatic 61, 3) := by decide +kernel
theorem dX6_isNode_10 : decode cX6_isNode 10 = .ok (.iconst 1, 1) := by decide +kernel
theorem dX6_isNode_11 : decode cX6_isNode 11 = .ok (.isub, 1) := by decide +kernel
theorem dX6_isNode_12 : decode cX6_isNode 12 = .ok (.i2l, 1) := by decide +kernel
theorem dX6_isNode_13 : decode cX6_isNode 13 = .ok (.invokestatic 37, 3) := by decide +kernel
theorem dX6_isNode_16 : decode cX6_isNode 16 = .ok (.ireturn, 1) := by decide +kernel
set_option maxRecDepth 20000 in
theorem ggX6_addGate_X6_in : GoodIn wsX6_addGate wsX6_in := goodIn_r _ [6] (by decide +kernel) (by decide +kernel)
set_option maxRecDepth 20000 in
theorem gX6_addGate_X6_in : GoodIn wsX6_addGate (va_wsS RX6 37 yX6_in wsX6_in) := goodIn_app (goodIn_of _ (by decide +kernel)) ggX6_addGate_X6_in
set_option maxRecDepth 20000 in
theorem ggX6_addGate_X6_isNode : GoodIn wsX6_addGate wsX6_isNode := goodIn_r _ [10, 2, 11, 12, 5, 13, 3, 4, 6, 23, 24, 25, 26, 27, 28, 29, 30, 31, 32, 33] (by decide +kernel) (by decide +kernel)
set_option maxRecDepth 20000 in
theorem gX6_addGate_X6_isNode : GoodIn wsX6_addGate (wsV RX6 100 RX6 yX6_isNode wsX6_isNode) := goodIn_app (goodIn_of _ (by decide +kernel)) ggX6_addGate_X6_isNode
set_option maxRecDepth 20000 in
theorem ggX6_addGate_X6_keeps : GoodIn wsX6_addGate wsX6_keeps := goodIn_r _ [17, 18, 19, 2, 23, 24, 25, 26, 27, 28, 29, 30, 31, 32, 33] (by decide +kernel) (by decide +kernel)
set_option maxRecDepth 20000 in
theorem gX6_addGate_X6_keeps : GoodIn wsX6_addGate (wsV RX6 103 RX6 yX6_keeps wsX6_keeps) := goodIn_app (goodIn_of _ (by decide +kernel)) ggX6_addGate_X6_keeps
set_option maxRecDepth 20000 in
theorem ggX6_addGate_X6_gate : GoodIn wsX6_addGate wsX6_gate := goodIn_r _ [22] (by decide +kernel) (by decide +kernel)
set_option maxRecDepth 20000 in
theorem gX6_addGate_X6_gate : GoodIn wsX6_addGate (va_wsS RX6 29 yX6_gate wsX6_gate) := goodIn_app (goodIn_of _ (by decide +kernel)) ggX6_addGate_X6_gate
set_option maxRecDepth 20000 in
theorem ggX6_addGate_X6_nodesOf : GoodIn wsX6_addGate wsX6_nodesOf := goodIn_r _ [13] (by decide +kernel) (by decide +kernel)
set_option maxRecDepth 20000 in
theorem gX6_addGate_X6_nodesOf : GoodIn wsX6_addGate (va_wsS RX6 61 yX6_nodesOf wsX6_nodesOf) := goodIn_app (goodIn_of _ (by decide +kernel)) ggX6_addGate_X6_nodesOf
theorem dX6_addGate_0 : decode cX6_addGate 0 = .ok (.iload_n 1, 1) := by decide +kernel
theorem dX6_addGate_1 : decode cX6_addGate 1 = .ok (.i2l, 1) := by decide +kernel
theorem dX6_addGate_2 : decode cX6_addGate 2 = .ok (.lconst 0, 1) := by decide +kernel
theorem dX6_addGate_3 : decode cX6_addGate 3 = .ok (.ldc2_w 98, 3) := by decide +kernel
theorem dX6_addGate_6 : decode cX6_addGate 6 = .ok (.invokestatic 37, 3) := by decide +kernel
theorem dX6_addGate_9 : decode cX6_addGate 9 = .ok (.ifCond .eq 24, 3) := by decide +kernel
theorem dX6_addGate_12 : decode cX6_addGate 12 = .ok (.aload_n 0, 1) := by decide +kernel
theorem dX6_addGate_13 : decode cX6_addGate 13 = .ok (.iload_n 2, 1) := by decide +kernel
theorem dX6_addGate_14 : decode cX6_addGate 14 = .ok (.invokevirtual 100, 3) := by decide +kernel
theorem dX6_addGate_17 : decode cX6_addGate 17 = .ok (.ifCond .eq 16, 3) := by decide +kernel
theorem dX6_addGate_20 : decode cX6_addGate 20 = .ok (.iload_n 1, 1) := by decide +kernel
theorem dX6_addGate_21 : decode cX6_addGate 21 = .ok (.iconst 5, 1) := by decide +kernel
theorem dX6_addGate_22 : decode cX6_addGate 22 = .ok (.if_icmp .eq 14, 3) := by decide +kernel
theorem dX6_addGate_25 : decode cX6_addGate 25 = .ok (.aload_n 0, 1) := by decide +kernel
theorem dX6_addGate_26 : decode cX6_addGate 26 = .ok (.iload_n 3, 1) := by decide +kernel
theorem dX6_addGate_27 : decode cX6_addGate 27 = .ok (.invokevirtual 100, 3) := by decide +kernel
theorem dX6_addGate_30 : decode cX6_addGate 30 = .ok (.ifCond .ne 6, 3) := by decide +kernel
theorem dX6_addGate_33 : decode cX6_addGate 33 = .ok (.bipush (-101), 2) := by decide +kernel
theorem dX6_addGate_35 : decode cX6_addGate 35 = .ok (.ireturn, 1) := by decide +kernel
theorem dX6_addGate_36 : decode cX6_addGate 36 = .ok (.aload_n 0, 1) := by decide +kernel
theorem dX6_addGate_37 : decode cX6_addGate 37 = .ok (.getfield 7, 3) := by decide +kernel
theorem dX6_addGate_40 : decode cX6_addGate 40 = .ok (.iconst 1, 1) := by decide +kernel
theorem dX6_addGate_41 : decode cX6_addGate 41 = .ok (.iaload, 1) := by decide +kernel
theorem dX6_addGate_42 : decode cX6_addGate 42 = .ok (.bipush 24, 2) := by decide +kernel
theorem dX6_addGate_44 : decode cX6_addGate 44 = .ok (.if_icmp .ne 6, 3) := by decide +kernel
theorem dX6_addGate_47 : decode cX6_addGate 47 = .ok (.bipush (-103), 2) := by decide +kernel
theorem dX6_addGate_49 : decode cX6_addGate 49 = .ok (.ireturn, 1) := by decide +kernel
theorem dX6_addGate_50 : decode cX6_addGate 50 = .ok (.aload_n 0, 1) := by decide +kernel
theorem dX6_addGate_51 : decode cX6_addGate 51 = .ok (.invokevirtual 103, 3) := by decide +kernel
theorem dX6_addGate_54 : decode cX6_addGate 54 = .ok (.aload_n 0, 1) := by decide +kernel
theorem dX6_addGate_55 : decode cX6_addGate 55 = .ok (.getfield 7, 3) := by decide +kernel
theorem dX6_addGate_58 : decode cX6_addGate 58 = .ok (.iload_n 1, 1) := by decide +kernel
theorem dX6_addGate_59 : decode cX6_addGate 59 = .ok (.iload_n 2, 1) := by decide +kernel
theorem dX6_addGate_60 : decode cX6_addGate 60 = .ok (.iload_n 3, 1) := by decide +kernel
theorem dX6_addGate_61 : decode cX6_addGate 61 = .ok (.invokestatic 29, 3) := by decide +kernel
theorem dX6_addGate_64 : decode cX6_addGate 64 = .ok (.aload_n 0, 1) := by decide +kernel
theorem dX6_addGate_65 : decode cX6_addGate 65 = .ok (.getfield 7, 3) := by decide +kernel
theorem dX6_addGate_68 : decode cX6_addGate 68 = .ok (.invokestatic 61, 3) := by decide +kernel
theorem dX6_addGate_71 : decode cX6_addGate 71 = .ok (.iconst 1, 1) := by decide +kernel
theorem dX6_addGate_72 : decode cX6_addGate 72 = .ok (.isub, 1) := by decide +kernel
theorem dX6_addGate_73 : decode cX6_addGate 73 = .ok (.ireturn, 1) := by decide +kernel
set_option maxRecDepth 20000 in
theorem ggX6_addTwoRailCell_X6_isNode : GoodIn wsX6_addTwoRailCell wsX6_isNode := goodIn_r _ [6, 1, 7, 8, 5, 9, 10, 11, 12, 22, 23, 24, 25, 26, 27, 28, 29, 30, 31, 32] (by decide +kernel) (by decide +kernel)
set_option maxRecDepth 20000 in
theorem gX6_addTwoRailCell_X6_isNode : GoodIn wsX6_addTwoRailCell (wsV RX6 100 RX6 yX6_isNode wsX6_isNode) := goodIn_app (goodIn_of _ (by decide +kernel)) ggX6_addTwoRailCell_X6_isNode
set_option maxRecDepth 20000 in
theorem ggX6_addTwoRailCell_X6_keeps : GoodIn wsX6_addTwoRailCell wsX6_keeps := goodIn_r _ [16, 17, 18, 1, 22, 23, 24, 25, 26, 27, 28, 29, 30, 31, 32] (by decide +kernel) (by decide +kernel)
set_option maxRecDepth 20000 in
theorem gX6_addTwoRailCell_X6_keeps : GoodIn wsX6_addTwoRailCell (wsV RX6 103 RX6 yX6_keeps wsX6_keeps) := goodIn_app (goodIn_of _ (by decide +kernel)) ggX6_addTwoRailCell_X6_keeps
set_option maxRecDepth 20000 in
theorem ggX6_addTwoRailCell_X6_nodesOf : GoodIn wsX6_addTwoRailCell wsX6_nodesOf := goodIn_r _ [9] (by decide +kernel) (by decide +kernel)
set_option maxRecDepth 20000 in
theorem gX6_addTwoRailCell_X6_nodesOf : GoodIn wsX6_addTwoRailCell (va_wsS RX6 61 yX6_nodesOf wsX6_nodesOf) := goodIn_app (goodIn_of _ (by decide +kernel)) ggX6_addTwoRailCell_X6_nodesOf
set_option maxRecDepth 20000 in
theorem ggX6_addTwoRailCell_X6_gate : GoodIn wsX6_addTwoRailCell wsX6_gate := goodIn_r _ [21] (by decide +kernel) (by decide +kernel)
set_option maxRecDepth 20000 in
theorem gX6_addTwoRailCell_X6_gate : GoodIn wsX6_addTwoRailCell (va_wsS RX6 29 yX6_gate wsX6_gate) := goodIn_app (goodIn_of _ (by decide +kernel)) ggX6_addTwoRailCell_X6_gate
theorem dX6_addTwoRailCell_0 : decode cX6_addTwoRailCell 0 = .ok (.aload_n 0, 1) := by decide +kernel
theorem dX6_addTwoRailCell_1 : decode cX6_addTwoRailCell 1 = .ok (.iload_n 1, 1) := by decide +kernel
theorem dX6_addTwoRailCell_2 : decode cX6_addTwoRailCell 2 = .ok (.invokevirtual 100, 3) := by decide +kernel
theorem dX6_addTwoRailCell_5 : decode cX6_addTwoRailCell 5 = .ok (.ifCond .eq 28, 3) := by decide +kernel
theorem dX6_addTwoRailCell_8 : decode cX6_addTwoRailCell 8 = .ok (.aload_n 0, 1) := by decide +kernel
theorem dX6_addTwoRailCell_9 : decode cX6_addTwoRailCell 9 = .ok (.iload_n 2, 1) := by decide +kernel
theorem dX6_addTwoRailCell_10 : decode cX6_addTwoRailCell 10 = .ok (.invokevirtual 100, 3) := by decide +kernel
theorem dX6_addTwoRailCell_13 : decode cX6_addTwoRailCell 13 = .ok (.ifCond .eq 20, 3) := by decide +kernel
theorem dX6_addTwoRailCell_16 : decode cX6_addTwoRailCell 16 = .ok (.aload_n 0, 1) := by decide +kernel
theorem dX6_addTwoRailCell_17 : decode cX6_addTwoRailCell 17 = .ok (.iload_n 3, 1) := by decide +kernel
theorem dX6_addTwoRailCell_18 : decode cX6_addTwoRailCell 18 = .ok (.invokevirtual 100, 3) := by decide +kernel
theorem dX6_addTwoRailCell_21 : decode cX6_addTwoRailCell 21 = .ok (.ifCond .eq 12, 3) := by decide +kernel
theorem dX6_addTwoRailCell_24 : decode cX6_addTwoRailCell 24 = .ok (.aload_n 0, 1) := by decide +kernel
theorem dX6_addTwoRailCell_25 : decode cX6_addTwoRailCell 25 = .ok (.iload 4, 2) := by decide +kernel
theorem dX6_addTwoRailCell_27 : decode cX6_addTwoRailCell 27 = .ok (.invokevirtual 100, 3) := by decide +kernel
theorem dX6_addTwoRailCell_30 : decode cX6_addTwoRailCell 30 = .ok (.ifCond .ne 6, 3) := by decide +kernel
theorem dX6_addTwoRailCell_33 : decode cX6_addTwoRailCell 33 = .ok (.bipush (-101), 2) := by decide +kernel
theorem dX6_addTwoRailCell_35 : decode cX6_addTwoRailCell 35 = .ok (.ireturn, 1) := by decide +kernel
theorem dX6_addTwoRailCell_36 : decode cX6_addTwoRailCell 36 = .ok (.aload_n 0, 1) := by decide +kernel
theorem dX6_addTwoRailCell_37 : decode cX6_addTwoRailCell 37 = .ok (.getfield 7, 3) := by decide +kernel
theorem dX6_addTwoRailCell_40 : decode cX6_addTwoRailCell 40 = .ok (.iconst 1, 1) := by decide +kernel
theorem dX6_addTwoRailCell_41 : decode cX6_addTwoRailCell 41 = .ok (.iaload, 1) := by decide +kernel
theorem dX6_addTwoRailCell_42 : decode cX6_addTwoRailCell 42 = .ok (.bipush 18, 2) := by decide +kernel
theorem dX6_addTwoRailCell_44 : decode cX6_addTwoRailCell 44 = .ok (.if_icmp .le 6, 3) := by decide +kernel
theorem dX6_addTwoRailCell_47 : decode cX6_addTwoRailCell 47 = .ok (.bipush (-103), 2) := by decide +kernel
theorem dX6_addTwoRailCell_49 : decode cX6_addTwoRailCell 49 = .ok (.ireturn, 1) := by decide +kernel
theorem dX6_addTwoRailCell_50 : decode cX6_addTwoRailCell 50 = .ok (.aload_n 0, 1) := by decide +kernel
theorem dX6_addTwoRailCell_51 : decode cX6_addTwoRailCell 51 = .ok (.invokevirtual 103, 3) := by decide +kernel
theorem dX6_addTwoRailCell_54 : decode cX6_addTwoRailCell 54 = .ok (.aload_n 0, 1) := by decide +kernel
theorem dX6_addTwoRailCell_55 : decode cX6_addTwoRailCell 55 = .ok (.getfield 7, 3) := by decide +kernel
theorem dX6_addTwoRailCell_58 : decode cX6_addTwoRailCell 58 = .ok (.invokestatic 61, 3) := by decide +kernel
theorem dX6_addTwoRailCell_61 : decode cX6_addTwoRailCell 61 = .ok (.istore 5, 2) := by decide +kernel
theorem dX6_addTwoRailCell_63 : decode cX6_addTwoRailCell 63 = .ok (.aload_n 0, 1) := by decide +kernel
theorem dX6_addTwoRailCell_64 : decode cX6_addTwoRailCell 64 = .ok (.getfield 7, 3) := by decide +kernel
theorem dX6_addTwoRailCell_67 : decode cX6_addTwoRailCell 67 = .ok (.iconst 0, 1) := by decide +kernel
theorem dX6_addTwoRailCell_68 : decode cX6_addTwoRailCell 68 = .ok (.iload_n 1, 1) := by decide +kernel
theorem dX6_addTwoRailCell_69 : decode cX6_addTwoRailCell 69 = .ok (.iload_n 3, 1) := by decide +kernel
theorem dX6_addTwoRailCell_70 : decode cX6_addTwoRailCell 70 = .ok (.invokestatic 29, 3) := by decide +kernel
theorem dX6_addTwoRailCell_73 : decode cX6_addTwoRailCell 73 = .ok (.aload_n 0, 1) := by decide +kernel
theorem dX6_addTwoRailCell_74 : decode cX6_addTwoRailCell 74 = .ok (.getfield 7, 3) := by decide +kernel
theorem dX6_addTwoRailCell_77 : decode cX6_addTwoRailCell 77 = .ok (.iconst 0, 1) := by decide +kernel
theorem dX6_addTwoRailCell_78 : decode cX6_addTwoRailCell 78 = .ok (.iload_n 2, 1) := by decide +kernel
theorem dX6_addTwoRailCell_79 : decode cX6_addTwoRailCell 79 = .ok (.iload 4, 2) := by decide +kernel
theorem dX6_addTwoRailCell_81 : decode cX6_addTwoRailCell 81 = .ok (.invokestatic 29, 3) := by decide +kernel
theorem dX6_addTwoRailCell_84 : decode cX6_addTwoRailCell 84 = .ok (.aload_n 0, 1) := by decide +kernel
theorem dX6_addTwoRailCell_85 : decode cX6_addTwoRailCell 85 = .ok (.getfield 7, 3) := by decide +kernel
theorem dX6_addTwoRailCell_88 : decode cX6_addTwoRailCell 88 = .ok (.iconst 1, 1) := by decide +kernel
theorem dX6_addTwoRailCell_89 : decode cX6_addTwoRailCell 89 = .ok (.iload 5, 2) := by decide +kernel
theorem dX6_addTwoRailCell_91 : decode cX6_addTwoRailCell 91 = .ok (.iload 5, 2) := by decide +kernel
theorem dX6_addTwoRailCell_93 : decode cX6_addTwoRailCell 93 = .ok (.iconst 1, 1) := by decide +kernel
theorem dX6_addTwoRailCell_94 : decode cX6_addTwoRailCell 94 = .ok (.iadd, 1) := by decide +kernel
theorem dX6_addTwoRailCell_95 : decode cX6_addTwoRailCell 95 = .ok (.invokestatic 29, 3) := by decide +kernel
theorem dX6_addTwoRailCell_98 : decode cX6_addTwoRailCell 98 = .ok (.aload_n 0, 1) := by decide +kernel
theorem dX6_addTwoRailCell_99 : decode cX6_addTwoRailCell 99 = .ok (.getfield 7, 3) := by decide +kernel
theorem dX6_addTwoRailCell_102 : decode cX6_addTwoRailCell 102 = .ok (.iconst 0, 1) := by decide +kernel
theorem dX6_addTwoRailCell_103 : decode cX6_addTwoRailCell 103 = .ok (.iload_n 1, 1) := by decide +kernel
theorem dX6_addTwoRailCell_104 : decode cX6_addTwoRailCell 104 = .ok (.iload 4, 2) := by decide +kernel
theorem dX6_addTwoRailCell_106 : decode cX6_addTwoRailCell 106 = .ok (.invokestatic 29, 3) := by decide +kernel
theorem dX6_addTwoRailCell_109 : decode cX6_addTwoRailCell 109 = .ok (.aload_n 0, 1) := by decide +kernel
theorem dX6_addTwoRailCell_110 : decode cX6_addTwoRailCell 110 = .ok (.getfield 7, 3) := by decide +kernel
theorem dX6_addTwoRailCell_113 : decode cX6_addTwoRailCell 113 = .ok (.iconst 0, 1) := by decide +kernel
theorem dX6_addTwoRailCell_114 : decode cX6_addTwoRailCell 114 = .ok (.iload_n 2, 1) := by decide +kernel
theorem dX6_addTwoRailCell_115 : decode cX6_addTwoRailCell 115 = .ok (.iload_n 3, 1) := by decide +kernel
theorem dX6_addTwoRailCell_116 : decode cX6_addTwoRailCell 116 = .ok (.invokestatic 29, 3) := by decide +kernel
theorem dX6_addTwoRailCell_119 : decode cX6_addTwoRailCell 119 = .ok (.aload_n 0, 1) := by decide +kernel
theorem dX6_addTwoRailCell_120 : decode cX6_addTwoRailCell 120 = .ok (.getfield 7, 3) := by decide +kernel
theorem dX6_addTwoRailCell_123 : decode cX6_addTwoRailCell 123 = .ok (.iconst 1, 1) := by decide +kernel
theorem dX6_addTwoRailCell_124 : decode cX6_addTwoRailCell 124 = .ok (.iload 5, 2) := by decide +kernel
theorem dX6_addTwoRailCell_126 : decode cX6_addTwoRailCell 126 = .ok (.iconst 3, 1) := by decide +kernel
theorem dX6_addTwoRailCell_127 : decode cX6_addTwoRailCell 127 = .ok (.iadd, 1) := by decide +kernel
theorem dX6_addTwoRailCell_128 : decode cX6_addTwoRailCell 128 = .ok (.iload 5, 2) := by decide +kernel
theorem dX6_addTwoRailCell_130 : decode cX6_addTwoRailCell 130 = .ok (.iconst 4, 1) := by decide +kernel
theorem dX6_addTwoRailCell_131 : decode cX6_addTwoRailCell 131 = .ok (.iadd, 1) := by decide +kernel
theorem dX6_addTwoRailCell_132 : decode cX6_addTwoRailCell 132 = .ok (.invokestatic 29, 3) := by decide +kernel
theorem dX6_addTwoRailCell_135 : decode cX6_addTwoRailCell 135 = .ok (.iload 5, 2) := by decide +kernel
theorem dX6_addTwoRailCell_137 : decode cX6_addTwoRailCell 137 = .ok (.iconst 5, 1) := by decide +kernel
theorem dX6_addTwoRailCell_138 : decode cX6_addTwoRailCell 138 = .ok (.iadd, 1) := by decide +kernel
theorem dX6_addTwoRailCell_139 : decode cX6_addTwoRailCell 139 = .ok (.ireturn, 1) := by decide +kernel
set_option maxRecDepth 20000 in
theorem ggX6_addComparator_X6_isNode : GoodIn wsX6_addComparator wsX6_isNode := goodIn_r _ [6, 1, 7, 8, 5, 9, 10, 11, 12, 22, 23, 24, 25, 26, 27, 28, 29, 30, 31, 32] (by decide +kernel) (by decide +kernel)
set_option maxRecDepth 20000 in
theorem gX6_addComparator_X6_isNode : GoodIn wsX6_addComparator (wsV RX6 100 RX6 yX6_isNode wsX6_isNode) := goodIn_app (goodIn_of _ (by decide +kernel)) ggX6_addComparator_X6_isNode
set_option maxRecDepth 20000 in
theorem ggX6_addComparator_X6_keeps : GoodIn wsX6_addComparator wsX6_keeps := goodIn_r _ [16, 17, 18, 1, 22, 23, 24, 25, 26, 27, 28, 29, 30, 31, 32] (by decide +kernel) (by decide +kernel)
set_option maxRecDepth 20000 in
theorem gX6_addComparator_X6_keeps : GoodIn wsX6_addComparator (wsV RX6 103 RX6 yX6_keeps wsX6_keeps) := goodIn_app (goodIn_of _ (by decide +kernel)) ggX6_addComparator_X6_keeps
set_option maxRecDepth 20000 in
theorem ggX6_addComparator_X6_gate : GoodIn wsX6_addComparator wsX6_gate := goodIn_r _ [21] (by decide +kernel) (by decide +kernel)
set_option maxRecDepth 20000 in
theorem gX6_addComparator_X6_gate : GoodIn wsX6_addComparator (va_wsS RX6 29 yX6_gate wsX6_gate) := goodIn_app (goodIn_of _ (by decide +kernel)) ggX6_addComparator_X6_gate
set_option maxRecDepth 20000 in
theorem ggX6_addComparator_X6_nodesOf : GoodIn wsX6_addComparator wsX6_nodesOf := goodIn_r _ [9] (by decide +kernel) (by decide +kernel)
set_option maxRecDepth 20000 in
theorem gX6_addComparator_X6_nodesOf : GoodIn wsX6_addComparator (va_wsS RX6 61 yX6_nodesOf wsX6_nodesOf) := goodIn_app (goodIn_of _ (by decide +kernel)) ggX6_addComparator_X6_nodesOf
theorem dX6_addComparator_0 : decode cX6_addComparator 0 = .ok (.aload_n 0, 1) := by decide +kernel
theorem dX6_addComparator_1 : decode cX6_addComparator 1 = .ok (.iload_n 1, 1) := by decide +kernel
theorem dX6_addComparator_2 : decode cX6_addComparator 2 = .ok (.invokevirtual 100, 3) := by decide +kernel
theorem dX6_addComparator_5 : decode cX6_addComparator 5 = .ok (.ifCond .eq 11, 3) := by decide +kernel
theorem dX6_addComparator_8 : decode cX6_addComparator 8 = .ok (.aload_n 0, 1) := by decide +kernel
theorem dX6_addComparator_9 : decode cX6_addComparator 9 = .ok (.iload_n 2, 1) := by decide +kernel
theorem dX6_addComparator_10 : decode cX6_addComparator 10 = .ok (.invokevirtual 100, 3) := by decide +kernel
theorem dX6_addComparator_13 : decode cX6_addComparator 13 = .ok (.ifCond .ne 6, 3) := by decide +kernel
theorem dX6_addComparator_16 : decode cX6_addComparator 16 = .ok (.bipush (-101), 2) := by decide +kernel
theorem dX6_addComparator_18 : decode cX6_addComparator 18 = .ok (.ireturn, 1) := by decide +kernel
theorem dX6_addComparator_19 : decode cX6_addComparator 19 = .ok (.aload_n 0, 1) := by decide +kernel
theorem dX6_addComparator_20 : decode cX6_addComparator 20 = .ok (.getfield 7, 3) := by decide +kernel
theorem dX6_addComparator_23 : decode cX6_addComparator 23 = .ok (.iconst 1, 1) := by decide +kernel
theorem dX6_addComparator_24 : decode cX6_addComparator 24 = .ok (.iaload, 1) := by decide +kernel
theorem dX6_addComparator_25 : decode cX6_addComparator 25 = .ok (.bipush 22, 2) := by decide +kernel
theorem dX6_addComparator_27 : decode cX6_addComparator 27 = .ok (.if_icmp .le 6, 3) := by decide +kernel
theorem dX6_addComparator_30 : decode cX6_addComparator 30 = .ok (.bipush (-103), 2) := by decide +kernel
theorem dX6_addComparator_32 : decode cX6_addComparator 32 = .ok (.ireturn, 1) := by decide +kernel
theorem dX6_addComparator_33 : decode cX6_addComparator 33 = .ok (.aload_n 0, 1) := by decide +kernel
theorem dX6_addComparator_34 : decode cX6_addComparator 34 = .ok (.invokevirtual 103, 3) := by decide +kernel
theorem dX6_addComparator_37 : decode cX6_addComparator 37 = .ok (.aload_n 0, 1) := by decide +kernel
theorem dX6_addComparator_38 : decode cX6_addComparator 38 = .ok (.getfield 7, 3) := by decide +kernel
theorem dX6_addComparator_41 : decode cX6_addComparator 41 = .ok (.iconst 1, 1) := by decide +kernel
theorem dX6_addComparator_42 : decode cX6_addComparator 42 = .ok (.iload_n 1, 1) := by decide +kernel
theorem dX6_addComparator_43 : decode cX6_addComparator 43 = .ok (.iload_n 2, 1) := by decide +kernel
theorem dX6_addComparator_44 : decode cX6_addComparator 44 = .ok (.invokestatic 29, 3) := by decide +kernel
theorem dX6_addComparator_47 : decode cX6_addComparator 47 = .ok (.aload_n 0, 1) := by decide +kernel
theorem dX6_addComparator_48 : decode cX6_addComparator 48 = .ok (.getfield 7, 3) := by decide +kernel
theorem dX6_addComparator_51 : decode cX6_addComparator 51 = .ok (.iconst 0, 1) := by decide +kernel
theorem dX6_addComparator_52 : decode cX6_addComparator 52 = .ok (.iload_n 1, 1) := by decide +kernel
theorem dX6_addComparator_53 : decode cX6_addComparator 53 = .ok (.iload_n 2, 1) := by decide +kernel
theorem dX6_addComparator_54 : decode cX6_addComparator 54 = .ok (.invokestatic 29, 3) := by decide +kernel
theorem dX6_addComparator_57 : decode cX6_addComparator 57 = .ok (.aload_n 0, 1) := by decide +kernel
theorem dX6_addComparator_58 : decode cX6_addComparator 58 = .ok (.getfield 7, 3) := by decide +kernel
theorem dX6_addComparator_61 : decode cX6_addComparator 61 = .ok (.invokestatic 61, 3) := by decide +kernel
theorem dX6_addComparator_64 : decode cX6_addComparator 64 = .ok (.iconst 1, 1) := by decide +kernel
theorem dX6_addComparator_65 : decode cX6_addComparator 65 = .ok (.isub, 1) := by decide +kernel
theorem dX6_addComparator_66 : decode cX6_addComparator 66 = .ok (.ireturn, 1) := by decide +kernel
set_option maxRecDepth 20000 in
theorem ggX6_removeGate_X6_nodesOf : GoodIn wsX6_removeGate wsX6_nodesOf := goodIn_r _ [5] (by decide +kernel) (by decide +kernel)
set_option maxRecDepth 20000 in
theorem gX6_removeGate_X6_nodesOf : GoodIn wsX6_removeGate (va_wsS RX6 61 yX6_nodesOf wsX6_nodesOf) := goodIn_app (goodIn_of _ (by decide +kernel)) ggX6_removeGate_X6_nodesOf
set_option maxRecDepth 20000 in
theorem ggX6_removeGate_X6_keeps : GoodIn wsX6_removeGate wsX6_keeps := goodIn_r _ [9, 10, 11, 1, 12, 13, 14, 15, 16, 17, 18, 19, 20, 21, 22] (by decide +kernel) (by decide +kernel)
set_option maxRecDepth 20000 in
theorem gX6_removeGate_X6_keeps : GoodIn wsX6_removeGate (wsV RX6 103 RX6 yX6_keeps wsX6_keeps) := goodIn_app (goodIn_of _ (by decide +kernel)) ggX6_removeGate_X6_keeps
theorem dX6_removeGate_0 : decode cX6_removeGate 0 = .ok (.aload_n 0, 1) := by decide +kernel
theorem dX6_removeGate_1 : decode cX6_removeGate 1 = .ok (.getfield 7, 3) := by decide +kernel
theorem dX6_removeGate_4 : decode cX6_removeGate 4 = .ok (.iconst 1, 1) := by decide +kernel
theorem dX6_removeGate_5 : decode cX6_removeGate 5 = .ok (.iaload, 1) := by decide +kernel
theorem dX6_removeGate_6 : decode cX6_removeGate 6 = .ok (.ifCond .ne 6, 3) := by decide +kernel
theorem dX6_removeGate_9 : decode cX6_removeGate 9 = .ok (.bipush (-104), 2) := by decide +kernel
theorem dX6_removeGate_11 : decode cX6_removeGate 11 = .ok (.ireturn, 1) := by decide +kernel
theorem dX6_removeGate_12 : decode cX6_removeGate 12 = .ok (.iconst 0, 1) := by decide +kernel
theorem dX6_removeGate_13 : decode cX6_removeGate 13 = .ok (.istore_n 1, 1) := by decide +kernel
theorem dX6_removeGate_14 : decode cX6_removeGate 14 = .ok (.iload_n 1, 1) := by decide +kernel
theorem dX6_removeGate_15 : decode cX6_removeGate 15 = .ok (.aload_n 0, 1) := by decide +kernel
theorem dX6_removeGate_16 : decode cX6_removeGate 16 = .ok (.getfield 7, 3) := by decide +kernel
theorem dX6_removeGate_19 : decode cX6_removeGate 19 = .ok (.bipush 74, 2) := by decide +kernel
theorem dX6_removeGate_21 : decode cX6_removeGate 21 = .ok (.iaload, 1) := by decide +kernel
theorem dX6_removeGate_22 : decode cX6_removeGate 22 = .ok (.if_icmp .ge 33, 3) := by decide +kernel
theorem dX6_removeGate_25 : decode cX6_removeGate 25 = .ok (.aload_n 0, 1) := by decide +kernel
theorem dX6_removeGate_26 : decode cX6_removeGate 26 = .ok (.getfield 7, 3) := by decide +kernel
theorem dX6_removeGate_29 : decode cX6_removeGate 29 = .ok (.bipush 75, 2) := by decide +kernel
theorem dX6_removeGate_31 : decode cX6_removeGate 31 = .ok (.iload_n 1, 1) := by decide +kernel
theorem dX6_removeGate_32 : decode cX6_removeGate 32 = .ok (.iadd, 1) := by decide +kernel
theorem dX6_removeGate_33 : decode cX6_removeGate 33 = .ok (.iaload, 1) := by decide +kernel
theorem dX6_removeGate_34 : decode cX6_removeGate 34 = .ok (.aload_n 0, 1) := by decide +kernel
theorem dX6_removeGate_35 : decode cX6_removeGate 35 = .ok (.getfield 7, 3) := by decide +kernel
theorem dX6_removeGate_38 : decode cX6_removeGate 38 = .ok (.invokestatic 61, 3) := by decide +kernel
theorem dX6_removeGate_41 : decode cX6_removeGate 41 = .ok (.iconst 1, 1) := by decide +kernel
theorem dX6_removeGate_42 : decode cX6_removeGate 42 = .ok (.isub, 1) := by decide +kernel
theorem dX6_removeGate_43 : decode cX6_removeGate 43 = .ok (.if_icmp .ne 6, 3) := by decide +kernel
theorem dX6_removeGate_46 : decode cX6_removeGate 46 = .ok (.bipush (-102), 2) := by decide +kernel
theorem dX6_removeGate_48 : decode cX6_removeGate 48 = .ok (.ireturn, 1) := by decide +kernel
theorem dX6_removeGate_49 : decode cX6_removeGate 49 = .ok (.iinc 1 1, 3) := by decide +kernel
theorem dX6_removeGate_52 : decode cX6_removeGate 52 = .ok (.goto (-38), 3) := by decide +kernel
theorem dX6_removeGate_55 : decode cX6_removeGate 55 = .ok (.aload_n 0, 1) := by decide +kernel
theorem dX6_removeGate_56 : decode cX6_removeGate 56 = .ok (.invokevirtual 103, 3) := by decide +kernel
theorem dX6_removeGate_59 : decode cX6_removeGate 59 = .ok (.aload_n 0, 1) := by decide +kernel
theorem dX6_removeGate_60 : decode cX6_removeGate 60 = .ok (.getfield 7, 3) := by decide +kernel
theorem dX6_removeGate_63 : decode cX6_removeGate 63 = .ok (.iconst 1, 1) := by decide +kernel
theorem dX6_removeGate_64 : decode cX6_removeGate 64 = .ok (.dup2, 1) := by decide +kernel
theorem dX6_removeGate_65 : decode cX6_removeGate 65 = .ok (.iaload, 1) := by decide +kernel
theorem dX6_removeGate_66 : decode cX6_removeGate 66 = .ok (.iconst 1, 1) := by decide +kernel
theorem dX6_removeGate_67 : decode cX6_removeGate 67 = .ok (.isub, 1) := by decide +kernel
theorem dX6_removeGate_68 : decode cX6_removeGate 68 = .ok (.iastore, 1) := by decide +kernel
theorem dX6_removeGate_69 : decode cX6_removeGate 69 = .ok (.aload_n 0, 1) := by decide +kernel
theorem dX6_removeGate_70 : decode cX6_removeGate 70 = .ok (.getfield 7, 3) := by decide +kernel
theorem dX6_removeGate_73 : decode cX6_removeGate 73 = .ok (.iconst 2, 1) := by decide +kernel
theorem dX6_removeGate_74 : decode cX6_removeGate 74 = .ok (.iconst 3, 1) := by decide +kernel
theorem dX6_removeGate_75 : decode cX6_removeGate 75 = .ok (.aload_n 0, 1) := by decide +kernel
theorem dX6_removeGate_76 : decode cX6_removeGate 76 = .ok (.getfield 7, 3) := by decide +kernel
theorem dX6_removeGate_79 : decode cX6_removeGate 79 = .ok (.iconst 1, 1) := by decide +kernel
theorem dX6_removeGate_80 : decode cX6_removeGate 80 = .ok (.iaload, 1) := by decide +kernel
theorem dX6_removeGate_81 : decode cX6_removeGate 81 = .ok (.imul, 1) := by decide +kernel
theorem dX6_removeGate_82 : decode cX6_removeGate 82 = .ok (.iadd, 1) := by decide +kernel
theorem dX6_removeGate_83 : decode cX6_removeGate 83 = .ok (.iaload, 1) := by decide +kernel
theorem dX6_removeGate_84 : decode cX6_removeGate 84 = .ok (.ireturn, 1) := by decide +kernel
set_option maxRecDepth 20000 in
theorem ggX6_addOutput_X6_isNode : GoodIn wsX6_addOutput wsX6_isNode := goodIn_r _ [6, 1, 7, 8, 5, 9, 10, 11, 12, 19, 20, 21, 22, 23, 24, 25, 26, 27, 28, 29] (by decide +kernel) (by decide +kernel)
set_option maxRecDepth 20000 in
theorem gX6_addOutput_X6_isNode : GoodIn wsX6_addOutput (wsV RX6 100 RX6 yX6_isNode wsX6_isNode) := goodIn_app (goodIn_of _ (by decide +kernel)) ggX6_addOutput_X6_isNode
set_option maxRecDepth 20000 in
theorem ggX6_addOutput_X6_keeps : GoodIn wsX6_addOutput wsX6_keeps := goodIn_r _ [16, 17, 18, 1, 19, 20, 21, 22, 23, 24, 25, 26, 27, 28, 29] (by decide +kernel) (by decide +kernel)
set_option maxRecDepth 20000 in
theorem gX6_addOutput_X6_keeps : GoodIn wsX6_addOutput (wsV RX6 103 RX6 yX6_keeps wsX6_keeps) := goodIn_app (goodIn_of _ (by decide +kernel)) ggX6_addOutput_X6_keeps
theorem dX6_addOutput_0 : decode cX6_addOutput 0 = .ok (.aload_n 0, 1) := by decide +kernel
theorem dX6_addOutput_1 : decode cX6_addOutput 1 = .ok (.iload_n 1, 1) := by decide +kernel
theorem dX6_addOutput_2 : decode cX6_addOutput 2 = .ok (.invokevirtual 100, 3) := by decide +kernel
theorem dX6_addOutput_5 : decode cX6_addOutput 5 = .ok (.ifCond .ne 6, 3) := by decide +kernel
theorem dX6_addOutput_8 : decode cX6_addOutput 8 = .ok (.bipush (-101), 2) := by decide +kernel
theorem dX6_addOutput_10 : decode cX6_addOutput 10 = .ok (.ireturn, 1) := by decide +kernel
theorem dX6_addOutput_11 : decode cX6_addOutput 11 = .ok (.aload_n 0, 1) := by decide +kernel
theorem dX6_addOutput_12 : decode cX6_addOutput 12 = .ok (.getfield 7, 3) := by decide +kernel
theorem dX6_addOutput_15 : decode cX6_addOutput 15 = .ok (.bipush 74, 2) := by decide +kernel
theorem dX6_addOutput_17 : decode cX6_addOutput 17 = .ok (.iaload, 1) := by decide +kernel
theorem dX6_addOutput_18 : decode cX6_addOutput 18 = .ok (.bipush 6, 2) := by decide +kernel
theorem dX6_addOutput_20 : decode cX6_addOutput 20 = .ok (.if_icmp .ne 6, 3) := by decide +kernel
theorem dX6_addOutput_23 : decode cX6_addOutput 23 = .ok (.bipush (-103), 2) := by decide +kernel
theorem dX6_addOutput_25 : decode cX6_addOutput 25 = .ok (.ireturn, 1) := by decide +kernel
theorem dX6_addOutput_26 : decode cX6_addOutput 26 = .ok (.aload_n 0, 1) := by decide +kernel
theorem dX6_addOutput_27 : decode cX6_addOutput 27 = .ok (.invokevirtual 103, 3) := by decide +kernel
theorem dX6_addOutput_30 : decode cX6_addOutput 30 = .ok (.aload_n 0, 1) := by decide +kernel
theorem dX6_addOutput_31 : decode cX6_addOutput 31 = .ok (.getfield 7, 3) := by decide +kernel
theorem dX6_addOutput_34 : decode cX6_addOutput 34 = .ok (.bipush 75, 2) := by decide +kernel
theorem dX6_addOutput_36 : decode cX6_addOutput 36 = .ok (.aload_n 0, 1) := by decide +kernel
theorem dX6_addOutput_37 : decode cX6_addOutput 37 = .ok (.getfield 7, 3) := by decide +kernel
theorem dX6_addOutput_40 : decode cX6_addOutput 40 = .ok (.bipush 74, 2) := by decide +kernel
theorem dX6_addOutput_42 : decode cX6_addOutput 42 = .ok (.iaload, 1) := by decide +kernel
theorem dX6_addOutput_43 : decode cX6_addOutput 43 = .ok (.iadd, 1) := by decide +kernel
theorem dX6_addOutput_44 : decode cX6_addOutput 44 = .ok (.iload_n 1, 1) := by decide +kernel
theorem dX6_addOutput_45 : decode cX6_addOutput 45 = .ok (.iastore, 1) := by decide +kernel
theorem dX6_addOutput_46 : decode cX6_addOutput 46 = .ok (.aload_n 0, 1) := by decide +kernel
theorem dX6_addOutput_47 : decode cX6_addOutput 47 = .ok (.getfield 7, 3) := by decide +kernel
theorem dX6_addOutput_50 : decode cX6_addOutput 50 = .ok (.bipush 74, 2) := by decide +kernel
theorem dX6_addOutput_52 : decode cX6_addOutput 52 = .ok (.dup2, 1) := by decide +kernel
theorem dX6_addOutput_53 : decode cX6_addOutput 53 = .ok (.iaload, 1) := by decide +kernel
theorem dX6_addOutput_54 : decode cX6_addOutput 54 = .ok (.iconst 1, 1) := by decide +kernel
theorem dX6_addOutput_55 : decode cX6_addOutput 55 = .ok (.iadd, 1) := by decide +kernel
theorem dX6_addOutput_56 : decode cX6_addOutput 56 = .ok (.iastore, 1) := by decide +kernel
theorem dX6_addOutput_57 : decode cX6_addOutput 57 = .ok (.aload_n 0, 1) := by decide +kernel
theorem dX6_addOutput_58 : decode cX6_addOutput 58 = .ok (.getfield 7, 3) := by decide +kernel
theorem dX6_addOutput_61 : decode cX6_addOutput 61 = .ok (.bipush 74, 2) := by decide +kernel
theorem dX6_addOutput_63 : decode cX6_addOutput 63 = .ok (.iaload, 1) := by decide +kernel
theorem dX6_addOutput_64 : decode cX6_addOutput 64 = .ok (.ireturn, 1) := by decide +kernel
set_option maxRecDepth 20000 in
theorem ggX6_clearOutputs_X6_keeps : GoodIn wsX6_clearOutputs wsX6_keeps := goodIn_r _ [6, 7, 8, 1, 9, 10, 11, 12, 13, 14, 15, 16, 17, 18, 19] (by decide +kernel) (by decide +kernel)
set_option maxRecDepth 20000 in
theorem gX6_clearOutputs_X6_keeps : GoodIn wsX6_clearOutputs (wsV RX6 103 RX6 yX6_keeps wsX6_keeps) := goodIn_app (goodIn_of _ (by decide +kernel)) ggX6_clearOutputs_X6_keeps
theorem dX6_clearOutputs_0 : decode cX6_clearOutputs 0 = .ok (.aload_n 0, 1) := by decide +kernel
theorem dX6_clearOutputs_1 : decode cX6_clearOutputs 1 = .ok (.invokevirtual 103, 3) := by decide +kernel
theorem dX6_clearOutputs_4 : decode cX6_clearOutputs 4 = .ok (.aload_n 0, 1) := by decide +kernel
theorem dX6_clearOutputs_5 : decode cX6_clearOutputs 5 = .ok (.getfield 7, 3) := by decide +kernel
theorem dX6_clearOutputs_8 : decode cX6_clearOutputs 8 = .ok (.bipush 74, 2) := by decide +kernel
theorem dX6_clearOutputs_10 : decode cX6_clearOutputs 10 = .ok (.iaload, 1) := by decide +kernel
theorem dX6_clearOutputs_11 : decode cX6_clearOutputs 11 = .ok (.istore_n 1, 1) := by decide +kernel
theorem dX6_clearOutputs_12 : decode cX6_clearOutputs 12 = .ok (.aload_n 0, 1) := by decide +kernel
theorem dX6_clearOutputs_13 : decode cX6_clearOutputs 13 = .ok (.getfield 7, 3) := by decide +kernel
theorem dX6_clearOutputs_16 : decode cX6_clearOutputs 16 = .ok (.bipush 74, 2) := by decide +kernel
theorem dX6_clearOutputs_18 : decode cX6_clearOutputs 18 = .ok (.iconst 0, 1) := by decide +kernel
theorem dX6_clearOutputs_19 : decode cX6_clearOutputs 19 = .ok (.iastore, 1) := by decide +kernel
theorem dX6_clearOutputs_20 : decode cX6_clearOutputs 20 = .ok (.iload_n 1, 1) := by decide +kernel
theorem dX6_clearOutputs_21 : decode cX6_clearOutputs 21 = .ok (.ireturn, 1) := by decide +kernel
theorem dX6_many_0 : decode cX6_many 0 = .ok (.iconst 1, 1) := by decide +kernel
theorem dX6_many_1 : decode cX6_many 1 = .ok (.aload_n 0, 1) := by decide +kernel
theorem dX6_many_2 : decode cX6_many 2 = .ok (.getfield 7, 3) := by decide +kernel
theorem dX6_many_5 : decode cX6_many 5 = .ok (.iconst 0, 1) := by decide +kernel
theorem dX6_many_6 : decode cX6_many 6 = .ok (.iaload, 1) := by decide +kernel
theorem dX6_many_7 : decode cX6_many 7 = .ok (.ishl, 1) := by decide +kernel
theorem dX6_many_8 : decode cX6_many 8 = .ok (.ireturn, 1) := by decide +kernel
set_option maxRecDepth 20000 in
theorem ggX6_isWord_X6_many : GoodIn wsX6_isWord wsX6_many := goodIn_r _ [5, 6, 10, 11, 12, 13, 14, 15, 16, 17, 18, 19, 20] (by decide +kernel) (by decide +kernel)
set_option maxRecDepth 20000 in
theorem gX6_isWord_X6_many : GoodIn wsX6_isWord (wsV RX6 106 RX6 yX6_many wsX6_many) := goodIn_app (goodIn_of _ (by decide +kernel)) ggX6_isWord_X6_many
set_option maxRecDepth 20000 in
theorem ggX6_isWord_X6_in : GoodIn wsX6_isWord wsX6_in := goodIn_r _ [9] (by decide +kernel) (by decide +kernel)
set_option maxRecDepth 20000 in
theorem gX6_isWord_X6_in : GoodIn wsX6_isWord (va_wsS RX6 37 yX6_in wsX6_in) := goodIn_app (goodIn_of _ (by decide +kernel)) ggX6_isWord_X6_in
theorem dX6_isWord_0 : decode cX6_isWord 0 = .ok (.iload_n 1, 1) := by decide +kernel
theorem dX6_isWord_1 : decode cX6_isWord 1 = .ok (.i2l, 1) := by decide +kernel
theorem dX6_isWord_2 : decode cX6_isWord 2 = .ok (.lconst 0, 1) := by decide +kernel
theorem dX6_isWord_3 : decode cX6_isWord 3 = .ok (.aload_n 0, 1) := by decide +kernel
theorem dX6_isWord_4 : decode cX6_isWord 4 = .ok (.invokevirtual 106, 3) := by decide +kernel
theorem dX6_isWord_7 : decode cX6_isWord 7 = .ok (.iconst 1, 1) := by decide +kernel
theorem dX6_isWord_8 : decode cX6_isWord 8 = .ok (.isub, 1) := by decide +kernel
theorem dX6_isWord_9 : decode cX6_isWord 9 = .ok (.i2l, 1) := by decide +kernel
theorem dX6_isWord_10 : decode cX6_isWord 10 = .ok (.invokestatic 37, 3) := by decide +kernel
theorem dX6_isWord_13 : decode cX6_isWord 13 = .ok (.ireturn, 1) := by decide +kernel
set_option maxRecDepth 20000 in
theorem ggX6_setNormal_X6_isWord : GoodIn wsX6_setNormal wsX6_isWord := goodIn_r _ [6, 7, 8, 9, 5, 10, 1, 11, 12, 13, 20, 21, 22, 23, 24, 25, 26, 27, 28, 29, 30] (by decide +kernel) (by decide +kernel)
set_option maxRecDepth 20000 in
theorem gX6_setNormal_X6_isWord : GoodIn wsX6_setNormal (wsV RX6 109 RX6 yX6_isWord wsX6_isWord) := goodIn_app (goodIn_of _ (by decide +kernel)) ggX6_setNormal_X6_isWord
set_option maxRecDepth 20000 in
theorem ggX6_setNormal_X6_in : GoodIn wsX6_setNormal wsX6_in := goodIn_r _ [13] (by decide +kernel) (by decide +kernel)
set_option maxRecDepth 20000 in
theorem gX6_setNormal_X6_in : GoodIn wsX6_setNormal (va_wsS RX6 37 yX6_in wsX6_in) := goodIn_app (goodIn_of _ (by decide +kernel)) ggX6_setNormal_X6_in
set_option maxRecDepth 20000 in
theorem ggX6_setNormal_X6_keeps : GoodIn wsX6_setNormal wsX6_keeps := goodIn_r _ [17, 18, 19, 1, 20, 21, 22, 23, 24, 25, 26, 27, 28, 29, 30] (by decide +kernel) (by decide +kernel)
set_option maxRecDepth 20000 in
theorem gX6_setNormal_X6_keeps : GoodIn wsX6_setNormal (wsV RX6 103 RX6 yX6_keeps wsX6_keeps) := goodIn_app (goodIn_of _ (by decide +kernel)) ggX6_setNormal_X6_keeps
set_option maxRecDepth 20000 in
theorem ggX6_setNormal_X6_many : GoodIn wsX6_setNormal wsX6_many := goodIn_r _ [10, 1, 20, 21, 22, 23, 24, 25, 26, 27, 28, 29, 30] (by decide +kernel) (by decide +kernel)
set_option maxRecDepth 20000 in
theorem gX6_setNormal_X6_many : GoodIn wsX6_setNormal (wsV RX6 106 RX6 yX6_many wsX6_many) := goodIn_app (goodIn_of _ (by decide +kernel)) ggX6_setNormal_X6_many
theorem dX6_setNormal_0 : decode cX6_setNormal 0 = .ok (.aload_n 0, 1) := by decide +kernel
theorem dX6_setNormal_1 : decode cX6_setNormal 1 = .ok (.iload_n 1, 1) := by decide +kernel
theorem dX6_setNormal_2 : decode cX6_setNormal 2 = .ok (.invokevirtual 109, 3) := by decide +kernel
theorem dX6_setNormal_5 : decode cX6_setNormal 5 = .ok (.ifCond .eq 13, 3) := by decide +kernel
theorem dX6_setNormal_8 : decode cX6_setNormal 8 = .ok (.iload_n 2, 1) := by decide +kernel
theorem dX6_setNormal_9 : decode cX6_setNormal 9 = .ok (.i2l, 1) := by decide +kernel
theorem dX6_setNormal_10 : decode cX6_setNormal 10 = .ok (.lconst 0, 1) := by decide +kernel
theorem dX6_setNormal_11 : decode cX6_setNormal 11 = .ok (.lconst 1, 1) := by decide +kernel
theorem dX6_setNormal_12 : decode cX6_setNormal 12 = .ok (.invokestatic 37, 3) := by decide +kernel
theorem dX6_setNormal_15 : decode cX6_setNormal 15 = .ok (.ifCond .ne 6, 3) := by decide +kernel
theorem dX6_setNormal_18 : decode cX6_setNormal 18 = .ok (.bipush (-101), 2) := by decide +kernel
theorem dX6_setNormal_20 : decode cX6_setNormal 20 = .ok (.ireturn, 1) := by decide +kernel
theorem dX6_setNormal_21 : decode cX6_setNormal 21 = .ok (.aload_n 0, 1) := by decide +kernel
theorem dX6_setNormal_22 : decode cX6_setNormal 22 = .ok (.invokevirtual 103, 3) := by decide +kernel
theorem dX6_setNormal_25 : decode cX6_setNormal 25 = .ok (.aload_n 0, 1) := by decide +kernel
theorem dX6_setNormal_26 : decode cX6_setNormal 26 = .ok (.getfield 7, 3) := by decide +kernel
theorem dX6_setNormal_29 : decode cX6_setNormal 29 = .ok (.bipush 83, 2) := by decide +kernel
theorem dX6_setNormal_31 : decode cX6_setNormal 31 = .ok (.iload_n 1, 1) := by decide +kernel
theorem dX6_setNormal_32 : decode cX6_setNormal 32 = .ok (.iadd, 1) := by decide +kernel
theorem dX6_setNormal_33 : decode cX6_setNormal 33 = .ok (.iload_n 2, 1) := by decide +kernel
theorem dX6_setNormal_34 : decode cX6_setNormal 34 = .ok (.iastore, 1) := by decide +kernel
theorem dX6_setNormal_35 : decode cX6_setNormal 35 = .ok (.iconst 0, 1) := by decide +kernel
theorem dX6_setNormal_36 : decode cX6_setNormal 36 = .ok (.istore_n 3, 1) := by decide +kernel
theorem dX6_setNormal_37 : decode cX6_setNormal 37 = .ok (.iconst 0, 1) := by decide +kernel
theorem dX6_setNormal_38 : decode cX6_setNormal 38 = .ok (.istore 4, 2) := by decide +kernel
theorem dX6_setNormal_40 : decode cX6_setNormal 40 = .ok (.iload 4, 2) := by decide +kernel
theorem dX6_setNormal_42 : decode cX6_setNormal 42 = .ok (.aload_n 0, 1) := by decide +kernel
theorem dX6_setNormal_43 : decode cX6_setNormal 43 = .ok (.invokevirtual 106, 3) := by decide +kernel
theorem dX6_setNormal_46 : decode cX6_setNormal 46 = .ok (.if_icmp .ge 22, 3) := by decide +kernel
theorem dX6_setNormal_49 : decode cX6_setNormal 49 = .ok (.iload_n 3, 1) := by decide +kernel
theorem dX6_setNormal_50 : decode cX6_setNormal 50 = .ok (.aload_n 0, 1) := by decide +kernel
theorem dX6_setNormal_51 : decode cX6_setNormal 51 = .ok (.getfield 7, 3) := by decide +kernel
theorem dX6_setNormal_54 : decode cX6_setNormal 54 = .ok (.bipush 83, 2) := by decide +kernel
theorem dX6_setNormal_56 : decode cX6_setNormal 56 = .ok (.iload 4, 2) := by decide +kernel
theorem dX6_setNormal_58 : decode cX6_setNormal 58 = .ok (.iadd, 1) := by decide +kernel
theorem dX6_setNormal_59 : decode cX6_setNormal 59 = .ok (.iaload, 1) := by decide +kernel
theorem dX6_setNormal_60 : decode cX6_setNormal 60 = .ok (.iadd, 1) := by decide +kernel
theorem dX6_setNormal_61 : decode cX6_setNormal 61 = .ok (.istore_n 3, 1) := by decide +kernel
theorem dX6_setNormal_62 : decode cX6_setNormal 62 = .ok (.iinc 4 1, 3) := by decide +kernel
theorem dX6_setNormal_65 : decode cX6_setNormal 65 = .ok (.goto (-25), 3) := by decide +kernel
theorem dX6_setNormal_68 : decode cX6_setNormal 68 = .ok (.iload_n 3, 1) := by decide +kernel
theorem dX6_setNormal_69 : decode cX6_setNormal 69 = .ok (.ireturn, 1) := by decide +kernel
set_option maxRecDepth 20000 in
theorem ggX6_setCode_X6_in : GoodIn wsX6_setCode wsX6_in := goodIn_r _ [7] (by decide +kernel) (by decide +kernel)
set_option maxRecDepth 20000 in
theorem gX6_setCode_X6_in : GoodIn wsX6_setCode (va_wsS RX6 37 yX6_in wsX6_in) := goodIn_app (goodIn_of _ (by decide +kernel)) ggX6_setCode_X6_in
set_option maxRecDepth 20000 in
theorem ggX6_setCode_X6_keeps : GoodIn wsX6_setCode wsX6_keeps := goodIn_r _ [11, 12, 13, 3, 14, 15, 16, 17, 18, 19, 20, 21, 22, 23, 24] (by decide +kernel) (by decide +kernel)
set_option maxRecDepth 20000 in
theorem gX6_setCode_X6_keeps : GoodIn wsX6_setCode (wsV RX6 103 RX6 yX6_keeps wsX6_keeps) := goodIn_app (goodIn_of _ (by decide +kernel)) ggX6_setCode_X6_keeps
theorem dX6_setCode_0 : decode cX6_setCode 0 = .ok (.iload_n 1, 1) := by decide +kernel
theorem dX6_setCode_1 : decode cX6_setCode 1 = .ok (.i2l, 1) := by decide +kernel
theorem dX6_setCode_2 : decode cX6_setCode 2 = .ok (.lconst 0, 1) := by decide +kernel
theorem dX6_setCode_3 : decode cX6_setCode 3 = .ok (.ldc2_w 112, 3) := by decide +kernel
theorem dX6_setCode_6 : decode cX6_setCode 6 = .ok (.invokestatic 37, 3) := by decide +kernel
theorem dX6_setCode_9 : decode cX6_setCode 9 = .ok (.ifCond .eq 15, 3) := by decide +kernel
theorem dX6_setCode_12 : decode cX6_setCode 12 = .ok (.iload_n 2, 1) := by decide +kernel
theorem dX6_setCode_13 : decode cX6_setCode 13 = .ok (.i2l, 1) := by decide +kernel
theorem dX6_setCode_14 : decode cX6_setCode 14 = .ok (.lconst 0, 1) := by decide +kernel
theorem dX6_setCode_15 : decode cX6_setCode 15 = .ok (.ldc2_w 83, 3) := by decide +kernel
theorem dX6_setCode_18 : decode cX6_setCode 18 = .ok (.invokestatic 37, 3) := by decide +kernel
theorem dX6_setCode_21 : decode cX6_setCode 21 = .ok (.ifCond .ne 6, 3) := by decide +kernel
theorem dX6_setCode_24 : decode cX6_setCode 24 = .ok (.bipush (-101), 2) := by decide +kernel
theorem dX6_setCode_26 : decode cX6_setCode 26 = .ok (.ireturn, 1) := by decide +kernel
theorem dX6_setCode_27 : decode cX6_setCode 27 = .ok (.aload_n 0, 1) := by decide +kernel
theorem dX6_setCode_28 : decode cX6_setCode 28 = .ok (.invokevirtual 103, 3) := by decide +kernel
theorem dX6_setCode_31 : decode cX6_setCode 31 = .ok (.aload_n 0, 1) := by decide +kernel
theorem dX6_setCode_32 : decode cX6_setCode 32 = .ok (.getfield 7, 3) := by decide +kernel
theorem dX6_setCode_35 : decode cX6_setCode 35 = .ok (.bipush 81, 2) := by decide +kernel
theorem dX6_setCode_37 : decode cX6_setCode 37 = .ok (.iaload, 1) := by decide +kernel
theorem dX6_setCode_38 : decode cX6_setCode 38 = .ok (.istore_n 3, 1) := by decide +kernel
theorem dX6_setCode_39 : decode cX6_setCode 39 = .ok (.aload_n 0, 1) := by decide +kernel
theorem dX6_setCode_40 : decode cX6_setCode 40 = .ok (.getfield 7, 3) := by decide +kernel
theorem dX6_setCode_43 : decode cX6_setCode 43 = .ok (.bipush 81, 2) := by decide +kernel
theorem dX6_setCode_45 : decode cX6_setCode 45 = .ok (.iload_n 1, 1) := by decide +kernel
theorem dX6_setCode_46 : decode cX6_setCode 46 = .ok (.iastore, 1) := by decide +kernel
theorem dX6_setCode_47 : decode cX6_setCode 47 = .ok (.aload_n 0, 1) := by decide +kernel
theorem dX6_setCode_48 : decode cX6_setCode 48 = .ok (.getfield 7, 3) := by decide +kernel
theorem dX6_setCode_51 : decode cX6_setCode 51 = .ok (.bipush 82, 2) := by decide +kernel
theorem dX6_setCode_53 : decode cX6_setCode 53 = .ok (.iload_n 2, 1) := by decide +kernel
theorem dX6_setCode_54 : decode cX6_setCode 54 = .ok (.iastore, 1) := by decide +kernel
theorem dX6_setCode_55 : decode cX6_setCode 55 = .ok (.iload_n 3, 1) := by decide +kernel
theorem dX6_setCode_56 : decode cX6_setCode 56 = .ok (.ireturn, 1) := by decide +kernel
set_option maxRecDepth 20000 in
theorem ggX6_nodeCount_X6_nodesOf : GoodIn wsX6_nodeCount wsX6_nodesOf := goodIn_r _ [5] (by decide +kernel) (by decide +kernel)
set_option maxRecDepth 20000 in
theorem gX6_nodeCount_X6_nodesOf : GoodIn wsX6_nodeCount (va_wsS RX6 61 yX6_nodesOf wsX6_nodesOf) := goodIn_app (goodIn_of _ (by decide +kernel)) ggX6_nodeCount_X6_nodesOf
theorem dX6_nodeCount_0 : decode cX6_nodeCount 0 = .ok (.aload_n 0, 1) := by decide +kernel
theorem dX6_nodeCount_1 : decode cX6_nodeCount 1 = .ok (.getfield 7, 3) := by decide +kernel
theorem dX6_nodeCount_4 : decode cX6_nodeCount 4 = .ok (.invokestatic 61, 3) := by decide +kernel
theorem dX6_nodeCount_7 : decode cX6_nodeCount 7 = .ok (.ireturn, 1) := by decide +kernel
theorem dX6_typeAt_0 : decode cX6_typeAt 0 = .ok (.iload_n 1, 1) := by decide +kernel
theorem dX6_typeAt_1 : decode cX6_typeAt 1 = .ok (.aload_n 0, 1) := by decide +kernel
theorem dX6_typeAt_2 : decode cX6_typeAt 2 = .ok (.getfield 7, 3) := by decide +kernel
theorem dX6_typeAt_5 : decode cX6_typeAt 5 = .ok (.iconst 0, 1) := by decide +kernel
theorem dX6_typeAt_6 : decode cX6_typeAt 6 = .ok (.iaload, 1) := by decide +kernel
theorem dX6_typeAt_7 : decode cX6_typeAt 7 = .ok (.if_icmp .ge 8, 3) := by decide +kernel
theorem dX6_typeAt_10 : decode cX6_typeAt 10 = .ok (.bipush 6, 2) := by decide +kernel
theorem dX6_typeAt_12 : decode cX6_typeAt 12 = .ok (.goto 20, 3) := by decide +kernel
theorem dX6_typeAt_15 : decode cX6_typeAt 15 = .ok (.aload_n 0, 1) := by decide +kernel
theorem dX6_typeAt_16 : decode cX6_typeAt 16 = .ok (.getfield 7, 3) := by decide +kernel
theorem dX6_typeAt_19 : decode cX6_typeAt 19 = .ok (.iconst 2, 1) := by decide +kernel
theorem dX6_typeAt_20 : decode cX6_typeAt 20 = .ok (.iconst 3, 1) := by decide +kernel
theorem dX6_typeAt_21 : decode cX6_typeAt 21 = .ok (.iload_n 1, 1) := by decide +kernel
theorem dX6_typeAt_22 : decode cX6_typeAt 22 = .ok (.aload_n 0, 1) := by decide +kernel
theorem dX6_typeAt_23 : decode cX6_typeAt 23 = .ok (.getfield 7, 3) := by decide +kernel
theorem dX6_typeAt_26 : decode cX6_typeAt 26 = .ok (.iconst 0, 1) := by decide +kernel
theorem dX6_typeAt_27 : decode cX6_typeAt 27 = .ok (.iaload, 1) := by decide +kernel
theorem dX6_typeAt_28 : decode cX6_typeAt 28 = .ok (.isub, 1) := by decide +kernel
theorem dX6_typeAt_29 : decode cX6_typeAt 29 = .ok (.imul, 1) := by decide +kernel
theorem dX6_typeAt_30 : decode cX6_typeAt 30 = .ok (.iadd, 1) := by decide +kernel
theorem dX6_typeAt_31 : decode cX6_typeAt 31 = .ok (.iaload, 1) := by decide +kernel
theorem dX6_typeAt_32 : decode cX6_typeAt 32 = .ok (.ireturn, 1) := by decide +kernel
theorem dX6_operand_0 : decode cX6_operand 0 = .ok (.aload_n 0, 1) := by decide +kernel
theorem dX6_operand_1 : decode cX6_operand 1 = .ok (.getfield 7, 3) := by decide +kernel
theorem dX6_operand_4 : decode cX6_operand 4 = .ok (.iconst 2, 1) := by decide +kernel
theorem dX6_operand_5 : decode cX6_operand 5 = .ok (.iconst 3, 1) := by decide +kernel
theorem dX6_operand_6 : decode cX6_operand 6 = .ok (.iload_n 1, 1) := by decide +kernel
theorem dX6_operand_7 : decode cX6_operand 7 = .ok (.aload_n 0, 1) := by decide +kernel
theorem dX6_operand_8 : decode cX6_operand 8 = .ok (.getfield 7, 3) := by decide +kernel
theorem dX6_operand_11 : decode cX6_operand 11 = .ok (.iconst 0, 1) := by decide +kernel
theorem dX6_operand_12 : decode cX6_operand 12 = .ok (.iaload, 1) := by decide +kernel
theorem dX6_operand_13 : decode cX6_operand 13 = .ok (.isub, 1) := by decide +kernel
theorem dX6_operand_14 : decode cX6_operand 14 = .ok (.imul, 1) := by decide +kernel
theorem dX6_operand_15 : decode cX6_operand 15 = .ok (.iadd, 1) := by decide +kernel
theorem dX6_operand_16 : decode cX6_operand 16 = .ok (.iconst 1, 1) := by decide +kernel
theorem dX6_operand_17 : decode cX6_operand 17 = .ok (.iadd, 1) := by decide +kernel
theorem dX6_operand_18 : decode cX6_operand 18 = .ok (.iload_n 2, 1) := by decide +kernel
theorem dX6_operand_19 : decode cX6_operand 19 = .ok (.iadd, 1) := by decide +kernel
theorem dX6_operand_20 : decode cX6_operand 20 = .ok (.iaload, 1) := by decide +kernel
theorem dX6_operand_21 : decode cX6_operand 21 = .ok (.ireturn, 1) := by decide +kernel
set_option maxRecDepth 20000 in
theorem ggX6_typeOf_X6_isNode : GoodIn wsX6_typeOf wsX6_isNode := goodIn_r _ [5, 6, 7, 8, 4, 9, 10, 11, 12, 17, 18, 19, 20, 21, 22, 23, 24, 25, 26, 27] (by decide +kernel) (by decide +kernel)
set_option maxRecDepth 20000 in
theorem gX6_typeOf_X6_isNode : GoodIn wsX6_typeOf (wsV RX6 100 RX6 yX6_isNode wsX6_isNode) := goodIn_app (goodIn_of _ (by decide +kernel)) ggX6_typeOf_X6_isNode
set_option maxRecDepth 20000 in
theorem ggX6_typeOf_X6_typeAt : GoodIn wsX6_typeOf wsX6_typeAt := goodIn_r _ [16, 6, 17, 18, 19, 20, 21, 22, 23, 24, 25, 26, 27] (by decide +kernel) (by decide +kernel)
set_option maxRecDepth 20000 in
theorem gX6_typeOf_X6_typeAt : GoodIn wsX6_typeOf (wsV RX6 114 RX6 yX6_typeAt wsX6_typeAt) := goodIn_app (goodIn_of _ (by decide +kernel)) ggX6_typeOf_X6_typeAt
theorem dX6_typeOf_0 : decode cX6_typeOf 0 = .ok (.aload_n 0, 1) := by decide +kernel
theorem dX6_typeOf_1 : decode cX6_typeOf 1 = .ok (.iload_n 1, 1) := by decide +kernel
theorem dX6_typeOf_2 : decode cX6_typeOf 2 = .ok (.invokevirtual 100, 3) := by decide +kernel
theorem dX6_typeOf_5 : decode cX6_typeOf 5 = .ok (.ifCond .eq 11, 3) := by decide +kernel
theorem dX6_typeOf_8 : decode cX6_typeOf 8 = .ok (.aload_n 0, 1) := by decide +kernel
theorem dX6_typeOf_9 : decode cX6_typeOf 9 = .ok (.iload_n 1, 1) := by decide +kernel
theorem dX6_typeOf_10 : decode cX6_typeOf 10 = .ok (.invokevirtual 114, 3) := by decide +kernel
theorem dX6_typeOf_13 : decode cX6_typeOf 13 = .ok (.goto 5, 3) := by decide +kernel
theorem dX6_typeOf_16 : decode cX6_typeOf 16 = .ok (.bipush (-101), 2) := by decide +kernel
theorem dX6_typeOf_18 : decode cX6_typeOf 18 = .ok (.ireturn, 1) := by decide +kernel
set_option maxRecDepth 20000 in
theorem ggX6_operandOf_X6_isNode : GoodIn wsX6_operandOf wsX6_isNode := goodIn_r _ [5, 6, 7, 8, 4, 9, 10, 11, 12, 21, 22, 23, 24, 25, 26, 27, 28, 29, 30, 31] (by decide +kernel) (by decide +kernel)
set_option maxRecDepth 20000 in
theorem gX6_operandOf_X6_isNode : GoodIn wsX6_operandOf (wsV RX6 100 RX6 yX6_isNode wsX6_isNode) := goodIn_app (goodIn_of _ (by decide +kernel)) ggX6_operandOf_X6_isNode
set_option maxRecDepth 20000 in
theorem ggX6_operandOf_X6_in : GoodIn wsX6_operandOf wsX6_in := goodIn_r _ [12] (by decide +kernel) (by decide +kernel)
set_option maxRecDepth 20000 in
theorem gX6_operandOf_X6_in : GoodIn wsX6_operandOf (va_wsS RX6 37 yX6_in wsX6_in) := goodIn_app (goodIn_of _ (by decide +kernel)) ggX6_operandOf_X6_in
set_option maxRecDepth 20000 in
theorem ggX6_operandOf_X6_typeAt : GoodIn wsX6_operandOf wsX6_typeAt := goodIn_r _ [16, 6, 21, 22, 23, 24, 25, 26, 27, 28, 29, 30, 31] (by decide +kernel) (by decide +kernel)
set_option maxRecDepth 20000 in
theorem gX6_operandOf_X6_typeAt : GoodIn wsX6_operandOf (wsV RX6 114 RX6 yX6_typeAt wsX6_typeAt) := goodIn_app (goodIn_of _ (by decide +kernel)) ggX6_operandOf_X6_typeAt
set_option maxRecDepth 20000 in
theorem ggX6_operandOf_X6_operand : GoodIn wsX6_operandOf wsX6_operand := goodIn_r _ [20, 6, 21, 22, 23, 24, 25, 26, 27, 28, 29, 30, 31] (by decide +kernel) (by decide +kernel)
set_option maxRecDepth 20000 in
theorem gX6_operandOf_X6_operand : GoodIn wsX6_operandOf (wsV RX6 118 RX6 yX6_operand wsX6_operand) := goodIn_app (goodIn_of _ (by decide +kernel)) ggX6_operandOf_X6_operand
theorem dX6_operandOf_0 : decode cX6_operandOf 0 = .ok (.aload_n 0, 1) := by decide +kernel
theorem dX6_operandOf_1 : decode cX6_operandOf 1 = .ok (.iload_n 1, 1) := by decide +kernel
theorem dX6_operandOf_2 : decode cX6_operandOf 2 = .ok (.invokevirtual 100, 3) := by decide +kernel
theorem dX6_operandOf_5 : decode cX6_operandOf 5 = .ok (.ifCond .eq 13, 3) := by decide +kernel
theorem dX6_operandOf_8 : decode cX6_operandOf 8 = .ok (.iload_n 2, 1) := by decide +kernel
theorem dX6_operandOf_9 : decode cX6_operandOf 9 = .ok (.i2l, 1) := by decide +kernel
theorem dX6_operandOf_10 : decode cX6_operandOf 10 = .ok (.lconst 0, 1) := by decide +kernel
theorem dX6_operandOf_11 : decode cX6_operandOf 11 = .ok (.lconst 1, 1) := by decide +kernel
theorem dX6_operandOf_12 : decode cX6_operandOf 12 = .ok (.invokestatic 37, 3) := by decide +kernel
theorem dX6_operandOf_15 : decode cX6_operandOf 15 = .ok (.ifCond .ne 6, 3) := by decide +kernel
theorem dX6_operandOf_18 : decode cX6_operandOf 18 = .ok (.bipush (-101), 2) := by decide +kernel
theorem dX6_operandOf_20 : decode cX6_operandOf 20 = .ok (.ireturn, 1) := by decide +kernel
theorem dX6_operandOf_21 : decode cX6_operandOf 21 = .ok (.aload_n 0, 1) := by decide +kernel
theorem dX6_operandOf_22 : decode cX6_operandOf 22 = .ok (.iload_n 1, 1) := by decide +kernel
theorem dX6_operandOf_23 : decode cX6_operandOf 23 = .ok (.invokevirtual 114, 3) := by decide +kernel
theorem dX6_operandOf_26 : decode cX6_operandOf 26 = .ok (.bipush 6, 2) := by decide +kernel
theorem dX6_operandOf_28 : decode cX6_operandOf 28 = .ok (.if_icmp .eq 17, 3) := by decide +kernel
theorem dX6_operandOf_31 : decode cX6_operandOf 31 = .ok (.aload_n 0, 1) := by decide +kernel
theorem dX6_operandOf_32 : decode cX6_operandOf 32 = .ok (.iload_n 1, 1) := by decide +kernel
theorem dX6_operandOf_33 : decode cX6_operandOf 33 = .ok (.invokevirtual 114, 3) := by decide +kernel
theorem dX6_operandOf_36 : decode cX6_operandOf 36 = .ok (.iconst 5, 1) := by decide +kernel
theorem dX6_operandOf_37 : decode cX6_operandOf 37 = .ok (.if_icmp .ne 13, 3) := by decide +kernel
theorem dX6_operandOf_40 : decode cX6_operandOf 40 = .ok (.iload_n 2, 1) := by decide +kernel
theorem dX6_operandOf_41 : decode cX6_operandOf 41 = .ok (.iconst 1, 1) := by decide +kernel
theorem dX6_operandOf_42 : decode cX6_operandOf 42 = .ok (.if_icmp .ne 8, 3) := by decide +kernel
theorem dX6_operandOf_45 : decode cX6_operandOf 45 = .ok (.bipush (-104), 2) := by decide +kernel
theorem dX6_operandOf_47 : decode cX6_operandOf 47 = .ok (.goto 9, 3) := by decide +kernel
theorem dX6_operandOf_50 : decode cX6_operandOf 50 = .ok (.aload_n 0, 1) := by decide +kernel
theorem dX6_operandOf_51 : decode cX6_operandOf 51 = .ok (.iload_n 1, 1) := by decide +kernel
theorem dX6_operandOf_52 : decode cX6_operandOf 52 = .ok (.iload_n 2, 1) := by decide +kernel
theorem dX6_operandOf_53 : decode cX6_operandOf 53 = .ok (.invokevirtual 118, 3) := by decide +kernel
theorem dX6_operandOf_56 : decode cX6_operandOf 56 = .ok (.ireturn, 1) := by decide +kernel
set_option maxRecDepth 20000 in
theorem ggX6_outputNode_X6_in : GoodIn wsX6_outputNode wsX6_in := goodIn_r _ [5] (by decide +kernel) (by decide +kernel)
set_option maxRecDepth 20000 in
theorem gX6_outputNode_X6_in : GoodIn wsX6_outputNode (va_wsS RX6 37 yX6_in wsX6_in) := goodIn_app (goodIn_of _ (by decide +kernel)) ggX6_outputNode_X6_in
theorem dX6_outputNode_0 : decode cX6_outputNode 0 = .ok (.iload_n 1, 1) := by decide +kernel
theorem dX6_outputNode_1 : decode cX6_outputNode 1 = .ok (.i2l, 1) := by decide +kernel
theorem dX6_outputNode_2 : decode cX6_outputNode 2 = .ok (.lconst 0, 1) := by decide +kernel
theorem dX6_outputNode_3 : decode cX6_outputNode 3 = .ok (.aload_n 0, 1) := by decide +kernel
theorem dX6_outputNode_4 : decode cX6_outputNode 4 = .ok (.getfield 7, 3) := by decide +kernel
theorem dX6_outputNode_7 : decode cX6_outputNode 7 = .ok (.bipush 74, 2) := by decide +kernel
theorem dX6_outputNode_9 : decode cX6_outputNode 9 = .ok (.iaload, 1) := by decide +kernel
theorem dX6_outputNode_10 : decode cX6_outputNode 10 = .ok (.iconst 1, 1) := by decide +kernel
theorem dX6_outputNode_11 : decode cX6_outputNode 11 = .ok (.isub, 1) := by decide +kernel
theorem dX6_outputNode_12 : decode cX6_outputNode 12 = .ok (.i2l, 1) := by decide +kernel
theorem dX6_outputNode_13 : decode cX6_outputNode 13 = .ok (.invokestatic 37, 3) := by decide +kernel
theorem dX6_outputNode_16 : decode cX6_outputNode 16 = .ok (.ifCond .eq 15, 3) := by decide +kernel
theorem dX6_outputNode_19 : decode cX6_outputNode 19 = .ok (.aload_n 0, 1) := by decide +kernel
theorem dX6_outputNode_20 : decode cX6_outputNode 20 = .ok (.getfield 7, 3) := by decide +kernel
theorem dX6_outputNode_23 : decode cX6_outputNode 23 = .ok (.bipush 75, 2) := by decide +kernel
theorem dX6_outputNode_25 : decode cX6_outputNode 25 = .ok (.iload_n 1, 1) := by decide +kernel
theorem dX6_outputNode_26 : decode cX6_outputNode 26 = .ok (.iadd, 1) := by decide +kernel
theorem dX6_outputNode_27 : decode cX6_outputNode 27 = .ok (.iaload, 1) := by decide +kernel
theorem dX6_outputNode_28 : decode cX6_outputNode 28 = .ok (.goto 5, 3) := by decide +kernel
theorem dX6_outputNode_31 : decode cX6_outputNode 31 = .ok (.bipush (-101), 2) := by decide +kernel
theorem dX6_outputNode_33 : decode cX6_outputNode 33 = .ok (.ireturn, 1) := by decide +kernel
set_option maxRecDepth 20000 in
theorem ggX6_isNormal_X6_isWord : GoodIn wsX6_isNormal wsX6_isWord := goodIn_r _ [6, 7, 8, 9, 5, 10, 1, 11, 12, 13, 14, 15, 16, 17, 18, 19, 20, 21, 22, 23, 24] (by decide +kernel) (by decide +kernel)
set_option maxRecDepth 20000 in
theorem gX6_isNormal_X6_isWord : GoodIn wsX6_isNormal (wsV RX6 109 RX6 yX6_isWord wsX6_isWord) := goodIn_app (goodIn_of _ (by decide +kernel)) ggX6_isNormal_X6_isWord
theorem dX6_isNormal_0 : decode cX6_isNormal 0 = .ok (.aload_n 0, 1) := by decide +kernel
theorem dX6_isNormal_1 : decode cX6_isNormal 1 = .ok (.iload_n 1, 1) := by decide +kernel
theorem dX6_isNormal_2 : decode cX6_isNormal 2 = .ok (.invokevirtual 109, 3) := by decide +kernel
theorem dX6_isNormal_5 : decode cX6_isNormal 5 = .ok (.ifCond .eq 15, 3) := by decide +kernel
theorem dX6_isNormal_8 : decode cX6_isNormal 8 = .ok (.aload_n 0, 1) := by decide +kernel
theorem dX6_isNormal_9 : decode cX6_isNormal 9 = .ok (.getfield 7, 3) := by decide +kernel
theorem dX6_isNormal_12 : decode cX6_isNormal 12 = .ok (.bipush 83, 2) := by decide +kernel
theorem dX6_isNormal_14 : decode cX6_isNormal 14 = .ok (.iload_n 1, 1) := by decide +kernel
theorem dX6_isNormal_15 : decode cX6_isNormal 15 = .ok (.iadd, 1) := by decide +kernel
theorem dX6_isNormal_16 : decode cX6_isNormal 16 = .ok (.iaload, 1) := by decide +kernel
theorem dX6_isNormal_17 : decode cX6_isNormal 17 = .ok (.goto 5, 3) := by decide +kernel
theorem dX6_isNormal_20 : decode cX6_isNormal 20 = .ok (.bipush (-101), 2) := by decide +kernel
theorem dX6_isNormal_22 : decode cX6_isNormal 22 = .ok (.ireturn, 1) := by decide +kernel
set_option maxRecDepth 20000 in
theorem ggX6_made_X6_operand : GoodIn wsX6_made wsX6_operand := goodIn_r _ [6, 7, 12, 13, 14, 15, 16, 17, 18, 19, 20, 21, 22] (by decide +kernel) (by decide +kernel)
set_option maxRecDepth 20000 in
theorem gX6_made_X6_operand : GoodIn wsX6_made (wsV RX6 118 RX6 yX6_operand wsX6_operand) := goodIn_app (goodIn_of _ (by decide +kernel)) ggX6_made_X6_operand
set_option maxRecDepth 20000 in
theorem ggX6_made_X6_typeAt : GoodIn wsX6_made wsX6_typeAt := goodIn_r _ [11, 7, 12, 13, 14, 15, 16, 17, 18, 19, 20, 21, 22] (by decide +kernel) (by decide +kernel)
set_option maxRecDepth 20000 in
theorem gX6_made_X6_typeAt : GoodIn wsX6_made (wsV RX6 114 RX6 yX6_typeAt wsX6_typeAt) := goodIn_app (goodIn_of _ (by decide +kernel)) ggX6_made_X6_typeAt
theorem dX6_made_0 : decode cX6_made 0 = .ok (.aload_n 0, 1) := by decide +kernel
theorem dX6_made_1 : decode cX6_made 1 = .ok (.getfield 22, 3) := by decide +kernel
theorem dX6_made_4 : decode cX6_made 4 = .ok (.aload_n 0, 1) := by decide +kernel
theorem dX6_made_5 : decode cX6_made 5 = .ok (.iload_n 1, 1) := by decide +kernel
theorem dX6_made_6 : decode cX6_made 6 = .ok (.iconst 0, 1) := by decide +kernel
theorem dX6_made_7 : decode cX6_made 7 = .ok (.invokevirtual 118, 3) := by decide +kernel
theorem dX6_made_10 : decode cX6_made 10 = .ok (.iaload, 1) := by decide +kernel
theorem dX6_made_11 : decode cX6_made 11 = .ok (.istore_n 2, 1) := by decide +kernel
theorem dX6_made_12 : decode cX6_made 12 = .ok (.aload_n 0, 1) := by decide +kernel
theorem dX6_made_13 : decode cX6_made 13 = .ok (.iload_n 1, 1) := by decide +kernel
theorem dX6_made_14 : decode cX6_made 14 = .ok (.invokevirtual 114, 3) := by decide +kernel
theorem dX6_made_17 : decode cX6_made 17 = .ok (.iconst 5, 1) := by decide +kernel
theorem dX6_made_18 : decode cX6_made 18 = .ok (.if_icmp .ne 7, 3) := by decide +kernel
theorem dX6_made_21 : decode cX6_made 21 = .ok (.iconst 0, 1) := by decide +kernel
theorem dX6_made_22 : decode cX6_made 22 = .ok (.goto 14, 3) := by decide +kernel
theorem dX6_made_25 : decode cX6_made 25 = .ok (.aload_n 0, 1) := by decide +kernel
theorem dX6_made_26 : decode cX6_made 26 = .ok (.getfield 22, 3) := by decide +kernel
theorem dX6_made_29 : decode cX6_made 29 = .ok (.aload_n 0, 1) := by decide +kernel
theorem dX6_made_30 : decode cX6_made 30 = .ok (.iload_n 1, 1) := by decide +kernel
theorem dX6_made_31 : decode cX6_made 31 = .ok (.iconst 1, 1) := by decide +kernel
theorem dX6_made_32 : decode cX6_made 32 = .ok (.invokevirtual 118, 3) := by decide +kernel
theorem dX6_made_35 : decode cX6_made 35 = .ok (.iaload, 1) := by decide +kernel
theorem dX6_made_36 : decode cX6_made 36 = .ok (.istore_n 3, 1) := by decide +kernel
theorem dX6_made_37 : decode cX6_made 37 = .ok (.aload_n 0, 1) := by decide +kernel
theorem dX6_made_38 : decode cX6_made 38 = .ok (.iload_n 1, 1) := by decide +kernel
theorem dX6_made_39 : decode cX6_made 39 = .ok (.invokevirtual 114, 3) := by decide +kernel
theorem dX6_made_42 : decode cX6_made 42 = .ok (.tableswitch 58 0 4 #[34, 38, 42, 46, 52], 34) := by decide +kernel
theorem dX6_made_76 : decode cX6_made 76 = .ok (.iload_n 2, 1) := by decide +kernel
theorem dX6_made_77 : decode cX6_made 77 = .ok (.iload_n 3, 1) := by decide +kernel
theorem dX6_made_78 : decode cX6_made 78 = .ok (.iand, 1) := by decide +kernel
theorem dX6_made_79 : decode cX6_made 79 = .ok (.ireturn, 1) := by decide +kernel
theorem dX6_made_80 : decode cX6_made 80 = .ok (.iload_n 2, 1) := by decide +kernel
theorem dX6_made_81 : decode cX6_made 81 = .ok (.iload_n 3, 1) := by decide +kernel
theorem dX6_made_82 : decode cX6_made 82 = .ok (.ior, 1) := by decide +kernel
theorem dX6_made_83 : decode cX6_made 83 = .ok (.ireturn, 1) := by decide +kernel
theorem dX6_made_84 : decode cX6_made 84 = .ok (.iload_n 2, 1) := by decide +kernel
theorem dX6_made_85 : decode cX6_made 85 = .ok (.iload_n 3, 1) := by decide +kernel
theorem dX6_made_86 : decode cX6_made 86 = .ok (.ixor, 1) := by decide +kernel
theorem dX6_made_87 : decode cX6_made 87 = .ok (.ireturn, 1) := by decide +kernel
theorem dX6_made_88 : decode cX6_made 88 = .ok (.iconst 1, 1) := by decide +kernel
theorem dX6_made_89 : decode cX6_made 89 = .ok (.iload_n 2, 1) := by decide +kernel
theorem dX6_made_90 : decode cX6_made 90 = .ok (.iload_n 3, 1) := by decide +kernel
theorem dX6_made_91 : decode cX6_made 91 = .ok (.iand, 1) := by decide +kernel
theorem dX6_made_92 : decode cX6_made 92 = .ok (.isub, 1) := by decide +kernel
theorem dX6_made_93 : decode cX6_made 93 = .ok (.ireturn, 1) := by decide +kernel
theorem dX6_made_94 : decode cX6_made 94 = .ok (.iconst 1, 1) := by decide +kernel
theorem dX6_made_95 : decode cX6_made 95 = .ok (.iload_n 2, 1) := by decide +kernel
theorem dX6_made_96 : decode cX6_made 96 = .ok (.iload_n 3, 1) := by decide +kernel
theorem dX6_made_97 : decode cX6_made 97 = .ok (.ior, 1) := by decide +kernel
theorem dX6_made_98 : decode cX6_made 98 = .ok (.isub, 1) := by decide +kernel
theorem dX6_made_99 : decode cX6_made 99 = .ok (.ireturn, 1) := by decide +kernel
theorem dX6_made_100 : decode cX6_made 100 = .ok (.iconst 1, 1) := by decide +kernel
theorem dX6_made_101 : decode cX6_made 101 = .ok (.iload_n 2, 1) := by decide +kernel
theorem dX6_made_102 : decode cX6_made 102 = .ok (.isub, 1) := by decide +kernel
theorem dX6_made_103 : decode cX6_made 103 = .ok (.ireturn, 1) := by decide +kernel
set_option maxRecDepth 20000 in
theorem ggX6_told_X6_nodesOf : GoodIn wsX6_told wsX6_nodesOf := goodIn_r _ [6] (by decide +kernel) (by decide +kernel)
set_option maxRecDepth 20000 in
theorem gX6_told_X6_nodesOf : GoodIn wsX6_told (va_wsS RX6 61 yX6_nodesOf wsX6_nodesOf) := goodIn_app (goodIn_of _ (by decide +kernel)) ggX6_told_X6_nodesOf
set_option maxRecDepth 20000 in
theorem ggX6_told_X6_made : GoodIn wsX6_told wsX6_made := goodIn_r _ [10, 2, 11, 12, 13, 5, 14, 1, 15, 16, 17, 18, 19, 20, 21, 22, 23, 24, 25, 26, 27, 28, 29] (by decide +kernel) (by decide +kernel)
set_option maxRecDepth 20000 in
theorem gX6_told_X6_made : GoodIn wsX6_told (wsV RX6 122 RX6 yX6_made wsX6_made) := goodIn_app (goodIn_of _ (by decide +kernel)) ggX6_told_X6_made
theorem dX6_told_0 : decode cX6_told 0 = .ok (.iconst 0, 1) := by decide +kernel
theorem dX6_told_1 : decode cX6_told 1 = .ok (.istore_n 3, 1) := by decide +kernel
theorem dX6_told_2 : decode cX6_told 2 = .ok (.iload_n 3, 1) := by decide +kernel
theorem dX6_told_3 : decode cX6_told 3 = .ok (.aload_n 0, 1) := by decide +kernel
theorem dX6_told_4 : decode cX6_told 4 = .ok (.getfield 7, 3) := by decide +kernel
theorem dX6_told_7 : decode cX6_told 7 = .ok (.invokestatic 61, 3) := by decide +kernel
theorem dX6_told_10 : decode cX6_told 10 = .ok (.if_icmp .ge 55, 3) := by decide +kernel
theorem dX6_told_13 : decode cX6_told 13 = .ok (.aload_n 0, 1) := by decide +kernel
theorem dX6_told_14 : decode cX6_told 14 = .ok (.getfield 22, 3) := by decide +kernel
theorem dX6_told_17 : decode cX6_told 17 = .ok (.iload_n 3, 1) := by decide +kernel
theorem dX6_told_18 : decode cX6_told 18 = .ok (.iload_n 2, 1) := by decide +kernel
theorem dX6_told_19 : decode cX6_told 19 = .ok (.ifCond .lt 16, 3) := by decide +kernel
theorem dX6_told_22 : decode cX6_told 22 = .ok (.iload_n 2, 1) := by decide +kernel
theorem dX6_told_23 : decode cX6_told 23 = .ok (.iconst 2, 1) := by decide +kernel
theorem dX6_told_24 : decode cX6_told 24 = .ok (.idiv, 1) := by decide +kernel
theorem dX6_told_25 : decode cX6_told 25 = .ok (.iload_n 3, 1) := by decide +kernel
theorem dX6_told_26 : decode cX6_told 26 = .ok (.if_icmp .ne 9, 3) := by decide +kernel
theorem dX6_told_29 : decode cX6_told 29 = .ok (.iload_n 2, 1) := by decide +kernel
theorem dX6_told_30 : decode cX6_told 30 = .ok (.iconst 2, 1) := by decide +kernel
theorem dX6_told_31 : decode cX6_told 31 = .ok (.irem, 1) := by decide +kernel
theorem dX6_told_32 : decode cX6_told 32 = .ok (.goto 26, 3) := by decide +kernel
theorem dX6_told_35 : decode cX6_told 35 = .ok (.iload_n 3, 1) := by decide +kernel
theorem dX6_told_36 : decode cX6_told 36 = .ok (.aload_n 0, 1) := by decide +kernel
theorem dX6_told_37 : decode cX6_told 37 = .ok (.getfield 7, 3) := by decide +kernel
theorem dX6_told_40 : decode cX6_told 40 = .ok (.iconst 0, 1) := by decide +kernel
theorem dX6_told_41 : decode cX6_told 41 = .ok (.iaload, 1) := by decide +kernel
theorem dX6_told_42 : decode cX6_told 42 = .ok (.if_icmp .ge 11, 3) := by decide +kernel
theorem dX6_told_45 : decode cX6_told 45 = .ok (.iload_n 1, 1) := by decide +kernel
theorem dX6_told_46 : decode cX6_told 46 = .ok (.iload_n 3, 1) := by decide +kernel
theorem dX6_told_47 : decode cX6_told 47 = .ok (.ishr, 1) := by decide +kernel
theorem dX6_told_48 : decode cX6_told 48 = .ok (.iconst 1, 1) := by decide +kernel
theorem dX6_told_49 : decode cX6_told 49 = .ok (.iand, 1) := by decide +kernel
theorem dX6_told_50 : decode cX6_told 50 = .ok (.goto 8, 3) := by decide +kernel
theorem dX6_told_53 : decode cX6_told 53 = .ok (.aload_n 0, 1) := by decide +kernel
theorem dX6_told_54 : decode cX6_told 54 = .ok (.iload_n 3, 1) := by decide +kernel
theorem dX6_told_55 : decode cX6_told 55 = .ok (.invokevirtual 122, 3) := by decide +kernel
theorem dX6_told_58 : decode cX6_told 58 = .ok (.iastore, 1) := by decide +kernel
theorem dX6_told_59 : decode cX6_told 59 = .ok (.iinc 3 1, 3) := by decide +kernel
theorem dX6_told_62 : decode cX6_told 62 = .ok (.goto (-60), 3) := by decide +kernel
theorem dX6_told_65 : decode cX6_told 65 = .ok (.iconst 0, 1) := by decide +kernel
theorem dX6_told_66 : decode cX6_told 66 = .ok (.istore_n 3, 1) := by decide +kernel
theorem dX6_told_67 : decode cX6_told 67 = .ok (.iconst 0, 1) := by decide +kernel
theorem dX6_told_68 : decode cX6_told 68 = .ok (.istore 4, 2) := by decide +kernel
theorem dX6_told_70 : decode cX6_told 70 = .ok (.iload 4, 2) := by decide +kernel
theorem dX6_told_72 : decode cX6_told 72 = .ok (.aload_n 0, 1) := by decide +kernel
theorem dX6_told_73 : decode cX6_told 73 = .ok (.getfield 7, 3) := by decide +kernel
theorem dX6_told_76 : decode cX6_told 76 = .ok (.bipush 74, 2) := by decide +kernel
theorem dX6_told_78 : decode cX6_told 78 = .ok (.iaload, 1) := by decide +kernel
theorem dX6_told_79 : decode cX6_told 79 = .ok (.if_icmp .ge 30, 3) := by decide +kernel
theorem dX6_told_82 : decode cX6_told 82 = .ok (.iload_n 3, 1) := by decide +kernel
theorem dX6_told_83 : decode cX6_told 83 = .ok (.aload_n 0, 1) := by decide +kernel
theorem dX6_told_84 : decode cX6_told 84 = .ok (.getfield 22, 3) := by decide +kernel
theorem dX6_told_87 : decode cX6_told 87 = .ok (.aload_n 0, 1) := by decide +kernel
theorem dX6_told_88 : decode cX6_told 88 = .ok (.getfield 7, 3) := by decide +kernel
theorem dX6_told_91 : decode cX6_told 91 = .ok (.bipush 75, 2) := by decide +kernel
theorem dX6_told_93 : decode cX6_told 93 = .ok (.iload 4, 2) := by decide +kernel
theorem dX6_told_95 : decode cX6_told 95 = .ok (.iadd, 1) := by decide +kernel
theorem dX6_told_96 : decode cX6_told 96 = .ok (.iaload, 1) := by decide +kernel
theorem dX6_told_97 : decode cX6_told 97 = .ok (.iaload, 1) := by decide +kernel
theorem dX6_told_98 : decode cX6_told 98 = .ok (.iload 4, 2) := by decide +kernel
theorem dX6_told_100 : decode cX6_told 100 = .ok (.ishl, 1) := by decide +kernel
theorem dX6_told_101 : decode cX6_told 101 = .ok (.ior, 1) := by decide +kernel
theorem dX6_told_102 : decode cX6_told 102 = .ok (.istore_n 3, 1) := by decide +kernel
theorem dX6_told_103 : decode cX6_told 103 = .ok (.iinc 4 1, 3) := by decide +kernel
theorem dX6_told_106 : decode cX6_told 106 = .ok (.goto (-36), 3) := by decide +kernel
theorem dX6_told_109 : decode cX6_told 109 = .ok (.iload_n 3, 1) := by decide +kernel
theorem dX6_told_110 : decode cX6_told 110 = .ok (.ireturn, 1) := by decide +kernel
set_option maxRecDepth 20000 in
theorem ggX6_isFault_X6_nodesOf : GoodIn wsX6_isFault wsX6_nodesOf := goodIn_r _ [5] (by decide +kernel) (by decide +kernel)
set_option maxRecDepth 20000 in
theorem gX6_isFault_X6_nodesOf : GoodIn wsX6_isFault (va_wsS RX6 61 yX6_nodesOf wsX6_nodesOf) := goodIn_app (goodIn_of _ (by decide +kernel)) ggX6_isFault_X6_nodesOf
set_option maxRecDepth 20000 in
theorem ggX6_isFault_X6_in : GoodIn wsX6_isFault wsX6_in := goodIn_r _ [8] (by decide +kernel) (by decide +kernel)
set_option maxRecDepth 20000 in
theorem gX6_isFault_X6_in : GoodIn wsX6_isFault (va_wsS RX6 37 yX6_in wsX6_in) := goodIn_app (goodIn_of _ (by decide +kernel)) ggX6_isFault_X6_in
theorem dX6_isFault_0 : decode cX6_isFault 0 = .ok (.iload_n 1, 1) := by decide +kernel
theorem dX6_isFault_1 : decode cX6_isFault 1 = .ok (.i2l, 1) := by decide +kernel
theorem dX6_isFault_2 : decode cX6_isFault 2 = .ok (.lconst 0, 1) := by decide +kernel
theorem dX6_isFault_3 : decode cX6_isFault 3 = .ok (.iconst 2, 1) := by decide +kernel
theorem dX6_isFault_4 : decode cX6_isFault 4 = .ok (.aload_n 0, 1) := by decide +kernel
theorem dX6_isFault_5 : decode cX6_isFault 5 = .ok (.getfield 7, 3) := by decide +kernel
theorem dX6_isFault_8 : decode cX6_isFault 8 = .ok (.invokestatic 61, 3) := by decide +kernel
theorem dX6_isFault_11 : decode cX6_isFault 11 = .ok (.imul, 1) := by decide +kernel
theorem dX6_isFault_12 : decode cX6_isFault 12 = .ok (.iconst 1, 1) := by decide +kernel
theorem dX6_isFault_13 : decode cX6_isFault 13 = .ok (.isub, 1) := by decide +kernel
theorem dX6_isFault_14 : decode cX6_isFault 14 = .ok (.i2l, 1) := by decide +kernel
theorem dX6_isFault_15 : decode cX6_isFault 15 = .ok (.invokestatic 37, 3) := by decide +kernel
theorem dX6_isFault_18 : decode cX6_isFault 18 = .ok (.ireturn, 1) := by decide +kernel
set_option maxRecDepth 20000 in
theorem ggX6_outputWord_X6_isWord : GoodIn wsX6_outputWord wsX6_isWord := goodIn_r _ [5, 6, 7, 8, 4, 9, 10, 11, 12, 13, 38, 39, 40, 41, 42, 43, 44, 45, 46, 47, 48] (by decide +kernel) (by decide +kernel)
set_option maxRecDepth 20000 in
theorem gX6_outputWord_X6_isWord : GoodIn wsX6_outputWord (wsV RX6 109 RX6 yX6_isWord wsX6_isWord) := goodIn_app (goodIn_of _ (by decide +kernel)) ggX6_outputWord_X6_isWord
set_option maxRecDepth 20000 in
theorem ggX6_outputWord_X6_isFault : GoodIn wsX6_outputWord wsX6_isFault := goodIn_r _ [17, 10, 18, 19, 4, 20, 11, 12, 13, 38, 39, 40, 41, 42, 43, 44, 45, 46, 47, 48] (by decide +kernel) (by decide +kernel)
set_option maxRecDepth 20000 in
theorem gX6_outputWord_X6_isFault : GoodIn wsX6_outputWord (wsV RX6 125 RX6 yX6_isFault wsX6_isFault) := goodIn_app (goodIn_of _ (by decide +kernel)) ggX6_outputWord_X6_isFault
set_option maxRecDepth 20000 in
theorem ggX6_outputWord_X6_told : GoodIn wsX6_outputWord wsX6_told := goodIn_r _ [24, 10, 25, 18, 19, 4, 20, 26, 27, 28, 29, 30, 31, 32, 33, 34, 35, 36, 37, 38, 39, 40, 41, 42, 43, 44, 45, 46, 47, 48] (by decide +kernel) (by decide +kernel)
set_option maxRecDepth 20000 in
theorem gX6_outputWord_X6_told : GoodIn wsX6_outputWord (wsV RX6 128 RX6 yX6_told wsX6_told) := goodIn_app (goodIn_of _ (by decide +kernel)) ggX6_outputWord_X6_told
theorem dX6_outputWord_0 : decode cX6_outputWord 0 = .ok (.aload_n 0, 1) := by decide +kernel
theorem dX6_outputWord_1 : decode cX6_outputWord 1 = .ok (.iload_n 1, 1) := by decide +kernel
theorem dX6_outputWord_2 : decode cX6_outputWord 2 = .ok (.invokevirtual 109, 3) := by decide +kernel
theorem dX6_outputWord_5 : decode cX6_outputWord 5 = .ok (.ifCond .eq 25, 3) := by decide +kernel
theorem dX6_outputWord_8 : decode cX6_outputWord 8 = .ok (.iload_n 2, 1) := by decide +kernel
theorem dX6_outputWord_9 : decode cX6_outputWord 9 = .ok (.iconst (-1), 1) := by decide +kernel
theorem dX6_outputWord_10 : decode cX6_outputWord 10 = .ok (.if_icmp .eq 11, 3) := by decide +kernel
theorem dX6_outputWord_13 : decode cX6_outputWord 13 = .ok (.aload_n 0, 1) := by decide +kernel
theorem dX6_outputWord_14 : decode cX6_outputWord 14 = .ok (.iload_n 2, 1) := by decide +kernel
theorem dX6_outputWord_15 : decode cX6_outputWord 15 = .ok (.invokevirtual 125, 3) := by decide +kernel
theorem dX6_outputWord_18 : decode cX6_outputWord 18 = .ok (.ifCond .eq 12, 3) := by decide +kernel
theorem dX6_outputWord_21 : decode cX6_outputWord 21 = .ok (.aload_n 0, 1) := by decide +kernel
theorem dX6_outputWord_22 : decode cX6_outputWord 22 = .ok (.iload_n 1, 1) := by decide +kernel
theorem dX6_outputWord_23 : decode cX6_outputWord 23 = .ok (.iload_n 2, 1) := by decide +kernel
theorem dX6_outputWord_24 : decode cX6_outputWord 24 = .ok (.invokevirtual 128, 3) := by decide +kernel
theorem dX6_outputWord_27 : decode cX6_outputWord 27 = .ok (.goto 5, 3) := by decide +kernel
theorem dX6_outputWord_30 : decode cX6_outputWord 30 = .ok (.bipush (-101), 2) := by decide +kernel
theorem dX6_outputWord_32 : decode cX6_outputWord 32 = .ok (.ireturn, 1) := by decide +kernel
theorem dX6_ones_0 : decode cX6_ones 0 = .ok (.iconst 0, 1) := by decide +kernel
theorem dX6_ones_1 : decode cX6_ones 1 = .ok (.istore_n 1, 1) := by decide +kernel
theorem dX6_ones_2 : decode cX6_ones 2 = .ok (.iload_n 0, 1) := by decide +kernel
theorem dX6_ones_3 : decode cX6_ones 3 = .ok (.istore_n 2, 1) := by decide +kernel
theorem dX6_ones_4 : decode cX6_ones 4 = .ok (.iload_n 2, 1) := by decide +kernel
theorem dX6_ones_5 : decode cX6_ones 5 = .ok (.ifCond .eq 15, 3) := by decide +kernel
theorem dX6_ones_8 : decode cX6_ones 8 = .ok (.iinc 1 1, 3) := by decide +kernel
theorem dX6_ones_11 : decode cX6_ones 11 = .ok (.iload_n 2, 1) := by decide +kernel
theorem dX6_ones_12 : decode cX6_ones 12 = .ok (.iload_n 2, 1) := by decide +kernel
theorem dX6_ones_13 : decode cX6_ones 13 = .ok (.iconst 1, 1) := by decide +kernel
theorem dX6_ones_14 : decode cX6_ones 14 = .ok (.isub, 1) := by decide +kernel
theorem dX6_ones_15 : decode cX6_ones 15 = .ok (.iand, 1) := by decide +kernel
theorem dX6_ones_16 : decode cX6_ones 16 = .ok (.istore_n 2, 1) := by decide +kernel
theorem dX6_ones_17 : decode cX6_ones 17 = .ok (.goto (-13), 3) := by decide +kernel
theorem dX6_ones_20 : decode cX6_ones 20 = .ok (.iload_n 1, 1) := by decide +kernel
theorem dX6_ones_21 : decode cX6_ones 21 = .ok (.ireturn, 1) := by decide +kernel
set_option maxRecDepth 20000 in
theorem ggX6_isCoded_X6_ones : GoodIn wsX6_isCoded wsX6_ones := goodIn_r _ [5] (by decide +kernel) (by decide +kernel)
set_option maxRecDepth 20000 in
theorem gX6_isCoded_X6_ones : GoodIn wsX6_isCoded (va_wsS RX6 131 yX6_ones wsX6_ones) := goodIn_app (goodIn_of _ (by decide +kernel)) ggX6_isCoded_X6_ones
theorem dX6_isCoded_0 : decode cX6_isCoded 0 = .ok (.aload_n 0, 1) := by decide +kernel
theorem dX6_isCoded_1 : decode cX6_isCoded 1 = .ok (.getfield 7, 3) := by decide +kernel
theorem dX6_isCoded_4 : decode cX6_isCoded 4 = .ok (.bipush 74, 2) := by decide +kernel
theorem dX6_isCoded_6 : decode cX6_isCoded 6 = .ok (.iaload, 1) := by decide +kernel
theorem dX6_isCoded_7 : decode cX6_isCoded 7 = .ok (.istore_n 2, 1) := by decide +kernel
theorem dX6_isCoded_8 : decode cX6_isCoded 8 = .ok (.aload_n 0, 1) := by decide +kernel
theorem dX6_isCoded_9 : decode cX6_isCoded 9 = .ok (.getfield 7, 3) := by decide +kernel
theorem dX6_isCoded_12 : decode cX6_isCoded 12 = .ok (.bipush 82, 2) := by decide +kernel
theorem dX6_isCoded_14 : decode cX6_isCoded 14 = .ok (.iaload, 1) := by decide +kernel
theorem dX6_isCoded_15 : decode cX6_isCoded 15 = .ok (.istore_n 3, 1) := by decide +kernel
theorem dX6_isCoded_16 : decode cX6_isCoded 16 = .ok (.iconst 1, 1) := by decide +kernel
theorem dX6_isCoded_17 : decode cX6_isCoded 17 = .ok (.istore 4, 2) := by decide +kernel
theorem dX6_isCoded_19 : decode cX6_isCoded 19 = .ok (.aload_n 0, 1) := by decide +kernel
theorem dX6_isCoded_20 : decode cX6_isCoded 20 = .ok (.getfield 7, 3) := by decide +kernel
theorem dX6_isCoded_23 : decode cX6_isCoded 23 = .ok (.bipush 81, 2) := by decide +kernel
theorem dX6_isCoded_25 : decode cX6_isCoded 25 = .ok (.iaload, 1) := by decide +kernel
theorem dX6_isCoded_26 : decode cX6_isCoded 26 = .ok (.tableswitch 136 1 3 #[26, 93, 107], 26) := by decide +kernel
theorem dX6_isCoded_52 : decode cX6_isCoded 52 = .ok (.iconst 0, 1) := by decide +kernel
theorem dX6_isCoded_53 : decode cX6_isCoded 53 = .ok (.istore 5, 2) := by decide +kernel
theorem dX6_isCoded_55 : decode cX6_isCoded 55 = .ok (.iload 5, 2) := by decide +kernel
theorem dX6_isCoded_57 : decode cX6_isCoded 57 = .ok (.iload_n 2, 1) := by decide +kernel
theorem dX6_isCoded_58 : decode cX6_isCoded 58 = .ok (.iconst 2, 1) := by decide +kernel
theorem dX6_isCoded_59 : decode cX6_isCoded 59 = .ok (.idiv, 1) := by decide +kernel
theorem dX6_isCoded_60 : decode cX6_isCoded 60 = .ok (.if_icmp .ge 42, 3) := by decide +kernel
theorem dX6_isCoded_63 : decode cX6_isCoded 63 = .ok (.iload 4, 2) := by decide +kernel
theorem dX6_isCoded_65 : decode cX6_isCoded 65 = .ok (.ifCond .eq 28, 3) := by decide +kernel
theorem dX6_isCoded_68 : decode cX6_isCoded 68 = .ok (.iload_n 1, 1) := by decide +kernel
theorem dX6_isCoded_69 : decode cX6_isCoded 69 = .ok (.iconst 2, 1) := by decide +kernel
theorem dX6_isCoded_70 : decode cX6_isCoded 70 = .ok (.iload 5, 2) := by decide +kernel
theorem dX6_isCoded_72 : decode cX6_isCoded 72 = .ok (.imul, 1) := by decide +kernel
theorem dX6_isCoded_73 : decode cX6_isCoded 73 = .ok (.ishr, 1) := by decide +kernel
theorem dX6_isCoded_74 : decode cX6_isCoded 74 = .ok (.iconst 1, 1) := by decide +kernel
theorem dX6_isCoded_75 : decode cX6_isCoded 75 = .ok (.iand, 1) := by decide +kernel
theorem dX6_isCoded_76 : decode cX6_isCoded 76 = .ok (.iload_n 1, 1) := by decide +kernel
theorem dX6_isCoded_77 : decode cX6_isCoded 77 = .ok (.iconst 2, 1) := by decide +kernel
theorem dX6_isCoded_78 : decode cX6_isCoded 78 = .ok (.iload 5, 2) := by decide +kernel
theorem dX6_isCoded_80 : decode cX6_isCoded 80 = .ok (.imul, 1) := by decide +kernel
theorem dX6_isCoded_81 : decode cX6_isCoded 81 = .ok (.iconst 1, 1) := by decide +kernel
theorem dX6_isCoded_82 : decode cX6_isCoded 82 = .ok (.iadd, 1) := by decide +kernel
theorem dX6_isCoded_83 : decode cX6_isCoded 83 = .ok (.ishr, 1) := by decide +kernel
theorem dX6_isCoded_84 : decode cX6_isCoded 84 = .ok (.iconst 1, 1) := by decide +kernel
theorem dX6_isCoded_85 : decode cX6_isCoded 85 = .ok (.iand, 1) := by decide +kernel
theorem dX6_isCoded_86 : decode cX6_isCoded 86 = .ok (.if_icmp .eq 7, 3) := by decide +kernel
theorem dX6_isCoded_89 : decode cX6_isCoded 89 = .ok (.iconst 1, 1) := by decide +kernel
theorem dX6_isCoded_90 : decode cX6_isCoded 90 = .ok (.goto 4, 3) := by decide +kernel
theorem dX6_isCoded_93 : decode cX6_isCoded 93 = .ok (.iconst 0, 1) := by decide +kernel
theorem dX6_isCoded_94 : decode cX6_isCoded 94 = .ok (.istore 4, 2) := by decide +kernel
theorem dX6_isCoded_96 : decode cX6_isCoded 96 = .ok (.iinc 5 1, 3) := by decide +kernel
theorem dX6_isCoded_99 : decode cX6_isCoded 99 = .ok (.goto (-44), 3) := by decide +kernel
theorem dX6_isCoded_102 : decode cX6_isCoded 102 = .ok (.iload 4, 2) := by decide +kernel
theorem dX6_isCoded_104 : decode cX6_isCoded 104 = .ok (.ifCond .eq 13, 3) := by decide +kernel
theorem dX6_isCoded_107 : decode cX6_isCoded 107 = .ok (.iload_n 2, 1) := by decide +kernel
theorem dX6_isCoded_108 : decode cX6_isCoded 108 = .ok (.iconst 2, 1) := by decide +kernel
theorem dX6_isCoded_109 : decode cX6_isCoded 109 = .ok (.irem, 1) := by decide +kernel
theorem dX6_isCoded_110 : decode cX6_isCoded 110 = .ok (.ifCond .ne 7, 3) := by decide +kernel
theorem dX6_isCoded_113 : decode cX6_isCoded 113 = .ok (.iconst 1, 1) := by decide +kernel
theorem dX6_isCoded_114 : decode cX6_isCoded 114 = .ok (.goto 4, 3) := by decide +kernel
theorem dX6_isCoded_117 : decode cX6_isCoded 117 = .ok (.iconst 0, 1) := by decide +kernel
theorem dX6_isCoded_118 : decode cX6_isCoded 118 = .ok (.ireturn, 1) := by decide +kernel
theorem dX6_isCoded_119 : decode cX6_isCoded 119 = .ok (.iload_n 1, 1) := by decide +kernel
theorem dX6_isCoded_120 : decode cX6_isCoded 120 = .ok (.invokestatic 131, 3) := by decide +kernel
theorem dX6_isCoded_123 : decode cX6_isCoded 123 = .ok (.iload_n 3, 1) := by decide +kernel
theorem dX6_isCoded_124 : decode cX6_isCoded 124 = .ok (.if_icmp .ne 7, 3) := by decide +kernel
theorem dX6_isCoded_127 : decode cX6_isCoded 127 = .ok (.iconst 1, 1) := by decide +kernel
theorem dX6_isCoded_128 : decode cX6_isCoded 128 = .ok (.goto 4, 3) := by decide +kernel
theorem dX6_isCoded_131 : decode cX6_isCoded 131 = .ok (.iconst 0, 1) := by decide +kernel
theorem dX6_isCoded_132 : decode cX6_isCoded 132 = .ok (.ireturn, 1) := by decide +kernel
theorem dX6_isCoded_133 : decode cX6_isCoded 133 = .ok (.iload_n 3, 1) := by decide +kernel
theorem dX6_isCoded_134 : decode cX6_isCoded 134 = .ok (.iload_n 2, 1) := by decide +kernel
theorem dX6_isCoded_135 : decode cX6_isCoded 135 = .ok (.if_icmp .gt 25, 3) := by decide +kernel
theorem dX6_isCoded_138 : decode cX6_isCoded 138 = .ok (.iload_n 1, 1) := by decide +kernel
theorem dX6_isCoded_139 : decode cX6_isCoded 139 = .ok (.iload_n 3, 1) := by decide +kernel
theorem dX6_isCoded_140 : decode cX6_isCoded 140 = .ok (.ishr, 1) := by decide +kernel
theorem dX6_isCoded_141 : decode cX6_isCoded 141 = .ok (.iload_n 3, 1) := by decide +kernel
theorem dX6_isCoded_142 : decode cX6_isCoded 142 = .ok (.iload_n 1, 1) := by decide +kernel
theorem dX6_isCoded_143 : decode cX6_isCoded 143 = .ok (.iconst 1, 1) := by decide +kernel
theorem dX6_isCoded_144 : decode cX6_isCoded 144 = .ok (.iload_n 3, 1) := by decide +kernel
theorem dX6_isCoded_145 : decode cX6_isCoded 145 = .ok (.ishl, 1) := by decide +kernel
theorem dX6_isCoded_146 : decode cX6_isCoded 146 = .ok (.iconst 1, 1) := by decide +kernel
theorem dX6_isCoded_147 : decode cX6_isCoded 147 = .ok (.isub, 1) := by decide +kernel
theorem dX6_isCoded_148 : decode cX6_isCoded 148 = .ok (.iand, 1) := by decide +kernel
theorem dX6_isCoded_149 : decode cX6_isCoded 149 = .ok (.invokestatic 131, 3) := by decide +kernel
theorem dX6_isCoded_152 : decode cX6_isCoded 152 = .ok (.isub, 1) := by decide +kernel
theorem dX6_isCoded_153 : decode cX6_isCoded 153 = .ok (.if_icmp .ne 7, 3) := by decide +kernel
theorem dX6_isCoded_156 : decode cX6_isCoded 156 = .ok (.iconst 1, 1) := by decide +kernel
theorem dX6_isCoded_157 : decode cX6_isCoded 157 = .ok (.goto 4, 3) := by decide +kernel
theorem dX6_isCoded_160 : decode cX6_isCoded 160 = .ok (.iconst 0, 1) := by decide +kernel
theorem dX6_isCoded_161 : decode cX6_isCoded 161 = .ok (.ireturn, 1) := by decide +kernel
theorem dX6_isCoded_162 : decode cX6_isCoded 162 = .ok (.iconst 1, 1) := by decide +kernel
theorem dX6_isCoded_163 : decode cX6_isCoded 163 = .ok (.ireturn, 1) := by decide +kernel
set_option maxRecDepth 20000 in
theorem ggX6_isCodeWord_X6_in : GoodIn wsX6_isCodeWord wsX6_in := goodIn_r _ [5] (by decide +kernel) (by decide +kernel)
set_option maxRecDepth 20000 in
theorem gX6_isCodeWord_X6_in : GoodIn wsX6_isCodeWord (va_wsS RX6 37 yX6_in wsX6_in) := goodIn_app (goodIn_of _ (by decide +kernel)) ggX6_isCodeWord_X6_in
set_option maxRecDepth 20000 in
theorem ggX6_isCodeWord_X6_isCoded : GoodIn wsX6_isCodeWord wsX6_isCoded := goodIn_r _ [9, 1, 10, 11, 4, 12, 13, 14, 15, 16, 17, 18, 19, 20, 21, 22, 23] (by decide +kernel) (by decide +kernel)
set_option maxRecDepth 20000 in
theorem gX6_isCodeWord_X6_isCoded : GoodIn wsX6_isCodeWord (wsV RX6 134 RX6 yX6_isCoded wsX6_isCoded) := goodIn_app (goodIn_of _ (by decide +kernel)) ggX6_isCodeWord_X6_isCoded
theorem dX6_isCodeWord_0 : decode cX6_isCodeWord 0 = .ok (.iload_n 1, 1) := by decide +kernel
theorem dX6_isCodeWord_1 : decode cX6_isCodeWord 1 = .ok (.i2l, 1) := by decide +kernel
theorem dX6_isCodeWord_2 : decode cX6_isCodeWord 2 = .ok (.lconst 0, 1) := by decide +kernel
theorem dX6_isCodeWord_3 : decode cX6_isCodeWord 3 = .ok (.iconst 1, 1) := by decide +kernel
theorem dX6_isCodeWord_4 : decode cX6_isCodeWord 4 = .ok (.aload_n 0, 1) := by decide +kernel
theorem dX6_isCodeWord_5 : decode cX6_isCodeWord 5 = .ok (.getfield 7, 3) := by decide +kernel
theorem dX6_isCodeWord_8 : decode cX6_isCodeWord 8 = .ok (.bipush 74, 2) := by decide +kernel
theorem dX6_isCodeWord_10 : decode cX6_isCodeWord 10 = .ok (.iaload, 1) := by decide +kernel
theorem dX6_isCodeWord_11 : decode cX6_isCodeWord 11 = .ok (.ishl, 1) := by decide +kernel
theorem dX6_isCodeWord_12 : decode cX6_isCodeWord 12 = .ok (.iconst 1, 1) := by decide +kernel
theorem dX6_isCodeWord_13 : decode cX6_isCodeWord 13 = .ok (.isub, 1) := by decide +kernel
theorem dX6_isCodeWord_14 : decode cX6_isCodeWord 14 = .ok (.i2l, 1) := by decide +kernel
theorem dX6_isCodeWord_15 : decode cX6_isCodeWord 15 = .ok (.invokestatic 37, 3) := by decide +kernel
theorem dX6_isCodeWord_18 : decode cX6_isCodeWord 18 = .ok (.ifCond .ne 6, 3) := by decide +kernel
theorem dX6_isCodeWord_21 : decode cX6_isCodeWord 21 = .ok (.bipush (-101), 2) := by decide +kernel
theorem dX6_isCodeWord_23 : decode cX6_isCodeWord 23 = .ok (.ireturn, 1) := by decide +kernel
theorem dX6_isCodeWord_24 : decode cX6_isCodeWord 24 = .ok (.aload_n 0, 1) := by decide +kernel
theorem dX6_isCodeWord_25 : decode cX6_isCodeWord 25 = .ok (.iload_n 1, 1) := by decide +kernel
theorem dX6_isCodeWord_26 : decode cX6_isCodeWord 26 = .ok (.invokevirtual 134, 3) := by decide +kernel
theorem dX6_isCodeWord_29 : decode cX6_isCodeWord 29 = .ok (.ifCond .eq 7, 3) := by decide +kernel
theorem dX6_isCodeWord_32 : decode cX6_isCodeWord 32 = .ok (.iconst 1, 1) := by decide +kernel
theorem dX6_isCodeWord_33 : decode cX6_isCodeWord 33 = .ok (.goto 4, 3) := by decide +kernel
theorem dX6_isCodeWord_36 : decode cX6_isCodeWord 36 = .ok (.iconst 0, 1) := by decide +kernel
theorem dX6_isCodeWord_37 : decode cX6_isCodeWord 37 = .ok (.ireturn, 1) := by decide +kernel
set_option maxRecDepth 20000 in
theorem ggX6_errorKind_X6_isWord : GoodIn wsX6_errorKind wsX6_isWord := goodIn_r _ [5, 6, 7, 8, 4, 9, 10, 11, 12, 13, 38, 39, 40, 41, 42, 43, 44, 45, 46, 47, 48] (by decide +kernel) (by decide +kernel)
set_option maxRecDepth 20000 in
theorem gX6_errorKind_X6_isWord : GoodIn wsX6_errorKind (wsV RX6 109 RX6 yX6_isWord wsX6_isWord) := goodIn_app (goodIn_of _ (by decide +kernel)) ggX6_errorKind_X6_isWord
set_option maxRecDepth 20000 in
theorem ggX6_errorKind_X6_isFault : GoodIn wsX6_errorKind wsX6_isFault := goodIn_r _ [17, 10, 18, 19, 4, 20, 11, 12, 13, 38, 39, 40, 41, 42, 43, 44, 45, 46, 47, 48] (by decide +kernel) (by decide +kernel)
set_option maxRecDepth 20000 in
theorem gX6_errorKind_X6_isFault : GoodIn wsX6_errorKind (wsV RX6 125 RX6 yX6_isFault wsX6_isFault) := goodIn_app (goodIn_of _ (by decide +kernel)) ggX6_errorKind_X6_isFault
set_option maxRecDepth 20000 in
theorem ggX6_errorKind_X6_told : GoodIn wsX6_errorKind wsX6_told := goodIn_r _ [24, 10, 25, 18, 19, 4, 20, 26, 27, 28, 29, 30, 31, 32, 33, 34, 35, 36, 37, 38, 39, 40, 41, 42, 43, 44, 45, 46, 47, 48] (by decide +kernel) (by decide +kernel)
set_option maxRecDepth 20000 in
theorem gX6_errorKind_X6_told : GoodIn wsX6_errorKind (wsV RX6 128 RX6 yX6_told wsX6_told) := goodIn_app (goodIn_of _ (by decide +kernel)) ggX6_errorKind_X6_told
theorem dX6_errorKind_0 : decode cX6_errorKind 0 = .ok (.aload_n 0, 1) := by decide +kernel
theorem dX6_errorKind_1 : decode cX6_errorKind 1 = .ok (.iload_n 1, 1) := by decide +kernel
theorem dX6_errorKind_2 : decode cX6_errorKind 2 = .ok (.invokevirtual 109, 3) := by decide +kernel
theorem dX6_errorKind_5 : decode cX6_errorKind 5 = .ok (.ifCond .eq 11, 3) := by decide +kernel
theorem dX6_errorKind_8 : decode cX6_errorKind 8 = .ok (.aload_n 0, 1) := by decide +kernel
theorem dX6_errorKind_9 : decode cX6_errorKind 9 = .ok (.iload_n 2, 1) := by decide +kernel
theorem dX6_errorKind_10 : decode cX6_errorKind 10 = .ok (.invokevirtual 125, 3) := by decide +kernel
theorem dX6_errorKind_13 : decode cX6_errorKind 13 = .ok (.ifCond .ne 6, 3) := by decide +kernel
theorem dX6_errorKind_16 : decode cX6_errorKind 16 = .ok (.bipush (-101), 2) := by decide +kernel
theorem dX6_errorKind_18 : decode cX6_errorKind 18 = .ok (.ireturn, 1) := by decide +kernel
theorem dX6_errorKind_19 : decode cX6_errorKind 19 = .ok (.aload_n 0, 1) := by decide +kernel
theorem dX6_errorKind_20 : decode cX6_errorKind 20 = .ok (.iload_n 1, 1) := by decide +kernel
theorem dX6_errorKind_21 : decode cX6_errorKind 21 = .ok (.iconst (-1), 1) := by decide +kernel
theorem dX6_errorKind_22 : decode cX6_errorKind 22 = .ok (.invokevirtual 128, 3) := by decide +kernel
theorem dX6_errorKind_25 : decode cX6_errorKind 25 = .ok (.istore_n 3, 1) := by decide +kernel
theorem dX6_errorKind_26 : decode cX6_errorKind 26 = .ok (.aload_n 0, 1) := by decide +kernel
theorem dX6_errorKind_27 : decode cX6_errorKind 27 = .ok (.iload_n 1, 1) := by decide +kernel
theorem dX6_errorKind_28 : decode cX6_errorKind 28 = .ok (.iload_n 2, 1) := by decide +kernel
theorem dX6_errorKind_29 : decode cX6_errorKind 29 = .ok (.invokevirtual 128, 3) := by decide +kernel
theorem dX6_errorKind_32 : decode cX6_errorKind 32 = .ok (.istore 4, 2) := by decide +kernel
theorem dX6_errorKind_34 : decode cX6_errorKind 34 = .ok (.iload 4, 2) := by decide +kernel
theorem dX6_errorKind_36 : decode cX6_errorKind 36 = .ok (.iload_n 3, 1) := by decide +kernel
theorem dX6_errorKind_37 : decode cX6_errorKind 37 = .ok (.iconst (-1), 1) := by decide +kernel
theorem dX6_errorKind_38 : decode cX6_errorKind 38 = .ok (.ixor, 1) := by decide +kernel
theorem dX6_errorKind_39 : decode cX6_errorKind 39 = .ok (.iand, 1) := by decide +kernel
theorem dX6_errorKind_40 : decode cX6_errorKind 40 = .ok (.ifCond .eq 7, 3) := by decide +kernel
theorem dX6_errorKind_43 : decode cX6_errorKind 43 = .ok (.iconst 1, 1) := by decide +kernel
theorem dX6_errorKind_44 : decode cX6_errorKind 44 = .ok (.goto 4, 3) := by decide +kernel
theorem dX6_errorKind_47 : decode cX6_errorKind 47 = .ok (.iconst 0, 1) := by decide +kernel
theorem dX6_errorKind_48 : decode cX6_errorKind 48 = .ok (.iload_n 3, 1) := by decide +kernel
theorem dX6_errorKind_49 : decode cX6_errorKind 49 = .ok (.iload 4, 2) := by decide +kernel
theorem dX6_errorKind_51 : decode cX6_errorKind 51 = .ok (.iconst (-1), 1) := by decide +kernel
theorem dX6_errorKind_52 : decode cX6_errorKind 52 = .ok (.ixor, 1) := by decide +kernel
theorem dX6_errorKind_53 : decode cX6_errorKind 53 = .ok (.iand, 1) := by decide +kernel
theorem dX6_errorKind_54 : decode cX6_errorKind 54 = .ok (.ifCond .eq 7, 3) := by decide +kernel
theorem dX6_errorKind_57 : decode cX6_errorKind 57 = .ok (.iconst 2, 1) := by decide +kernel
theorem dX6_errorKind_58 : decode cX6_errorKind 58 = .ok (.goto 4, 3) := by decide +kernel
theorem dX6_errorKind_61 : decode cX6_errorKind 61 = .ok (.iconst 0, 1) := by decide +kernel
theorem dX6_errorKind_62 : decode cX6_errorKind 62 = .ok (.iadd, 1) := by decide +kernel
theorem dX6_errorKind_63 : decode cX6_errorKind 63 = .ok (.ireturn, 1) := by decide +kernel
set_option maxRecDepth 20000 in
theorem ggX6_exposes_X6_told : GoodIn wsX6_exposes wsX6_told := goodIn_r _ [6, 1, 7, 8, 9, 5, 10, 11, 12, 13, 14, 15, 16, 17, 18, 19, 20, 21, 22, 30, 31, 32, 33, 34, 35, 36, 37, 38, 39, 40] (by decide +kernel) (by decide +kernel)
set_option maxRecDepth 20000 in
theorem gX6_exposes_X6_told : GoodIn wsX6_exposes (wsV RX6 128 RX6 yX6_told wsX6_told) := goodIn_app (goodIn_of _ (by decide +kernel)) ggX6_exposes_X6_told
set_option maxRecDepth 20000 in
theorem ggX6_exposes_X6_isCoded : GoodIn wsX6_exposes wsX6_isCoded := goodIn_r _ [26, 1, 27, 28, 5, 29, 30, 31, 32, 33, 34, 35, 36, 37, 38, 39, 40] (by decide +kernel) (by decide +kernel)
set_option maxRecDepth 20000 in
theorem gX6_exposes_X6_isCoded : GoodIn wsX6_exposes (wsV RX6 134 RX6 yX6_isCoded wsX6_isCoded) := goodIn_app (goodIn_of _ (by decide +kernel)) ggX6_exposes_X6_isCoded
theorem dX6_exposes_0 : decode cX6_exposes 0 = .ok (.aload_n 0, 1) := by decide +kernel
theorem dX6_exposes_1 : decode cX6_exposes 1 = .ok (.getfield 7, 3) := by decide +kernel
theorem dX6_exposes_4 : decode cX6_exposes 4 = .ok (.bipush 83, 2) := by decide +kernel
theorem dX6_exposes_6 : decode cX6_exposes 6 = .ok (.iload_n 1, 1) := by decide +kernel
theorem dX6_exposes_7 : decode cX6_exposes 7 = .ok (.iadd, 1) := by decide +kernel
theorem dX6_exposes_8 : decode cX6_exposes 8 = .ok (.iaload, 1) := by decide +kernel
theorem dX6_exposes_9 : decode cX6_exposes 9 = .ok (.iconst 1, 1) := by decide +kernel
theorem dX6_exposes_10 : decode cX6_exposes 10 = .ok (.if_icmp .ne 20, 3) := by decide +kernel
theorem dX6_exposes_13 : decode cX6_exposes 13 = .ok (.aload_n 0, 1) := by decide +kernel
theorem dX6_exposes_14 : decode cX6_exposes 14 = .ok (.aload_n 0, 1) := by decide +kernel
theorem dX6_exposes_15 : decode cX6_exposes 15 = .ok (.iload_n 1, 1) := by decide +kernel
theorem dX6_exposes_16 : decode cX6_exposes 16 = .ok (.iload_n 2, 1) := by decide +kernel
theorem dX6_exposes_17 : decode cX6_exposes 17 = .ok (.invokevirtual 128, 3) := by decide +kernel
theorem dX6_exposes_20 : decode cX6_exposes 20 = .ok (.invokevirtual 134, 3) := by decide +kernel
theorem dX6_exposes_23 : decode cX6_exposes 23 = .ok (.ifCond .ne 7, 3) := by decide +kernel
theorem dX6_exposes_26 : decode cX6_exposes 26 = .ok (.iconst 1, 1) := by decide +kernel
theorem dX6_exposes_27 : decode cX6_exposes 27 = .ok (.goto 4, 3) := by decide +kernel
theorem dX6_exposes_30 : decode cX6_exposes 30 = .ok (.iconst 0, 1) := by decide +kernel
theorem dX6_exposes_31 : decode cX6_exposes 31 = .ok (.ireturn, 1) := by decide +kernel
set_option maxRecDepth 20000 in
theorem ggX6_isUnsafe_X6_told : GoodIn wsX6_isUnsafe wsX6_told := goodIn_r _ [6, 1, 7, 8, 9, 5, 10, 11, 12, 13, 14, 15, 16, 17, 18, 19, 20, 21, 22, 30, 31, 32, 33, 34, 35, 36, 37, 38, 39, 40] (by decide +kernel) (by decide +kernel)
set_option maxRecDepth 20000 in
theorem gX6_isUnsafe_X6_told : GoodIn wsX6_isUnsafe (wsV RX6 128 RX6 yX6_told wsX6_told) := goodIn_app (goodIn_of _ (by decide +kernel)) ggX6_isUnsafe_X6_told
set_option maxRecDepth 20000 in
theorem ggX6_isUnsafe_X6_isCoded : GoodIn wsX6_isUnsafe wsX6_isCoded := goodIn_r _ [26, 1, 27, 28, 5, 29, 30, 31, 32, 33, 34, 35, 36, 37, 38, 39, 40] (by decide +kernel) (by decide +kernel)
set_option maxRecDepth 20000 in
theorem gX6_isUnsafe_X6_isCoded : GoodIn wsX6_isUnsafe (wsV RX6 134 RX6 yX6_isCoded wsX6_isCoded) := goodIn_app (goodIn_of _ (by decide +kernel)) ggX6_isUnsafe_X6_isCoded
theorem dX6_isUnsafe_0 : decode cX6_isUnsafe 0 = .ok (.aload_n 0, 1) := by decide +kernel
theorem dX6_isUnsafe_1 : decode cX6_isUnsafe 1 = .ok (.getfield 7, 3) := by decide +kernel
theorem dX6_isUnsafe_4 : decode cX6_isUnsafe 4 = .ok (.bipush 83, 2) := by decide +kernel
theorem dX6_isUnsafe_6 : decode cX6_isUnsafe 6 = .ok (.iload_n 1, 1) := by decide +kernel
theorem dX6_isUnsafe_7 : decode cX6_isUnsafe 7 = .ok (.iadd, 1) := by decide +kernel
theorem dX6_isUnsafe_8 : decode cX6_isUnsafe 8 = .ok (.iaload, 1) := by decide +kernel
theorem dX6_isUnsafe_9 : decode cX6_isUnsafe 9 = .ok (.ifCond .ne 5, 3) := by decide +kernel
theorem dX6_isUnsafe_12 : decode cX6_isUnsafe 12 = .ok (.iconst 0, 1) := by decide +kernel
theorem dX6_isUnsafe_13 : decode cX6_isUnsafe 13 = .ok (.ireturn, 1) := by decide +kernel
theorem dX6_isUnsafe_14 : decode cX6_isUnsafe 14 = .ok (.aload_n 0, 1) := by decide +kernel
theorem dX6_isUnsafe_15 : decode cX6_isUnsafe 15 = .ok (.iload_n 1, 1) := by decide +kernel
theorem dX6_isUnsafe_16 : decode cX6_isUnsafe 16 = .ok (.iconst (-1), 1) := by decide +kernel
theorem dX6_isUnsafe_17 : decode cX6_isUnsafe 17 = .ok (.invokevirtual 128, 3) := by decide +kernel
theorem dX6_isUnsafe_20 : decode cX6_isUnsafe 20 = .ok (.istore_n 3, 1) := by decide +kernel
theorem dX6_isUnsafe_21 : decode cX6_isUnsafe 21 = .ok (.aload_n 0, 1) := by decide +kernel
theorem dX6_isUnsafe_22 : decode cX6_isUnsafe 22 = .ok (.iload_n 1, 1) := by decide +kernel
theorem dX6_isUnsafe_23 : decode cX6_isUnsafe 23 = .ok (.iload_n 2, 1) := by decide +kernel
theorem dX6_isUnsafe_24 : decode cX6_isUnsafe 24 = .ok (.invokevirtual 128, 3) := by decide +kernel
theorem dX6_isUnsafe_27 : decode cX6_isUnsafe 27 = .ok (.istore 4, 2) := by decide +kernel
theorem dX6_isUnsafe_29 : decode cX6_isUnsafe 29 = .ok (.aload_n 0, 1) := by decide +kernel
theorem dX6_isUnsafe_30 : decode cX6_isUnsafe 30 = .ok (.iload 4, 2) := by decide +kernel
theorem dX6_isUnsafe_32 : decode cX6_isUnsafe 32 = .ok (.invokevirtual 134, 3) := by decide +kernel
theorem dX6_isUnsafe_35 : decode cX6_isUnsafe 35 = .ok (.ifCond .eq 13, 3) := by decide +kernel
theorem dX6_isUnsafe_38 : decode cX6_isUnsafe 38 = .ok (.iload 4, 2) := by decide +kernel
theorem dX6_isUnsafe_40 : decode cX6_isUnsafe 40 = .ok (.iload_n 3, 1) := by decide +kernel
theorem dX6_isUnsafe_41 : decode cX6_isUnsafe 41 = .ok (.if_icmp .eq 7, 3) := by decide +kernel
theorem dX6_isUnsafe_44 : decode cX6_isUnsafe 44 = .ok (.iconst 1, 1) := by decide +kernel
theorem dX6_isUnsafe_45 : decode cX6_isUnsafe 45 = .ok (.goto 4, 3) := by decide +kernel
theorem dX6_isUnsafe_48 : decode cX6_isUnsafe 48 = .ok (.iconst 0, 1) := by decide +kernel
theorem dX6_isUnsafe_49 : decode cX6_isUnsafe 49 = .ok (.ireturn, 1) := by decide +kernel
set_option maxRecDepth 20000 in
theorem ggX6_test_X6_many : GoodIn wsX6_test wsX6_many := goodIn_r _ [5, 6, 38, 39, 40, 41, 42, 43, 44, 45, 46, 47, 48] (by decide +kernel) (by decide +kernel)
set_option maxRecDepth 20000 in
theorem gX6_test_X6_many : GoodIn wsX6_test (wsV RX6 106 RX6 yX6_many wsX6_many) := goodIn_app (goodIn_of _ (by decide +kernel)) ggX6_test_X6_many
set_option maxRecDepth 20000 in
theorem ggX6_test_X6_exposes : GoodIn wsX6_test wsX6_exposes := goodIn_r _ [10, 6, 11, 12, 13, 4, 14, 15, 16, 17, 18, 19, 20, 21, 22, 23, 24, 25, 26, 27, 28, 29, 30, 31, 32, 33, 34, 35, 36, 37, 38, 39, 40, 41, 42, 43, 44, 45, 46, 47, 48] (by decide +kernel) (by decide +kernel)
set_option maxRecDepth 20000 in
theorem gX6_test_X6_exposes : GoodIn wsX6_test (wsV RX6 137 RX6 yX6_exposes wsX6_exposes) := goodIn_app (goodIn_of _ (by decide +kernel)) ggX6_test_X6_exposes
theorem dX6_test_0 : decode cX6_test 0 = .ok (.iconst 0, 1) := by decide +kernel
theorem dX6_test_1 : decode cX6_test 1 = .ok (.istore_n 2, 1) := by decide +kernel
theorem dX6_test_2 : decode cX6_test 2 = .ok (.iload_n 2, 1) := by decide +kernel
theorem dX6_test_3 : decode cX6_test 3 = .ok (.aload_n 0, 1) := by decide +kernel
theorem dX6_test_4 : decode cX6_test 4 = .ok (.invokevirtual 106, 3) := by decide +kernel
theorem dX6_test_7 : decode cX6_test 7 = .ok (.if_icmp .ge 20, 3) := by decide +kernel
theorem dX6_test_10 : decode cX6_test 10 = .ok (.aload_n 0, 1) := by decide +kernel
theorem dX6_test_11 : decode cX6_test 11 = .ok (.iload_n 2, 1) := by decide +kernel
theorem dX6_test_12 : decode cX6_test 12 = .ok (.iload_n 1, 1) := by decide +kernel
theorem dX6_test_13 : decode cX6_test 13 = .ok (.invokevirtual 137, 3) := by decide +kernel
theorem dX6_test_16 : decode cX6_test 16 = .ok (.ifCond .eq 5, 3) := by decide +kernel
theorem dX6_test_19 : decode cX6_test 19 = .ok (.iload_n 2, 1) := by decide +kernel
theorem dX6_test_20 : decode cX6_test 20 = .ok (.ireturn, 1) := by decide +kernel
theorem dX6_test_21 : decode cX6_test 21 = .ok (.iinc 2 1, 3) := by decide +kernel
theorem dX6_test_24 : decode cX6_test 24 = .ok (.goto (-22), 3) := by decide +kernel
theorem dX6_test_27 : decode cX6_test 27 = .ok (.bipush (-104), 2) := by decide +kernel
theorem dX6_test_29 : decode cX6_test 29 = .ok (.ireturn, 1) := by decide +kernel
set_option maxRecDepth 20000 in
theorem ggX6_unsafe_X6_many : GoodIn wsX6_unsafe wsX6_many := goodIn_r _ [5, 6, 38, 39, 40, 41, 42, 43, 44, 45, 46, 47, 48] (by decide +kernel) (by decide +kernel)
set_option maxRecDepth 20000 in
theorem gX6_unsafe_X6_many : GoodIn wsX6_unsafe (wsV RX6 106 RX6 yX6_many wsX6_many) := goodIn_app (goodIn_of _ (by decide +kernel)) ggX6_unsafe_X6_many
set_option maxRecDepth 20000 in
theorem ggX6_unsafe_X6_isUnsafe : GoodIn wsX6_unsafe wsX6_isUnsafe := goodIn_r _ [10, 6, 11, 12, 13, 4, 14, 15, 16, 17, 18, 19, 20, 21, 22, 23, 24, 25, 26, 27, 28, 29, 30, 31, 32, 33, 34, 35, 36, 37, 38, 39, 40, 41, 42, 43, 44, 45, 46, 47, 48] (by decide +kernel) (by decide +kernel)
set_option maxRecDepth 20000 in
theorem gX6_unsafe_X6_isUnsafe : GoodIn wsX6_unsafe (wsV RX6 141 RX6 yX6_isUnsafe wsX6_isUnsafe) := goodIn_app (goodIn_of _ (by decide +kernel)) ggX6_unsafe_X6_isUnsafe
theorem dX6_unsafe_0 : decode cX6_unsafe 0 = .ok (.iconst 0, 1) := by decide +kernel
theorem dX6_unsafe_1 : decode cX6_unsafe 1 = .ok (.istore_n 2, 1) := by decide +kernel
theorem dX6_unsafe_2 : decode cX6_unsafe 2 = .ok (.iload_n 2, 1) := by decide +kernel
theorem dX6_unsafe_3 : decode cX6_unsafe 3 = .ok (.aload_n 0, 1) := by decide +kernel
theorem dX6_unsafe_4 : decode cX6_unsafe 4 = .ok (.invokevirtual 106, 3) := by decide +kernel
theorem dX6_unsafe_7 : decode cX6_unsafe 7 = .ok (.if_icmp .ge 20, 3) := by decide +kernel
theorem dX6_unsafe_10 : decode cX6_unsafe 10 = .ok (.aload_n 0, 1) := by decide +kernel
theorem dX6_unsafe_11 : decode cX6_unsafe 11 = .ok (.iload_n 2, 1) := by decide +kernel
theorem dX6_unsafe_12 : decode cX6_unsafe 12 = .ok (.iload_n 1, 1) := by decide +kernel
theorem dX6_unsafe_13 : decode cX6_unsafe 13 = .ok (.invokevirtual 141, 3) := by decide +kernel
theorem dX6_unsafe_16 : decode cX6_unsafe 16 = .ok (.ifCond .eq 5, 3) := by decide +kernel
theorem dX6_unsafe_19 : decode cX6_unsafe 19 = .ok (.iload_n 2, 1) := by decide +kernel
theorem dX6_unsafe_20 : decode cX6_unsafe 20 = .ok (.ireturn, 1) := by decide +kernel
theorem dX6_unsafe_21 : decode cX6_unsafe 21 = .ok (.iinc 2 1, 3) := by decide +kernel
theorem dX6_unsafe_24 : decode cX6_unsafe 24 = .ok (.goto (-22), 3) := by decide +kernel
theorem dX6_unsafe_27 : decode cX6_unsafe 27 = .ok (.bipush (-104), 2) := by decide +kernel
theorem dX6_unsafe_29 : decode cX6_unsafe 29 = .ok (.ireturn, 1) := by decide +kernel
set_option maxRecDepth 20000 in
theorem ggX6_firstTest_X6_isFault : GoodIn wsX6_firstTest wsX6_isFault := goodIn_r _ [5, 6, 7, 8, 4, 9, 10, 11, 12, 49, 50, 51, 52, 53, 54, 55, 56, 57, 58, 59] (by decide +kernel) (by decide +kernel)
set_option maxRecDepth 20000 in
theorem gX6_firstTest_X6_isFault : GoodIn wsX6_firstTest (wsV RX6 125 RX6 yX6_isFault wsX6_isFault) := goodIn_app (goodIn_of _ (by decide +kernel)) ggX6_firstTest_X6_isFault
set_option maxRecDepth 20000 in
theorem ggX6_firstTest_X6_test : GoodIn wsX6_firstTest wsX6_test := goodIn_r _ [16, 17, 18, 19, 4, 20, 6, 21, 22, 23, 24, 25, 26, 27, 28, 29, 7, 8, 9, 30, 31, 32, 33, 34, 35, 36, 37, 38, 39, 40, 41, 42, 43, 44, 45, 46, 47, 48, 49, 50, 51, 52, 53, 54, 55, 56, 57, 58, 59] (by decide +kernel) (by decide +kernel)
set_option maxRecDepth 20000 in
theorem gX6_firstTest_X6_test : GoodIn wsX6_firstTest (wsV RX6 144 RX6 yX6_test wsX6_test) := goodIn_app (goodIn_of _ (by decide +kernel)) ggX6_firstTest_X6_test
theorem dX6_firstTest_0 : decode cX6_firstTest 0 = .ok (.aload_n 0, 1) := by decide +kernel
theorem dX6_firstTest_1 : decode cX6_firstTest 1 = .ok (.iload_n 1, 1) := by decide +kernel
theorem dX6_firstTest_2 : decode cX6_firstTest 2 = .ok (.invokevirtual 125, 3) := by decide +kernel
theorem dX6_firstTest_5 : decode cX6_firstTest 5 = .ok (.ifCond .eq 11, 3) := by decide +kernel
theorem dX6_firstTest_8 : decode cX6_firstTest 8 = .ok (.aload_n 0, 1) := by decide +kernel
theorem dX6_firstTest_9 : decode cX6_firstTest 9 = .ok (.iload_n 1, 1) := by decide +kernel
theorem dX6_firstTest_10 : decode cX6_firstTest 10 = .ok (.invokevirtual 144, 3) := by decide +kernel
theorem dX6_firstTest_13 : decode cX6_firstTest 13 = .ok (.goto 5, 3) := by decide +kernel
theorem dX6_firstTest_16 : decode cX6_firstTest 16 = .ok (.bipush (-101), 2) := by decide +kernel
theorem dX6_firstTest_18 : decode cX6_firstTest 18 = .ok (.ireturn, 1) := by decide +kernel
set_option maxRecDepth 20000 in
theorem ggX6_firstUnsafe_X6_isFault : GoodIn wsX6_firstUnsafe wsX6_isFault := goodIn_r _ [5, 6, 7, 8, 4, 9, 10, 11, 12, 49, 50, 51, 52, 53, 54, 55, 56, 57, 58, 59] (by decide +kernel) (by decide +kernel)
set_option maxRecDepth 20000 in
theorem gX6_firstUnsafe_X6_isFault : GoodIn wsX6_firstUnsafe (wsV RX6 125 RX6 yX6_isFault wsX6_isFault) := goodIn_app (goodIn_of _ (by decide +kernel)) ggX6_firstUnsafe_X6_isFault
set_option maxRecDepth 20000 in
theorem ggX6_firstUnsafe_X6_unsafe : GoodIn wsX6_firstUnsafe wsX6_unsafe := goodIn_r _ [16, 17, 18, 19, 4, 20, 6, 21, 22, 23, 24, 25, 26, 27, 28, 29, 7, 8, 9, 30, 31, 32, 33, 34, 35, 36, 37, 38, 39, 40, 41, 42, 43, 44, 45, 46, 47, 48, 49, 50, 51, 52, 53, 54, 55, 56, 57, 58, 59] (by decide +kernel) (by decide +kernel)
set_option maxRecDepth 20000 in
theorem gX6_firstUnsafe_X6_unsafe : GoodIn wsX6_firstUnsafe (wsV RX6 147 RX6 yX6_unsafe wsX6_unsafe) := goodIn_app (goodIn_of _ (by decide +kernel)) ggX6_firstUnsafe_X6_unsafe
theorem dX6_firstUnsafe_0 : decode cX6_firstUnsafe 0 = .ok (.aload_n 0, 1) := by decide +kernel
theorem dX6_firstUnsafe_1 : decode cX6_firstUnsafe 1 = .ok (.iload_n 1, 1) := by decide +kernel
theorem dX6_firstUnsafe_2 : decode cX6_firstUnsafe 2 = .ok (.invokevirtual 125, 3) := by decide +kernel
theorem dX6_firstUnsafe_5 : decode cX6_firstUnsafe 5 = .ok (.ifCond .eq 11, 3) := by decide +kernel
theorem dX6_firstUnsafe_8 : decode cX6_firstUnsafe 8 = .ok (.aload_n 0, 1) := by decide +kernel
theorem dX6_firstUnsafe_9 : decode cX6_firstUnsafe 9 = .ok (.iload_n 1, 1) := by decide +kernel
theorem dX6_firstUnsafe_10 : decode cX6_firstUnsafe 10 = .ok (.invokevirtual 147, 3) := by decide +kernel
theorem dX6_firstUnsafe_13 : decode cX6_firstUnsafe 13 = .ok (.goto 5, 3) := by decide +kernel
theorem dX6_firstUnsafe_16 : decode cX6_firstUnsafe 16 = .ok (.bipush (-101), 2) := by decide +kernel
theorem dX6_firstUnsafe_18 : decode cX6_firstUnsafe 18 = .ok (.ireturn, 1) := by decide +kernel
set_option maxRecDepth 20000 in
theorem ggX6_testableFaults_X6_nodesOf : GoodIn wsX6_testableFaults wsX6_nodesOf := goodIn_r _ [5] (by decide +kernel) (by decide +kernel)
set_option maxRecDepth 20000 in
theorem gX6_testableFaults_X6_nodesOf : GoodIn wsX6_testableFaults (va_wsS RX6 61 yX6_nodesOf wsX6_nodesOf) := goodIn_app (goodIn_of _ (by decide +kernel)) ggX6_testableFaults_X6_nodesOf
set_option maxRecDepth 20000 in
theorem ggX6_testableFaults_X6_test : GoodIn wsX6_testableFaults wsX6_test := goodIn_r _ [9, 10, 11, 12, 4, 13, 1, 14, 15, 16, 17, 18, 19, 20, 21, 22, 2, 3, 5, 23, 24, 25, 26, 27, 28, 29, 30, 31, 32, 33, 34, 35, 36, 37, 38, 39, 40, 41, 42, 43, 44, 45, 46, 47, 48, 49, 50, 51, 52] (by decide +kernel) (by decide +kernel)
set_option maxRecDepth 20000 in
theorem gX6_testableFaults_X6_test : GoodIn wsX6_testableFaults (wsV RX6 144 RX6 yX6_test wsX6_test) := goodIn_app (goodIn_of _ (by decide +kernel)) ggX6_testableFaults_X6_test
theorem dX6_testableFaults_0 : decode cX6_testableFaults 0 = .ok (.iconst 0, 1) := by decide +kernel
theorem dX6_testableFaults_1 : decode cX6_testableFaults 1 = .ok (.istore_n 1, 1) := by decide +kernel
theorem dX6_testableFaults_2 : decode cX6_testableFaults 2 = .ok (.iconst 0, 1) := by decide +kernel
theorem dX6_testableFaults_3 : decode cX6_testableFaults 3 = .ok (.istore_n 2, 1) := by decide +kernel
theorem dX6_testableFaults_4 : decode cX6_testableFaults 4 = .ok (.iload_n 2, 1) := by decide +kernel
theorem dX6_testableFaults_5 : decode cX6_testableFaults 5 = .ok (.iconst 2, 1) := by decide +kernel
theorem dX6_testableFaults_6 : decode cX6_testableFaults 6 = .ok (.aload_n 0, 1) := by decide +kernel
theorem dX6_testableFaults_7 : decode cX6_testableFaults 7 = .ok (.getfield 7, 3) := by decide +kernel
theorem dX6_testableFaults_10 : decode cX6_testableFaults 10 = .ok (.invokestatic 61, 3) := by decide +kernel
theorem dX6_testableFaults_13 : decode cX6_testableFaults 13 = .ok (.imul, 1) := by decide +kernel
theorem dX6_testableFaults_14 : decode cX6_testableFaults 14 = .ok (.if_icmp .ge 25, 3) := by decide +kernel
theorem dX6_testableFaults_17 : decode cX6_testableFaults 17 = .ok (.iload_n 1, 1) := by decide +kernel
theorem dX6_testableFaults_18 : decode cX6_testableFaults 18 = .ok (.aload_n 0, 1) := by decide +kernel
theorem dX6_testableFaults_19 : decode cX6_testableFaults 19 = .ok (.iload_n 2, 1) := by decide +kernel
theorem dX6_testableFaults_20 : decode cX6_testableFaults 20 = .ok (.invokevirtual 144, 3) := by decide +kernel
theorem dX6_testableFaults_23 : decode cX6_testableFaults 23 = .ok (.ifCond .lt 7, 3) := by decide +kernel
theorem dX6_testableFaults_26 : decode cX6_testableFaults 26 = .ok (.iconst 1, 1) := by decide +kernel
theorem dX6_testableFaults_27 : decode cX6_testableFaults 27 = .ok (.goto 4, 3) := by decide +kernel
theorem dX6_testableFaults_30 : decode cX6_testableFaults 30 = .ok (.iconst 0, 1) := by decide +kernel
theorem dX6_testableFaults_31 : decode cX6_testableFaults 31 = .ok (.iadd, 1) := by decide +kernel
theorem dX6_testableFaults_32 : decode cX6_testableFaults 32 = .ok (.istore_n 1, 1) := by decide +kernel
theorem dX6_testableFaults_33 : decode cX6_testableFaults 33 = .ok (.iinc 2 1, 3) := by decide +kernel
theorem dX6_testableFaults_36 : decode cX6_testableFaults 36 = .ok (.goto (-32), 3) := by decide +kernel
theorem dX6_testableFaults_39 : decode cX6_testableFaults 39 = .ok (.iload_n 1, 1) := by decide +kernel
theorem dX6_testableFaults_40 : decode cX6_testableFaults 40 = .ok (.ireturn, 1) := by decide +kernel
set_option maxRecDepth 20000 in
theorem ggX6_secureFaults_X6_nodesOf : GoodIn wsX6_secureFaults wsX6_nodesOf := goodIn_r _ [5] (by decide +kernel) (by decide +kernel)
set_option maxRecDepth 20000 in
theorem gX6_secureFaults_X6_nodesOf : GoodIn wsX6_secureFaults (va_wsS RX6 61 yX6_nodesOf wsX6_nodesOf) := goodIn_app (goodIn_of _ (by decide +kernel)) ggX6_secureFaults_X6_nodesOf
set_option maxRecDepth 20000 in
theorem ggX6_secureFaults_X6_unsafe : GoodIn wsX6_secureFaults wsX6_unsafe := goodIn_r _ [9, 10, 11, 12, 4, 13, 1, 14, 15, 16, 17, 18, 19, 20, 21, 22, 2, 3, 5, 23, 24, 25, 26, 27, 28, 29, 30, 31, 32, 33, 34, 35, 36, 37, 38, 39, 40, 41, 42, 43, 44, 45, 46, 47, 48, 49, 50, 51, 52] (by decide +kernel) (by decide +kernel)
set_option maxRecDepth 20000 in
theorem gX6_secureFaults_X6_unsafe : GoodIn wsX6_secureFaults (wsV RX6 147 RX6 yX6_unsafe wsX6_unsafe) := goodIn_app (goodIn_of _ (by decide +kernel)) ggX6_secureFaults_X6_unsafe
theorem dX6_secureFaults_0 : decode cX6_secureFaults 0 = .ok (.iconst 0, 1) := by decide +kernel
theorem dX6_secureFaults_1 : decode cX6_secureFaults 1 = .ok (.istore_n 1, 1) := by decide +kernel
theorem dX6_secureFaults_2 : decode cX6_secureFaults 2 = .ok (.iconst 0, 1) := by decide +kernel
theorem dX6_secureFaults_3 : decode cX6_secureFaults 3 = .ok (.istore_n 2, 1) := by decide +kernel
theorem dX6_secureFaults_4 : decode cX6_secureFaults 4 = .ok (.iload_n 2, 1) := by decide +kernel
theorem dX6_secureFaults_5 : decode cX6_secureFaults 5 = .ok (.iconst 2, 1) := by decide +kernel
theorem dX6_secureFaults_6 : decode cX6_secureFaults 6 = .ok (.aload_n 0, 1) := by decide +kernel
theorem dX6_secureFaults_7 : decode cX6_secureFaults 7 = .ok (.getfield 7, 3) := by decide +kernel
theorem dX6_secureFaults_10 : decode cX6_secureFaults 10 = .ok (.invokestatic 61, 3) := by decide +kernel
theorem dX6_secureFaults_13 : decode cX6_secureFaults 13 = .ok (.imul, 1) := by decide +kernel
theorem dX6_secureFaults_14 : decode cX6_secureFaults 14 = .ok (.if_icmp .ge 25, 3) := by decide +kernel
theorem dX6_secureFaults_17 : decode cX6_secureFaults 17 = .ok (.iload_n 1, 1) := by decide +kernel
theorem dX6_secureFaults_18 : decode cX6_secureFaults 18 = .ok (.aload_n 0, 1) := by decide +kernel
theorem dX6_secureFaults_19 : decode cX6_secureFaults 19 = .ok (.iload_n 2, 1) := by decide +kernel
theorem dX6_secureFaults_20 : decode cX6_secureFaults 20 = .ok (.invokevirtual 147, 3) := by decide +kernel
theorem dX6_secureFaults_23 : decode cX6_secureFaults 23 = .ok (.ifCond .ge 7, 3) := by decide +kernel
theorem dX6_secureFaults_26 : decode cX6_secureFaults 26 = .ok (.iconst 1, 1) := by decide +kernel
theorem dX6_secureFaults_27 : decode cX6_secureFaults 27 = .ok (.goto 4, 3) := by decide +kernel
theorem dX6_secureFaults_30 : decode cX6_secureFaults 30 = .ok (.iconst 0, 1) := by decide +kernel
theorem dX6_secureFaults_31 : decode cX6_secureFaults 31 = .ok (.iadd, 1) := by decide +kernel
theorem dX6_secureFaults_32 : decode cX6_secureFaults 32 = .ok (.istore_n 1, 1) := by decide +kernel
theorem dX6_secureFaults_33 : decode cX6_secureFaults 33 = .ok (.iinc 2 1, 3) := by decide +kernel
theorem dX6_secureFaults_36 : decode cX6_secureFaults 36 = .ok (.goto (-32), 3) := by decide +kernel
theorem dX6_secureFaults_39 : decode cX6_secureFaults 39 = .ok (.iload_n 1, 1) := by decide +kernel
theorem dX6_secureFaults_40 : decode cX6_secureFaults 40 = .ok (.ireturn, 1) := by decide +kernel
set_option maxRecDepth 20000 in
theorem ggX6_isCodeDisjoint_X6_many : GoodIn wsX6_isCodeDisjoint wsX6_many := goodIn_r _ [6, 1, 34, 35, 36, 37, 38, 39, 40, 41, 42, 43, 44] (by decide +kernel) (by decide +kernel)
set_option maxRecDepth 20000 in
theorem gX6_isCodeDisjoint_X6_many : GoodIn wsX6_isCodeDisjoint (wsV RX6 106 RX6 yX6_many wsX6_many) := goodIn_app (goodIn_of _ (by decide +kernel)) ggX6_isCodeDisjoint_X6_many
set_option maxRecDepth 20000 in
theorem ggX6_isCodeDisjoint_X6_told : GoodIn wsX6_isCodeDisjoint wsX6_told := goodIn_r _ [10, 1, 11, 12, 13, 5, 14, 15, 16, 17, 18, 19, 20, 21, 22, 23, 24, 25, 26, 34, 35, 36, 37, 38, 39, 40, 41, 42, 43, 44] (by decide +kernel) (by decide +kernel)
set_option maxRecDepth 20000 in
theorem gX6_isCodeDisjoint_X6_told : GoodIn wsX6_isCodeDisjoint (wsV RX6 128 RX6 yX6_told wsX6_told) := goodIn_app (goodIn_of _ (by decide +kernel)) ggX6_isCodeDisjoint_X6_told
set_option maxRecDepth 20000 in
theorem ggX6_isCodeDisjoint_X6_isCoded : GoodIn wsX6_isCodeDisjoint wsX6_isCoded := goodIn_r _ [30, 1, 31, 32, 5, 33, 34, 35, 36, 37, 38, 39, 40, 41, 42, 43, 44] (by decide +kernel) (by decide +kernel)
set_option maxRecDepth 20000 in
theorem gX6_isCodeDisjoint_X6_isCoded : GoodIn wsX6_isCodeDisjoint (wsV RX6 134 RX6 yX6_isCoded wsX6_isCoded) := goodIn_app (goodIn_of _ (by decide +kernel)) ggX6_isCodeDisjoint_X6_isCoded
theorem dX6_isCodeDisjoint_0 : decode cX6_isCodeDisjoint 0 = .ok (.iconst 1, 1) := by decide +kernel
theorem dX6_isCodeDisjoint_1 : decode cX6_isCodeDisjoint 1 = .ok (.istore_n 1, 1) := by decide +kernel
theorem dX6_isCodeDisjoint_2 : decode cX6_isCodeDisjoint 2 = .ok (.iconst 0, 1) := by decide +kernel
theorem dX6_isCodeDisjoint_3 : decode cX6_isCodeDisjoint 3 = .ok (.istore_n 2, 1) := by decide +kernel
theorem dX6_isCodeDisjoint_4 : decode cX6_isCodeDisjoint 4 = .ok (.iload_n 2, 1) := by decide +kernel
theorem dX6_isCodeDisjoint_5 : decode cX6_isCodeDisjoint 5 = .ok (.aload_n 0, 1) := by decide +kernel
theorem dX6_isCodeDisjoint_6 : decode cX6_isCodeDisjoint 6 = .ok (.invokevirtual 106, 3) := by decide +kernel
theorem dX6_isCodeDisjoint_9 : decode cX6_isCodeDisjoint 9 = .ok (.if_icmp .ge 50, 3) := by decide +kernel
theorem dX6_isCodeDisjoint_12 : decode cX6_isCodeDisjoint 12 = .ok (.iload_n 1, 1) := by decide +kernel
theorem dX6_isCodeDisjoint_13 : decode cX6_isCodeDisjoint 13 = .ok (.ifCond .eq 38, 3) := by decide +kernel
theorem dX6_isCodeDisjoint_16 : decode cX6_isCodeDisjoint 16 = .ok (.aload_n 0, 1) := by decide +kernel
theorem dX6_isCodeDisjoint_17 : decode cX6_isCodeDisjoint 17 = .ok (.aload_n 0, 1) := by decide +kernel
theorem dX6_isCodeDisjoint_18 : decode cX6_isCodeDisjoint 18 = .ok (.iload_n 2, 1) := by decide +kernel
theorem dX6_isCodeDisjoint_19 : decode cX6_isCodeDisjoint 19 = .ok (.iconst (-1), 1) := by decide +kernel
theorem dX6_isCodeDisjoint_20 : decode cX6_isCodeDisjoint 20 = .ok (.invokevirtual 128, 3) := by decide +kernel
theorem dX6_isCodeDisjoint_23 : decode cX6_isCodeDisjoint 23 = .ok (.invokevirtual 134, 3) := by decide +kernel
theorem dX6_isCodeDisjoint_26 : decode cX6_isCodeDisjoint 26 = .ok (.aload_n 0, 1) := by decide +kernel
theorem dX6_isCodeDisjoint_27 : decode cX6_isCodeDisjoint 27 = .ok (.getfield 7, 3) := by decide +kernel
theorem dX6_isCodeDisjoint_30 : decode cX6_isCodeDisjoint 30 = .ok (.bipush 83, 2) := by decide +kernel
theorem dX6_isCodeDisjoint_32 : decode cX6_isCodeDisjoint 32 = .ok (.iload_n 2, 1) := by decide +kernel
theorem dX6_isCodeDisjoint_33 : decode cX6_isCodeDisjoint 33 = .ok (.iadd, 1) := by decide +kernel
theorem dX6_isCodeDisjoint_34 : decode cX6_isCodeDisjoint 34 = .ok (.iaload, 1) := by decide +kernel
theorem dX6_isCodeDisjoint_35 : decode cX6_isCodeDisjoint 35 = .ok (.iconst 1, 1) := by decide +kernel
theorem dX6_isCodeDisjoint_36 : decode cX6_isCodeDisjoint 36 = .ok (.if_icmp .ne 7, 3) := by decide +kernel
theorem dX6_isCodeDisjoint_39 : decode cX6_isCodeDisjoint 39 = .ok (.iconst 1, 1) := by decide +kernel
theorem dX6_isCodeDisjoint_40 : decode cX6_isCodeDisjoint 40 = .ok (.goto 4, 3) := by decide +kernel
theorem dX6_isCodeDisjoint_43 : decode cX6_isCodeDisjoint 43 = .ok (.iconst 0, 1) := by decide +kernel
theorem dX6_isCodeDisjoint_44 : decode cX6_isCodeDisjoint 44 = .ok (.if_icmp .ne 7, 3) := by decide +kernel
theorem dX6_isCodeDisjoint_47 : decode cX6_isCodeDisjoint 47 = .ok (.iconst 1, 1) := by decide +kernel
theorem dX6_isCodeDisjoint_48 : decode cX6_isCodeDisjoint 48 = .ok (.goto 4, 3) := by decide +kernel
theorem dX6_isCodeDisjoint_51 : decode cX6_isCodeDisjoint 51 = .ok (.iconst 0, 1) := by decide +kernel
theorem dX6_isCodeDisjoint_52 : decode cX6_isCodeDisjoint 52 = .ok (.istore_n 1, 1) := by decide +kernel
theorem dX6_isCodeDisjoint_53 : decode cX6_isCodeDisjoint 53 = .ok (.iinc 2 1, 3) := by decide +kernel
theorem dX6_isCodeDisjoint_56 : decode cX6_isCodeDisjoint 56 = .ok (.goto (-52), 3) := by decide +kernel
theorem dX6_isCodeDisjoint_59 : decode cX6_isCodeDisjoint 59 = .ok (.iload_n 1, 1) := by decide +kernel
theorem dX6_isCodeDisjoint_60 : decode cX6_isCodeDisjoint 60 = .ok (.ifCond .eq 7, 3) := by decide +kernel
theorem dX6_isCodeDisjoint_63 : decode cX6_isCodeDisjoint 63 = .ok (.iconst 1, 1) := by decide +kernel
theorem dX6_isCodeDisjoint_64 : decode cX6_isCodeDisjoint 64 = .ok (.goto 4, 3) := by decide +kernel
theorem dX6_isCodeDisjoint_67 : decode cX6_isCodeDisjoint 67 = .ok (.iconst 0, 1) := by decide +kernel
theorem dX6_isCodeDisjoint_68 : decode cX6_isCodeDisjoint 68 = .ok (.ireturn, 1) := by decide +kernel
set_option maxRecDepth 20000 in
theorem ggX6_isUnordered_X6_many : GoodIn wsX6_isUnordered wsX6_many := goodIn_r _ [6, 1, 27, 28, 29, 30, 31, 32, 33, 34, 35, 36, 37] (by decide +kernel) (by decide +kernel)
set_option maxRecDepth 20000 in
theorem gX6_isUnordered_X6_many : GoodIn wsX6_isUnordered (wsV RX6 106 RX6 yX6_many wsX6_many) := goodIn_app (goodIn_of _ (by decide +kernel)) ggX6_isUnordered_X6_many
set_option maxRecDepth 20000 in
theorem ggX6_isUnordered_X6_told : GoodIn wsX6_isUnordered wsX6_told := goodIn_r _ [10, 1, 11, 12, 13, 5, 14, 15, 16, 17, 18, 19, 20, 21, 22, 23, 24, 25, 26, 27, 28, 29, 30, 31, 32, 33, 34, 35, 36, 37] (by decide +kernel) (by decide +kernel)
set_option maxRecDepth 20000 in
theorem gX6_isUnordered_X6_told : GoodIn wsX6_isUnordered (wsV RX6 128 RX6 yX6_told wsX6_told) := goodIn_app (goodIn_of _ (by decide +kernel)) ggX6_isUnordered_X6_told
theorem dX6_isUnordered_0 : decode cX6_isUnordered 0 = .ok (.iconst 1, 1) := by decide +kernel
theorem dX6_isUnordered_1 : decode cX6_isUnordered 1 = .ok (.istore_n 1, 1) := by decide +kernel
theorem dX6_isUnordered_2 : decode cX6_isUnordered 2 = .ok (.iconst 0, 1) := by decide +kernel
theorem dX6_isUnordered_3 : decode cX6_isUnordered 3 = .ok (.istore_n 2, 1) := by decide +kernel
theorem dX6_isUnordered_4 : decode cX6_isUnordered 4 = .ok (.iload_n 2, 1) := by decide +kernel
theorem dX6_isUnordered_5 : decode cX6_isUnordered 5 = .ok (.aload_n 0, 1) := by decide +kernel
theorem dX6_isUnordered_6 : decode cX6_isUnordered 6 = .ok (.invokevirtual 106, 3) := by decide +kernel
theorem dX6_isUnordered_9 : decode cX6_isUnordered 9 = .ok (.if_icmp .ge 101, 3) := by decide +kernel
theorem dX6_isUnordered_12 : decode cX6_isUnordered 12 = .ok (.iconst 0, 1) := by decide +kernel
theorem dX6_isUnordered_13 : decode cX6_isUnordered 13 = .ok (.istore_n 3, 1) := by decide +kernel
theorem dX6_isUnordered_14 : decode cX6_isUnordered 14 = .ok (.iload_n 3, 1) := by decide +kernel
theorem dX6_isUnordered_15 : decode cX6_isUnordered 15 = .ok (.iload_n 2, 1) := by decide +kernel
theorem dX6_isUnordered_16 : decode cX6_isUnordered 16 = .ok (.if_icmp .ge 88, 3) := by decide +kernel
theorem dX6_isUnordered_19 : decode cX6_isUnordered 19 = .ok (.aload_n 0, 1) := by decide +kernel
theorem dX6_isUnordered_20 : decode cX6_isUnordered 20 = .ok (.getfield 7, 3) := by decide +kernel
theorem dX6_isUnordered_23 : decode cX6_isUnordered 23 = .ok (.bipush 83, 2) := by decide +kernel
theorem dX6_isUnordered_25 : decode cX6_isUnordered 25 = .ok (.iload_n 2, 1) := by decide +kernel
theorem dX6_isUnordered_26 : decode cX6_isUnordered 26 = .ok (.iadd, 1) := by decide +kernel
theorem dX6_isUnordered_27 : decode cX6_isUnordered 27 = .ok (.iaload, 1) := by decide +kernel
theorem dX6_isUnordered_28 : decode cX6_isUnordered 28 = .ok (.iconst 1, 1) := by decide +kernel
theorem dX6_isUnordered_29 : decode cX6_isUnordered 29 = .ok (.if_icmp .ne 69, 3) := by decide +kernel
theorem dX6_isUnordered_32 : decode cX6_isUnordered 32 = .ok (.aload_n 0, 1) := by decide +kernel
theorem dX6_isUnordered_33 : decode cX6_isUnordered 33 = .ok (.getfield 7, 3) := by decide +kernel
theorem dX6_isUnordered_36 : decode cX6_isUnordered 36 = .ok (.bipush 83, 2) := by decide +kernel
theorem dX6_isUnordered_38 : decode cX6_isUnordered 38 = .ok (.iload_n 3, 1) := by decide +kernel
theorem dX6_isUnordered_39 : decode cX6_isUnordered 39 = .ok (.iadd, 1) := by decide +kernel
theorem dX6_isUnordered_40 : decode cX6_isUnordered 40 = .ok (.iaload, 1) := by decide +kernel
theorem dX6_isUnordered_41 : decode cX6_isUnordered 41 = .ok (.iconst 1, 1) := by decide +kernel
theorem dX6_isUnordered_42 : decode cX6_isUnordered 42 = .ok (.if_icmp .ne 56, 3) := by decide +kernel
theorem dX6_isUnordered_45 : decode cX6_isUnordered 45 = .ok (.aload_n 0, 1) := by decide +kernel
theorem dX6_isUnordered_46 : decode cX6_isUnordered 46 = .ok (.iload_n 2, 1) := by decide +kernel
theorem dX6_isUnordered_47 : decode cX6_isUnordered 47 = .ok (.iconst (-1), 1) := by decide +kernel
theorem dX6_isUnordered_48 : decode cX6_isUnordered 48 = .ok (.invokevirtual 128, 3) := by decide +kernel
theorem dX6_isUnordered_51 : decode cX6_isUnordered 51 = .ok (.istore 4, 2) := by decide +kernel
theorem dX6_isUnordered_53 : decode cX6_isUnordered 53 = .ok (.aload_n 0, 1) := by decide +kernel
theorem dX6_isUnordered_54 : decode cX6_isUnordered 54 = .ok (.iload_n 3, 1) := by decide +kernel
theorem dX6_isUnordered_55 : decode cX6_isUnordered 55 = .ok (.iconst (-1), 1) := by decide +kernel
theorem dX6_isUnordered_56 : decode cX6_isUnordered 56 = .ok (.invokevirtual 128, 3) := by decide +kernel
theorem dX6_isUnordered_59 : decode cX6_isUnordered 59 = .ok (.istore 5, 2) := by decide +kernel
theorem dX6_isUnordered_61 : decode cX6_isUnordered 61 = .ok (.iload_n 1, 1) := by decide +kernel
theorem dX6_isUnordered_62 : decode cX6_isUnordered 62 = .ok (.ifCond .eq 34, 3) := by decide +kernel
theorem dX6_isUnordered_65 : decode cX6_isUnordered 65 = .ok (.iload 4, 2) := by decide +kernel
theorem dX6_isUnordered_67 : decode cX6_isUnordered 67 = .ok (.iload 5, 2) := by decide +kernel
theorem dX6_isUnordered_69 : decode cX6_isUnordered 69 = .ok (.if_icmp .eq 23, 3) := by decide +kernel
theorem dX6_isUnordered_72 : decode cX6_isUnordered 72 = .ok (.iload 4, 2) := by decide +kernel
theorem dX6_isUnordered_74 : decode cX6_isUnordered 74 = .ok (.iload 5, 2) := by decide +kernel
theorem dX6_isUnordered_76 : decode cX6_isUnordered 76 = .ok (.iconst (-1), 1) := by decide +kernel
theorem dX6_isUnordered_77 : decode cX6_isUnordered 77 = .ok (.ixor, 1) := by decide +kernel
theorem dX6_isUnordered_78 : decode cX6_isUnordered 78 = .ok (.iand, 1) := by decide +kernel
theorem dX6_isUnordered_79 : decode cX6_isUnordered 79 = .ok (.ifCond .eq 17, 3) := by decide +kernel
theorem dX6_isUnordered_82 : decode cX6_isUnordered 82 = .ok (.iload 5, 2) := by decide +kernel
theorem dX6_isUnordered_84 : decode cX6_isUnordered 84 = .ok (.iload 4, 2) := by decide +kernel
theorem dX6_isUnordered_86 : decode cX6_isUnordered 86 = .ok (.iconst (-1), 1) := by decide +kernel
theorem dX6_isUnordered_87 : decode cX6_isUnordered 87 = .ok (.ixor, 1) := by decide +kernel
theorem dX6_isUnordered_88 : decode cX6_isUnordered 88 = .ok (.iand, 1) := by decide +kernel
theorem dX6_isUnordered_89 : decode cX6_isUnordered 89 = .ok (.ifCond .eq 7, 3) := by decide +kernel
theorem dX6_isUnordered_92 : decode cX6_isUnordered 92 = .ok (.iconst 1, 1) := by decide +kernel
theorem dX6_isUnordered_93 : decode cX6_isUnordered 93 = .ok (.goto 4, 3) := by decide +kernel
theorem dX6_isUnordered_96 : decode cX6_isUnordered 96 = .ok (.iconst 0, 1) := by decide +kernel
theorem dX6_isUnordered_97 : decode cX6_isUnordered 97 = .ok (.istore_n 1, 1) := by decide +kernel
theorem dX6_isUnordered_98 : decode cX6_isUnordered 98 = .ok (.iinc 3 1, 3) := by decide +kernel
theorem dX6_isUnordered_101 : decode cX6_isUnordered 101 = .ok (.goto (-87), 3) := by decide +kernel
theorem dX6_isUnordered_104 : decode cX6_isUnordered 104 = .ok (.iinc 2 1, 3) := by decide +kernel
theorem dX6_isUnordered_107 : decode cX6_isUnordered 107 = .ok (.goto (-103), 3) := by decide +kernel
theorem dX6_isUnordered_110 : decode cX6_isUnordered 110 = .ok (.iload_n 1, 1) := by decide +kernel
theorem dX6_isUnordered_111 : decode cX6_isUnordered 111 = .ok (.ifCond .eq 7, 3) := by decide +kernel
theorem dX6_isUnordered_114 : decode cX6_isUnordered 114 = .ok (.iconst 1, 1) := by decide +kernel
theorem dX6_isUnordered_115 : decode cX6_isUnordered 115 = .ok (.goto 4, 3) := by decide +kernel
theorem dX6_isUnordered_118 : decode cX6_isUnordered 118 = .ok (.iconst 0, 1) := by decide +kernel
theorem dX6_isUnordered_119 : decode cX6_isUnordered 119 = .ok (.ireturn, 1) := by decide +kernel
set_option maxRecDepth 20000 in
theorem ggX6_greedyTest_X6_many : GoodIn wsX6_greedyTest wsX6_many := goodIn_r _ [8, 2, 40, 41, 42, 43, 44, 45, 46, 47, 48, 49, 50] (by decide +kernel) (by decide +kernel)
set_option maxRecDepth 20000 in
theorem gX6_greedyTest_X6_many : GoodIn wsX6_greedyTest (wsV RX6 106 RX6 yX6_many wsX6_many) := goodIn_app (goodIn_of _ (by decide +kernel)) ggX6_greedyTest_X6_many
set_option maxRecDepth 20000 in
theorem ggX6_greedyTest_X6_nodesOf : GoodIn wsX6_greedyTest wsX6_nodesOf := goodIn_r _ [11] (by decide +kernel) (by decide +kernel)
set_option maxRecDepth 20000 in
theorem gX6_greedyTest_X6_nodesOf : GoodIn wsX6_greedyTest (va_wsS RX6 61 yX6_nodesOf wsX6_nodesOf) := goodIn_app (goodIn_of _ (by decide +kernel)) ggX6_greedyTest_X6_nodesOf
set_option maxRecDepth 20000 in
theorem ggX6_greedyTest_X6_exposes : GoodIn wsX6_greedyTest wsX6_exposes := goodIn_r _ [15, 2, 16, 17, 18, 7, 19, 20, 9, 10, 11, 21, 22, 23, 24, 25, 26, 27, 28, 29, 30, 31, 32, 33, 34, 35, 36, 37, 38, 39, 40, 41, 42, 43, 44, 45, 46, 47, 48, 49, 50] (by decide +kernel) (by decide +kernel)
set_option maxRecDepth 20000 in
theorem gX6_greedyTest_X6_exposes : GoodIn wsX6_greedyTest (wsV RX6 137 RX6 yX6_exposes wsX6_exposes) := goodIn_app (goodIn_of _ (by decide +kernel)) ggX6_greedyTest_X6_exposes
theorem dX6_greedyTest_0 : decode cX6_greedyTest 0 = .ok (.iload_n 1, 1) := by decide +kernel
theorem dX6_greedyTest_1 : decode cX6_greedyTest 1 = .ok (.ifCond .ge 6, 3) := by decide +kernel
theorem dX6_greedyTest_4 : decode cX6_greedyTest 4 = .ok (.bipush (-101), 2) := by decide +kernel
theorem dX6_greedyTest_6 : decode cX6_greedyTest 6 = .ok (.ireturn, 1) := by decide +kernel
theorem dX6_greedyTest_7 : decode cX6_greedyTest 7 = .ok (.iconst 0, 1) := by decide +kernel
theorem dX6_greedyTest_8 : decode cX6_greedyTest 8 = .ok (.istore_n 2, 1) := by decide +kernel
theorem dX6_greedyTest_9 : decode cX6_greedyTest 9 = .ok (.iload_n 2, 1) := by decide +kernel
theorem dX6_greedyTest_10 : decode cX6_greedyTest 10 = .ok (.aload_n 0, 1) := by decide +kernel
theorem dX6_greedyTest_11 : decode cX6_greedyTest 11 = .ok (.invokevirtual 106, 3) := by decide +kernel
theorem dX6_greedyTest_14 : decode cX6_greedyTest 14 = .ok (.if_icmp .ge 62, 3) := by decide +kernel
theorem dX6_greedyTest_17 : decode cX6_greedyTest 17 = .ok (.aload_n 0, 1) := by decide +kernel
theorem dX6_greedyTest_18 : decode cX6_greedyTest 18 = .ok (.getfield 25, 3) := by decide +kernel
theorem dX6_greedyTest_21 : decode cX6_greedyTest 21 = .ok (.iload_n 2, 1) := by decide +kernel
theorem dX6_greedyTest_22 : decode cX6_greedyTest 22 = .ok (.lconst 0, 1) := by decide +kernel
theorem dX6_greedyTest_23 : decode cX6_greedyTest 23 = .ok (.lastore, 1) := by decide +kernel
theorem dX6_greedyTest_24 : decode cX6_greedyTest 24 = .ok (.iconst 0, 1) := by decide +kernel
theorem dX6_greedyTest_25 : decode cX6_greedyTest 25 = .ok (.istore_n 3, 1) := by decide +kernel
theorem dX6_greedyTest_26 : decode cX6_greedyTest 26 = .ok (.iload_n 3, 1) := by decide +kernel
theorem dX6_greedyTest_27 : decode cX6_greedyTest 27 = .ok (.iconst 2, 1) := by decide +kernel
theorem dX6_greedyTest_28 : decode cX6_greedyTest 28 = .ok (.aload_n 0, 1) := by decide +kernel
theorem dX6_greedyTest_29 : decode cX6_greedyTest 29 = .ok (.getfield 7, 3) := by decide +kernel
theorem dX6_greedyTest_32 : decode cX6_greedyTest 32 = .ok (.invokestatic 61, 3) := by decide +kernel
theorem dX6_greedyTest_35 : decode cX6_greedyTest 35 = .ok (.imul, 1) := by decide +kernel
theorem dX6_greedyTest_36 : decode cX6_greedyTest 36 = .ok (.if_icmp .ge 34, 3) := by decide +kernel
theorem dX6_greedyTest_39 : decode cX6_greedyTest 39 = .ok (.aload_n 0, 1) := by decide +kernel
theorem dX6_greedyTest_40 : decode cX6_greedyTest 40 = .ok (.getfield 25, 3) := by decide +kernel
theorem dX6_greedyTest_43 : decode cX6_greedyTest 43 = .ok (.iload_n 2, 1) := by decide +kernel
theorem dX6_greedyTest_44 : decode cX6_greedyTest 44 = .ok (.dup2, 1) := by decide +kernel
theorem dX6_greedyTest_45 : decode cX6_greedyTest 45 = .ok (.laload, 1) := by decide +kernel
theorem dX6_greedyTest_46 : decode cX6_greedyTest 46 = .ok (.aload_n 0, 1) := by decide +kernel
theorem dX6_greedyTest_47 : decode cX6_greedyTest 47 = .ok (.iload_n 2, 1) := by decide +kernel
theorem dX6_greedyTest_48 : decode cX6_greedyTest 48 = .ok (.iload_n 3, 1) := by decide +kernel
theorem dX6_greedyTest_49 : decode cX6_greedyTest 49 = .ok (.invokevirtual 137, 3) := by decide +kernel
theorem dX6_greedyTest_52 : decode cX6_greedyTest 52 = .ok (.ifCond .eq 9, 3) := by decide +kernel
theorem dX6_greedyTest_55 : decode cX6_greedyTest 55 = .ok (.lconst 1, 1) := by decide +kernel
theorem dX6_greedyTest_56 : decode cX6_greedyTest 56 = .ok (.iload_n 3, 1) := by decide +kernel
theorem dX6_greedyTest_57 : decode cX6_greedyTest 57 = .ok (.lshl, 1) := by decide +kernel
theorem dX6_greedyTest_58 : decode cX6_greedyTest 58 = .ok (.goto 4, 3) := by decide +kernel
theorem dX6_greedyTest_61 : decode cX6_greedyTest 61 = .ok (.lconst 0, 1) := by decide +kernel
theorem dX6_greedyTest_62 : decode cX6_greedyTest 62 = .ok (.lor, 1) := by decide +kernel
theorem dX6_greedyTest_63 : decode cX6_greedyTest 63 = .ok (.lastore, 1) := by decide +kernel
theorem dX6_greedyTest_64 : decode cX6_greedyTest 64 = .ok (.iinc 3 1, 3) := by decide +kernel
theorem dX6_greedyTest_67 : decode cX6_greedyTest 67 = .ok (.goto (-41), 3) := by decide +kernel
theorem dX6_greedyTest_70 : decode cX6_greedyTest 70 = .ok (.iinc 2 1, 3) := by decide +kernel
theorem dX6_greedyTest_73 : decode cX6_greedyTest 73 = .ok (.goto (-64), 3) := by decide +kernel
theorem dX6_greedyTest_76 : decode cX6_greedyTest 76 = .ok (.lconst 0, 1) := by decide +kernel
theorem dX6_greedyTest_77 : decode cX6_greedyTest 77 = .ok (.lstore_n 2, 1) := by decide +kernel
theorem dX6_greedyTest_78 : decode cX6_greedyTest 78 = .ok (.iconst 0, 1) := by decide +kernel
theorem dX6_greedyTest_79 : decode cX6_greedyTest 79 = .ok (.istore 4, 2) := by decide +kernel
theorem dX6_greedyTest_81 : decode cX6_greedyTest 81 = .ok (.iload 4, 2) := by decide +kernel
theorem dX6_greedyTest_83 : decode cX6_greedyTest 83 = .ok (.iload_n 1, 1) := by decide +kernel
theorem dX6_greedyTest_84 : decode cX6_greedyTest 84 = .ok (.if_icmp .gt 130, 3) := by decide +kernel
theorem dX6_greedyTest_87 : decode cX6_greedyTest 87 = .ok (.bipush (-104), 2) := by decide +kernel
theorem dX6_greedyTest_89 : decode cX6_greedyTest 89 = .ok (.istore 5, 2) := by decide +kernel
theorem dX6_greedyTest_91 : decode cX6_greedyTest 91 = .ok (.iconst 0, 1) := by decide +kernel
theorem dX6_greedyTest_92 : decode cX6_greedyTest 92 = .ok (.istore 6, 2) := by decide +kernel
theorem dX6_greedyTest_94 : decode cX6_greedyTest 94 = .ok (.iconst 0, 1) := by decide +kernel
theorem dX6_greedyTest_95 : decode cX6_greedyTest 95 = .ok (.istore 7, 2) := by decide +kernel
theorem dX6_greedyTest_97 : decode cX6_greedyTest 97 = .ok (.iload 7, 2) := by decide +kernel
theorem dX6_greedyTest_99 : decode cX6_greedyTest 99 = .ok (.aload_n 0, 1) := by decide +kernel
theorem dX6_greedyTest_100 : decode cX6_greedyTest 100 = .ok (.invokevirtual 106, 3) := by decide +kernel
theorem dX6_greedyTest_103 : decode cX6_greedyTest 103 = .ok (.if_icmp .ge 81, 3) := by decide +kernel
theorem dX6_greedyTest_106 : decode cX6_greedyTest 106 = .ok (.iconst 0, 1) := by decide +kernel
theorem dX6_greedyTest_107 : decode cX6_greedyTest 107 = .ok (.istore 8, 2) := by decide +kernel
theorem dX6_greedyTest_109 : decode cX6_greedyTest 109 = .ok (.aload_n 0, 1) := by decide +kernel
theorem dX6_greedyTest_110 : decode cX6_greedyTest 110 = .ok (.getfield 25, 3) := by decide +kernel
theorem dX6_greedyTest_113 : decode cX6_greedyTest 113 = .ok (.iload 7, 2) := by decide +kernel
theorem dX6_greedyTest_115 : decode cX6_greedyTest 115 = .ok (.laload, 1) := by decide +kernel
theorem dX6_greedyTest_116 : decode cX6_greedyTest 116 = .ok (.lload_n 2, 1) := by decide +kernel
theorem dX6_greedyTest_117 : decode cX6_greedyTest 117 = .ok (.ldc2_w 150, 3) := by decide +kernel
theorem dX6_greedyTest_120 : decode cX6_greedyTest 120 = .ok (.lxor, 1) := by decide +kernel
theorem dX6_greedyTest_121 : decode cX6_greedyTest 121 = .ok (.land, 1) := by decide +kernel
theorem dX6_greedyTest_122 : decode cX6_greedyTest 122 = .ok (.lstore 9, 2) := by decide +kernel
theorem dX6_greedyTest_124 : decode cX6_greedyTest 124 = .ok (.lload 9, 2) := by decide +kernel
theorem dX6_greedyTest_126 : decode cX6_greedyTest 126 = .ok (.lconst 0, 1) := by decide +kernel
theorem dX6_greedyTest_127 : decode cX6_greedyTest 127 = .ok (.lcmp, 1) := by decide +kernel
theorem dX6_greedyTest_128 : decode cX6_greedyTest 128 = .ok (.ifCond .eq 18, 3) := by decide +kernel
theorem dX6_greedyTest_131 : decode cX6_greedyTest 131 = .ok (.iinc 8 1, 3) := by decide +kernel
theorem dX6_greedyTest_134 : decode cX6_greedyTest 134 = .ok (.lload 9, 2) := by decide +kernel
theorem dX6_greedyTest_136 : decode cX6_greedyTest 136 = .ok (.lload 9, 2) := by decide +kernel
theorem dX6_greedyTest_138 : decode cX6_greedyTest 138 = .ok (.lconst 1, 1) := by decide +kernel
theorem dX6_greedyTest_139 : decode cX6_greedyTest 139 = .ok (.lsub, 1) := by decide +kernel
theorem dX6_greedyTest_140 : decode cX6_greedyTest 140 = .ok (.land, 1) := by decide +kernel
theorem dX6_greedyTest_141 : decode cX6_greedyTest 141 = .ok (.lstore 9, 2) := by decide +kernel
theorem dX6_greedyTest_143 : decode cX6_greedyTest 143 = .ok (.goto (-19), 3) := by decide +kernel
theorem dX6_greedyTest_146 : decode cX6_greedyTest 146 = .ok (.iload 8, 2) := by decide +kernel
theorem dX6_greedyTest_148 : decode cX6_greedyTest 148 = .ok (.iload 6, 2) := by decide +kernel
theorem dX6_greedyTest_150 : decode cX6_greedyTest 150 = .ok (.if_icmp .le 8, 3) := by decide +kernel
theorem dX6_greedyTest_153 : decode cX6_greedyTest 153 = .ok (.iload 7, 2) := by decide +kernel
theorem dX6_greedyTest_155 : decode cX6_greedyTest 155 = .ok (.goto 5, 3) := by decide +kernel
theorem dX6_greedyTest_158 : decode cX6_greedyTest 158 = .ok (.iload 5, 2) := by decide +kernel
theorem dX6_greedyTest_160 : decode cX6_greedyTest 160 = .ok (.istore 5, 2) := by decide +kernel
theorem dX6_greedyTest_162 : decode cX6_greedyTest 162 = .ok (.iload 8, 2) := by decide +kernel
theorem dX6_greedyTest_164 : decode cX6_greedyTest 164 = .ok (.iload 6, 2) := by decide +kernel
theorem dX6_greedyTest_166 : decode cX6_greedyTest 166 = .ok (.if_icmp .le 8, 3) := by decide +kernel
theorem dX6_greedyTest_169 : decode cX6_greedyTest 169 = .ok (.iload 8, 2) := by decide +kernel
theorem dX6_greedyTest_171 : decode cX6_greedyTest 171 = .ok (.goto 5, 3) := by decide +kernel
theorem dX6_greedyTest_174 : decode cX6_greedyTest 174 = .ok (.iload 6, 2) := by decide +kernel
theorem dX6_greedyTest_176 : decode cX6_greedyTest 176 = .ok (.istore 6, 2) := by decide +kernel
theorem dX6_greedyTest_178 : decode cX6_greedyTest 178 = .ok (.iinc 7 1, 3) := by decide +kernel
theorem dX6_greedyTest_181 : decode cX6_greedyTest 181 = .ok (.goto (-84), 3) := by decide +kernel
theorem dX6_greedyTest_184 : decode cX6_greedyTest 184 = .ok (.iload 5, 2) := by decide +kernel
theorem dX6_greedyTest_186 : decode cX6_greedyTest 186 = .ok (.ifCond .lt 9, 3) := by decide +kernel
theorem dX6_greedyTest_189 : decode cX6_greedyTest 189 = .ok (.iload 4, 2) := by decide +kernel
theorem dX6_greedyTest_191 : decode cX6_greedyTest 191 = .ok (.iload_n 1, 1) := by decide +kernel
theorem dX6_greedyTest_192 : decode cX6_greedyTest 192 = .ok (.if_icmp .ne 6, 3) := by decide +kernel
theorem dX6_greedyTest_195 : decode cX6_greedyTest 195 = .ok (.iload 5, 2) := by decide +kernel
theorem dX6_greedyTest_197 : decode cX6_greedyTest 197 = .ok (.ireturn, 1) := by decide +kernel
theorem dX6_greedyTest_198 : decode cX6_greedyTest 198 = .ok (.lload_n 2, 1) := by decide +kernel
theorem dX6_greedyTest_199 : decode cX6_greedyTest 199 = .ok (.aload_n 0, 1) := by decide +kernel
theorem dX6_greedyTest_200 : decode cX6_greedyTest 200 = .ok (.getfield 25, 3) := by decide +kernel
theorem dX6_greedyTest_203 : decode cX6_greedyTest 203 = .ok (.iload 5, 2) := by decide +kernel
theorem dX6_greedyTest_205 : decode cX6_greedyTest 205 = .ok (.laload, 1) := by decide +kernel
theorem dX6_greedyTest_206 : decode cX6_greedyTest 206 = .ok (.lor, 1) := by decide +kernel
theorem dX6_greedyTest_207 : decode cX6_greedyTest 207 = .ok (.lstore_n 2, 1) := by decide +kernel
theorem dX6_greedyTest_208 : decode cX6_greedyTest 208 = .ok (.iinc 4 1, 3) := by decide +kernel
theorem dX6_greedyTest_211 : decode cX6_greedyTest 211 = .ok (.goto (-130), 3) := by decide +kernel
theorem dX6_greedyTest_214 : decode cX6_greedyTest 214 = .ok (.bipush (-104), 2) := by decide +kernel
theorem dX6_greedyTest_216 : decode cX6_greedyTest 216 = .ok (.ireturn, 1) := by decide +kernel
