theorem dX0_init_0 : decode cX0_init 0 = .ok (.aload_n 0, 1) := by decide +kernel
theorem dX0_init_1 : decode cX0_init 1 = .ok (.invokespecial 3, 3) := by decide +kernel
theorem dX0_init_4 : decode cX0_init 4 = .ok (.aload_n 0, 1) := by decide +kernel
theorem dX0_init_5 : decode cX0_init 5 = .ok (.bipush 16, 2) := by decide +kernel
theorem dX0_init_7 : decode cX0_init 7 = .ok (.newarray .long, 2) := by decide +kernel
theorem dX0_init_9 : decode cX0_init 9 = .ok (.putfield 9, 3) := by decide +kernel
theorem dX0_init_12 : decode cX0_init 12 = .ok (.aload_n 0, 1) := by decide +kernel
theorem dX0_init_13 : decode cX0_init 13 = .ok (.bipush 40, 2) := by decide +kernel
theorem dX0_init_15 : decode cX0_init 15 = .ok (.newarray .int, 2) := by decide +kernel
theorem dX0_init_17 : decode cX0_init 17 = .ok (.putfield 15, 3) := by decide +kernel
theorem dX0_init_20 : decode cX0_init 20 = .ok (.aload_n 0, 1) := by decide +kernel
theorem dX0_init_21 : decode cX0_init 21 = .ok (.bipush 40, 2) := by decide +kernel
theorem dX0_init_23 : decode cX0_init 23 = .ok (.newarray .int, 2) := by decide +kernel
theorem dX0_init_25 : decode cX0_init 25 = .ok (.putfield 19, 3) := by decide +kernel
theorem dX0_init_28 : decode cX0_init 28 = .ok (.return_, 1) := by decide +kernel
set_option maxRecDepth 20000 in
theorem ggX0_setUp_X3_put : GoodIn wsX0_setUp wsX3_put := goodIn_r _ [11] (by decide +kernel) (by decide +kernel)
set_option maxRecDepth 20000 in
theorem gX0_setUp_X3_put : GoodIn wsX0_setUp (va_wsS RX0 35 yX3_put wsX3_put) := goodIn_app (goodIn_of _ (by decide +kernel)) ggX0_setUp_X3_put
set_option maxRecDepth 20000 in
theorem ggX0_setUp_X3_put_ : GoodIn wsX0_setUp wsX3_put_ := goodIn_r _ [14] (by decide +kernel) (by decide +kernel)
set_option maxRecDepth 20000 in
theorem gX0_setUp_X3_put_ : GoodIn wsX0_setUp (va_wsS RX0 41 yX3_put_ wsX3_put_) := goodIn_app (goodIn_of _ (by decide +kernel)) ggX0_setUp_X3_put_
set_option maxRecDepth 20000 in
theorem ggX0_setUp_X0_numberOf : GoodIn wsX0_setUp wsX0_numberOf := goodIn_r _ [19, 1, 2, 41, 42, 43, 44, 45, 46, 47] (by decide +kernel) (by decide +kernel)
set_option maxRecDepth 20000 in
theorem gX0_setUp_X0_numberOf : GoodIn wsX0_setUp (wsV RX0 44 RX0 yX0_numberOf wsX0_numberOf) := goodIn_app (goodIn_of _ (by decide +kernel)) ggX0_setUp_X0_numberOf
set_option maxRecDepth 20000 in
theorem ggX0_setUp_X0_addSide : GoodIn wsX0_setUp wsX0_addSide := goodIn_r _ [23, 7, 5, 6, 24, 25, 26, 18, 27, 28, 29, 10, 30, 31, 32, 33, 12, 13, 14, 34, 35, 36, 37, 38, 39, 40, 8, 9, 11, 41, 42, 43, 44, 45, 46, 47] (by decide +kernel) (by decide +kernel)
set_option maxRecDepth 20000 in
theorem gX0_setUp_X0_addSide : GoodIn wsX0_setUp (wsV RX0 48 RX0 yX0_addSide wsX0_addSide) := goodIn_app (goodIn_of _ (by decide +kernel)) ggX0_setUp_X0_addSide
theorem dX0_setUp_0 : decode cX0_setUp 0 = .ok (.aload_n 0, 1) := by decide +kernel
theorem dX0_setUp_1 : decode cX0_setUp 1 = .ok (.iload_n 1, 1) := by decide +kernel
theorem dX0_setUp_2 : decode cX0_setUp 2 = .ok (.putfield 22, 3) := by decide +kernel
theorem dX0_setUp_5 : decode cX0_setUp 5 = .ok (.aload_n 0, 1) := by decide +kernel
theorem dX0_setUp_6 : decode cX0_setUp 6 = .ok (.iload_n 2, 1) := by decide +kernel
theorem dX0_setUp_7 : decode cX0_setUp 7 = .ok (.putfield 26, 3) := by decide +kernel
theorem dX0_setUp_10 : decode cX0_setUp 10 = .ok (.aload_n 0, 1) := by decide +kernel
theorem dX0_setUp_11 : decode cX0_setUp 11 = .ok (.aload_n 0, 1) := by decide +kernel
theorem dX0_setUp_12 : decode cX0_setUp 12 = .ok (.getfield 22, 3) := by decide +kernel
theorem dX0_setUp_15 : decode cX0_setUp 15 = .ok (.aload_n 0, 1) := by decide +kernel
theorem dX0_setUp_16 : decode cX0_setUp 16 = .ok (.getfield 26, 3) := by decide +kernel
theorem dX0_setUp_19 : decode cX0_setUp 19 = .ok (.imul, 1) := by decide +kernel
theorem dX0_setUp_20 : decode cX0_setUp 20 = .ok (.putfield 29, 3) := by decide +kernel
theorem dX0_setUp_23 : decode cX0_setUp 23 = .ok (.aload_n 0, 1) := by decide +kernel
theorem dX0_setUp_24 : decode cX0_setUp 24 = .ok (.aload_n 0, 1) := by decide +kernel
theorem dX0_setUp_25 : decode cX0_setUp 25 = .ok (.getfield 22, 3) := by decide +kernel
theorem dX0_setUp_28 : decode cX0_setUp 28 = .ok (.aload_n 0, 1) := by decide +kernel
theorem dX0_setUp_29 : decode cX0_setUp 29 = .ok (.getfield 26, 3) := by decide +kernel
theorem dX0_setUp_32 : decode cX0_setUp 32 = .ok (.iconst 1, 1) := by decide +kernel
theorem dX0_setUp_33 : decode cX0_setUp 33 = .ok (.iadd, 1) := by decide +kernel
theorem dX0_setUp_34 : decode cX0_setUp 34 = .ok (.imul, 1) := by decide +kernel
theorem dX0_setUp_35 : decode cX0_setUp 35 = .ok (.aload_n 0, 1) := by decide +kernel
theorem dX0_setUp_36 : decode cX0_setUp 36 = .ok (.getfield 22, 3) := by decide +kernel
theorem dX0_setUp_39 : decode cX0_setUp 39 = .ok (.iconst 1, 1) := by decide +kernel
theorem dX0_setUp_40 : decode cX0_setUp 40 = .ok (.iadd, 1) := by decide +kernel
theorem dX0_setUp_41 : decode cX0_setUp 41 = .ok (.aload_n 0, 1) := by decide +kernel
theorem dX0_setUp_42 : decode cX0_setUp 42 = .ok (.getfield 26, 3) := by decide +kernel
theorem dX0_setUp_45 : decode cX0_setUp 45 = .ok (.imul, 1) := by decide +kernel
theorem dX0_setUp_46 : decode cX0_setUp 46 = .ok (.iadd, 1) := by decide +kernel
theorem dX0_setUp_47 : decode cX0_setUp 47 = .ok (.putfield 32, 3) := by decide +kernel
theorem dX0_setUp_50 : decode cX0_setUp 50 = .ok (.iconst 0, 1) := by decide +kernel
theorem dX0_setUp_51 : decode cX0_setUp 51 = .ok (.istore_n 3, 1) := by decide +kernel
theorem dX0_setUp_52 : decode cX0_setUp 52 = .ok (.iload_n 3, 1) := by decide +kernel
theorem dX0_setUp_53 : decode cX0_setUp 53 = .ok (.bipush 40, 2) := by decide +kernel
theorem dX0_setUp_55 : decode cX0_setUp 55 = .ok (.if_icmp .ge 27, 3) := by decide +kernel
theorem dX0_setUp_58 : decode cX0_setUp 58 = .ok (.aload_n 0, 1) := by decide +kernel
theorem dX0_setUp_59 : decode cX0_setUp 59 = .ok (.getfield 15, 3) := by decide +kernel
theorem dX0_setUp_62 : decode cX0_setUp 62 = .ok (.iload_n 3, 1) := by decide +kernel
theorem dX0_setUp_63 : decode cX0_setUp 63 = .ok (.iconst (-1), 1) := by decide +kernel
theorem dX0_setUp_64 : decode cX0_setUp 64 = .ok (.invokestatic 35, 3) := by decide +kernel
theorem dX0_setUp_67 : decode cX0_setUp 67 = .ok (.aload_n 0, 1) := by decide +kernel
theorem dX0_setUp_68 : decode cX0_setUp 68 = .ok (.getfield 19, 3) := by decide +kernel
theorem dX0_setUp_71 : decode cX0_setUp 71 = .ok (.iload_n 3, 1) := by decide +kernel
theorem dX0_setUp_72 : decode cX0_setUp 72 = .ok (.iconst (-1), 1) := by decide +kernel
theorem dX0_setUp_73 : decode cX0_setUp 73 = .ok (.invokestatic 35, 3) := by decide +kernel
theorem dX0_setUp_76 : decode cX0_setUp 76 = .ok (.iinc 3 1, 3) := by decide +kernel
theorem dX0_setUp_79 : decode cX0_setUp 79 = .ok (.goto (-27), 3) := by decide +kernel
theorem dX0_setUp_82 : decode cX0_setUp 82 = .ok (.iconst 0, 1) := by decide +kernel
theorem dX0_setUp_83 : decode cX0_setUp 83 = .ok (.istore_n 3, 1) := by decide +kernel
theorem dX0_setUp_84 : decode cX0_setUp 84 = .ok (.iload_n 3, 1) := by decide +kernel
theorem dX0_setUp_85 : decode cX0_setUp 85 = .ok (.aload_n 0, 1) := by decide +kernel
theorem dX0_setUp_86 : decode cX0_setUp 86 = .ok (.getfield 26, 3) := by decide +kernel
theorem dX0_setUp_89 : decode cX0_setUp 89 = .ok (.if_icmp .ge 108, 3) := by decide +kernel
theorem dX0_setUp_92 : decode cX0_setUp 92 = .ok (.iconst 0, 1) := by decide +kernel
theorem dX0_setUp_93 : decode cX0_setUp 93 = .ok (.istore 4, 2) := by decide +kernel
theorem dX0_setUp_95 : decode cX0_setUp 95 = .ok (.iload 4, 2) := by decide +kernel
theorem dX0_setUp_97 : decode cX0_setUp 97 = .ok (.aload_n 0, 1) := by decide +kernel
theorem dX0_setUp_98 : decode cX0_setUp 98 = .ok (.getfield 22, 3) := by decide +kernel
theorem dX0_setUp_101 : decode cX0_setUp 101 = .ok (.if_icmp .ge 90, 3) := by decide +kernel
theorem dX0_setUp_104 : decode cX0_setUp 104 = .ok (.iload_n 3, 1) := by decide +kernel
theorem dX0_setUp_105 : decode cX0_setUp 105 = .ok (.aload_n 0, 1) := by decide +kernel
theorem dX0_setUp_106 : decode cX0_setUp 106 = .ok (.getfield 22, 3) := by decide +kernel
theorem dX0_setUp_109 : decode cX0_setUp 109 = .ok (.imul, 1) := by decide +kernel
theorem dX0_setUp_110 : decode cX0_setUp 110 = .ok (.iload 4, 2) := by decide +kernel
theorem dX0_setUp_112 : decode cX0_setUp 112 = .ok (.iadd, 1) := by decide +kernel
theorem dX0_setUp_113 : decode cX0_setUp 113 = .ok (.istore 5, 2) := by decide +kernel
theorem dX0_setUp_115 : decode cX0_setUp 115 = .ok (.aload_n 0, 1) := by decide +kernel
theorem dX0_setUp_116 : decode cX0_setUp 116 = .ok (.getfield 9, 3) := by decide +kernel
theorem dX0_setUp_119 : decode cX0_setUp 119 = .ok (.iload 5, 2) := by decide +kernel
theorem dX0_setUp_121 : decode cX0_setUp 121 = .ok (.lconst 0, 1) := by decide +kernel
theorem dX0_setUp_122 : decode cX0_setUp 122 = .ok (.invokestatic 41, 3) := by decide +kernel
theorem dX0_setUp_125 : decode cX0_setUp 125 = .ok (.aload_n 0, 1) := by decide +kernel
theorem dX0_setUp_126 : decode cX0_setUp 126 = .ok (.iload 5, 2) := by decide +kernel
theorem dX0_setUp_128 : decode cX0_setUp 128 = .ok (.aload_n 0, 1) := by decide +kernel
theorem dX0_setUp_129 : decode cX0_setUp 129 = .ok (.iconst 0, 1) := by decide +kernel
theorem dX0_setUp_130 : decode cX0_setUp 130 = .ok (.iload 4, 2) := by decide +kernel
theorem dX0_setUp_132 : decode cX0_setUp 132 = .ok (.iload_n 3, 1) := by decide +kernel
theorem dX0_setUp_133 : decode cX0_setUp 133 = .ok (.invokevirtual 44, 3) := by decide +kernel
theorem dX0_setUp_136 : decode cX0_setUp 136 = .ok (.invokevirtual 48, 3) := by decide +kernel
theorem dX0_setUp_139 : decode cX0_setUp 139 = .ok (.aload_n 0, 1) := by decide +kernel
theorem dX0_setUp_140 : decode cX0_setUp 140 = .ok (.iload 5, 2) := by decide +kernel
theorem dX0_setUp_142 : decode cX0_setUp 142 = .ok (.aload_n 0, 1) := by decide +kernel
theorem dX0_setUp_143 : decode cX0_setUp 143 = .ok (.iconst 0, 1) := by decide +kernel
theorem dX0_setUp_144 : decode cX0_setUp 144 = .ok (.iload 4, 2) := by decide +kernel
theorem dX0_setUp_146 : decode cX0_setUp 146 = .ok (.iload_n 3, 1) := by decide +kernel
theorem dX0_setUp_147 : decode cX0_setUp 147 = .ok (.iconst 1, 1) := by decide +kernel
theorem dX0_setUp_148 : decode cX0_setUp 148 = .ok (.iadd, 1) := by decide +kernel
theorem dX0_setUp_149 : decode cX0_setUp 149 = .ok (.invokevirtual 44, 3) := by decide +kernel
theorem dX0_setUp_152 : decode cX0_setUp 152 = .ok (.invokevirtual 48, 3) := by decide +kernel
theorem dX0_setUp_155 : decode cX0_setUp 155 = .ok (.aload_n 0, 1) := by decide +kernel
theorem dX0_setUp_156 : decode cX0_setUp 156 = .ok (.iload 5, 2) := by decide +kernel
theorem dX0_setUp_158 : decode cX0_setUp 158 = .ok (.aload_n 0, 1) := by decide +kernel
theorem dX0_setUp_159 : decode cX0_setUp 159 = .ok (.iconst 1, 1) := by decide +kernel
theorem dX0_setUp_160 : decode cX0_setUp 160 = .ok (.iload 4, 2) := by decide +kernel
theorem dX0_setUp_162 : decode cX0_setUp 162 = .ok (.iload_n 3, 1) := by decide +kernel
theorem dX0_setUp_163 : decode cX0_setUp 163 = .ok (.invokevirtual 44, 3) := by decide +kernel
theorem dX0_setUp_166 : decode cX0_setUp 166 = .ok (.invokevirtual 48, 3) := by decide +kernel
theorem dX0_setUp_169 : decode cX0_setUp 169 = .ok (.aload_n 0, 1) := by decide +kernel
theorem dX0_setUp_170 : decode cX0_setUp 170 = .ok (.iload 5, 2) := by decide +kernel
theorem dX0_setUp_172 : decode cX0_setUp 172 = .ok (.aload_n 0, 1) := by decide +kernel
theorem dX0_setUp_173 : decode cX0_setUp 173 = .ok (.iconst 1, 1) := by decide +kernel
theorem dX0_setUp_174 : decode cX0_setUp 174 = .ok (.iload 4, 2) := by decide +kernel
theorem dX0_setUp_176 : decode cX0_setUp 176 = .ok (.iconst 1, 1) := by decide +kernel
theorem dX0_setUp_177 : decode cX0_setUp 177 = .ok (.iadd, 1) := by decide +kernel
theorem dX0_setUp_178 : decode cX0_setUp 178 = .ok (.iload_n 3, 1) := by decide +kernel
theorem dX0_setUp_179 : decode cX0_setUp 179 = .ok (.invokevirtual 44, 3) := by decide +kernel
theorem dX0_setUp_182 : decode cX0_setUp 182 = .ok (.invokevirtual 48, 3) := by decide +kernel
theorem dX0_setUp_185 : decode cX0_setUp 185 = .ok (.iinc 4 1, 3) := by decide +kernel
theorem dX0_setUp_188 : decode cX0_setUp 188 = .ok (.goto (-93), 3) := by decide +kernel
theorem dX0_setUp_191 : decode cX0_setUp 191 = .ok (.iinc 3 1, 3) := by decide +kernel
theorem dX0_setUp_194 : decode cX0_setUp 194 = .ok (.goto (-110), 3) := by decide +kernel
theorem dX0_setUp_197 : decode cX0_setUp 197 = .ok (.return_, 1) := by decide +kernel
set_option maxRecDepth 20000 in
theorem ggX0_addSide_X0_sidesOf : GoodIn wsX0_addSide wsX0_sidesOf := goodIn_r _ [8, 1, 9, 10, 11, 12, 29, 30, 31, 32, 33, 34, 35] (by decide +kernel) (by decide +kernel)
set_option maxRecDepth 20000 in
theorem gX0_addSide_X0_sidesOf : GoodIn wsX0_addSide (wsV RX0 52 RX0 yX0_sidesOf wsX0_sidesOf) := goodIn_app (goodIn_of _ (by decide +kernel)) ggX0_addSide_X0_sidesOf
set_option maxRecDepth 20000 in
theorem ggX0_addSide_X8_bit : GoodIn wsX0_addSide wsX8_bit := goodIn_r _ [15] (by decide +kernel) (by decide +kernel)
set_option maxRecDepth 20000 in
theorem gX0_addSide_X8_bit_n56 : GoodIn wsX0_addSide (wsX8_bit) := ggX0_addSide_X8_bit
set_option maxRecDepth 20000 in
theorem ggX0_addSide_X3_put_ : GoodIn wsX0_addSide wsX3_put_ := goodIn_r _ [18] (by decide +kernel) (by decide +kernel)
set_option maxRecDepth 20000 in
theorem gX0_addSide_X3_put_ : GoodIn wsX0_addSide (va_wsS RX0 41 yX3_put_ wsX3_put_) := goodIn_app (goodIn_of _ (by decide +kernel)) ggX0_addSide_X3_put_
set_option maxRecDepth 20000 in
theorem ggX0_addSide_X0_firstBox : GoodIn wsX0_addSide wsX0_firstBox := goodIn_r _ [22, 2, 23, 24, 11, 25, 29, 30, 31, 32, 33, 34, 35] (by decide +kernel) (by decide +kernel)
set_option maxRecDepth 20000 in
theorem gX0_addSide_X0_firstBox : GoodIn wsX0_addSide (wsV RX0 59 RX0 yX0_firstBox wsX0_firstBox) := goodIn_app (goodIn_of _ (by decide +kernel)) ggX0_addSide_X0_firstBox
set_option maxRecDepth 20000 in
theorem ggX0_addSide_X3_put : GoodIn wsX0_addSide wsX3_put := goodIn_r _ [28] (by decide +kernel) (by decide +kernel)
set_option maxRecDepth 20000 in
theorem gX0_addSide_X3_put : GoodIn wsX0_addSide (va_wsS RX0 35 yX3_put wsX3_put) := goodIn_app (goodIn_of _ (by decide +kernel)) ggX0_addSide_X3_put
theorem dX0_addSide_0 : decode cX0_addSide 0 = .ok (.aload_n 0, 1) := by decide +kernel
theorem dX0_addSide_1 : decode cX0_addSide 1 = .ok (.getfield 9, 3) := by decide +kernel
theorem dX0_addSide_4 : decode cX0_addSide 4 = .ok (.iload_n 1, 1) := by decide +kernel
theorem dX0_addSide_5 : decode cX0_addSide 5 = .ok (.aload_n 0, 1) := by decide +kernel
theorem dX0_addSide_6 : decode cX0_addSide 6 = .ok (.iload_n 1, 1) := by decide +kernel
theorem dX0_addSide_7 : decode cX0_addSide 7 = .ok (.invokevirtual 52, 3) := by decide +kernel
theorem dX0_addSide_10 : decode cX0_addSide 10 = .ok (.iload_n 2, 1) := by decide +kernel
theorem dX0_addSide_11 : decode cX0_addSide 11 = .ok (.invokestatic 56, 3) := by decide +kernel
theorem dX0_addSide_14 : decode cX0_addSide 14 = .ok (.lor, 1) := by decide +kernel
theorem dX0_addSide_15 : decode cX0_addSide 15 = .ok (.invokestatic 41, 3) := by decide +kernel
theorem dX0_addSide_18 : decode cX0_addSide 18 = .ok (.aload_n 0, 1) := by decide +kernel
theorem dX0_addSide_19 : decode cX0_addSide 19 = .ok (.iload_n 2, 1) := by decide +kernel
theorem dX0_addSide_20 : decode cX0_addSide 20 = .ok (.invokevirtual 59, 3) := by decide +kernel
theorem dX0_addSide_23 : decode cX0_addSide 23 = .ok (.iconst (-1), 1) := by decide +kernel
theorem dX0_addSide_24 : decode cX0_addSide 24 = .ok (.if_icmp .ne 15, 3) := by decide +kernel
theorem dX0_addSide_27 : decode cX0_addSide 27 = .ok (.aload_n 0, 1) := by decide +kernel
theorem dX0_addSide_28 : decode cX0_addSide 28 = .ok (.getfield 15, 3) := by decide +kernel
theorem dX0_addSide_31 : decode cX0_addSide 31 = .ok (.iload_n 2, 1) := by decide +kernel
theorem dX0_addSide_32 : decode cX0_addSide 32 = .ok (.iload_n 1, 1) := by decide +kernel
theorem dX0_addSide_33 : decode cX0_addSide 33 = .ok (.invokestatic 35, 3) := by decide +kernel
theorem dX0_addSide_36 : decode cX0_addSide 36 = .ok (.goto 12, 3) := by decide +kernel
theorem dX0_addSide_39 : decode cX0_addSide 39 = .ok (.aload_n 0, 1) := by decide +kernel
theorem dX0_addSide_40 : decode cX0_addSide 40 = .ok (.getfield 19, 3) := by decide +kernel
theorem dX0_addSide_43 : decode cX0_addSide 43 = .ok (.iload_n 2, 1) := by decide +kernel
theorem dX0_addSide_44 : decode cX0_addSide 44 = .ok (.iload_n 1, 1) := by decide +kernel
theorem dX0_addSide_45 : decode cX0_addSide 45 = .ok (.invokestatic 35, 3) := by decide +kernel
theorem dX0_addSide_48 : decode cX0_addSide 48 = .ok (.return_, 1) := by decide +kernel
theorem dX0_numberOf_0 : decode cX0_numberOf 0 = .ok (.iload_n 1, 1) := by decide +kernel
theorem dX0_numberOf_1 : decode cX0_numberOf 1 = .ok (.ifCond .eq 12, 3) := by decide +kernel
theorem dX0_numberOf_4 : decode cX0_numberOf 4 = .ok (.aload_n 0, 1) := by decide +kernel
theorem dX0_numberOf_5 : decode cX0_numberOf 5 = .ok (.getfield 22, 3) := by decide +kernel
theorem dX0_numberOf_8 : decode cX0_numberOf 8 = .ok (.iconst 1, 1) := by decide +kernel
theorem dX0_numberOf_9 : decode cX0_numberOf 9 = .ok (.iadd, 1) := by decide +kernel
theorem dX0_numberOf_10 : decode cX0_numberOf 10 = .ok (.goto 7, 3) := by decide +kernel
theorem dX0_numberOf_13 : decode cX0_numberOf 13 = .ok (.aload_n 0, 1) := by decide +kernel
theorem dX0_numberOf_14 : decode cX0_numberOf 14 = .ok (.getfield 22, 3) := by decide +kernel
theorem dX0_numberOf_17 : decode cX0_numberOf 17 = .ok (.istore 4, 2) := by decide +kernel
theorem dX0_numberOf_19 : decode cX0_numberOf 19 = .ok (.iload_n 1, 1) := by decide +kernel
theorem dX0_numberOf_20 : decode cX0_numberOf 20 = .ok (.ifCond .eq 10, 3) := by decide +kernel
theorem dX0_numberOf_23 : decode cX0_numberOf 23 = .ok (.aload_n 0, 1) := by decide +kernel
theorem dX0_numberOf_24 : decode cX0_numberOf 24 = .ok (.getfield 26, 3) := by decide +kernel
theorem dX0_numberOf_27 : decode cX0_numberOf 27 = .ok (.goto 9, 3) := by decide +kernel
theorem dX0_numberOf_30 : decode cX0_numberOf 30 = .ok (.aload_n 0, 1) := by decide +kernel
theorem dX0_numberOf_31 : decode cX0_numberOf 31 = .ok (.getfield 26, 3) := by decide +kernel
theorem dX0_numberOf_34 : decode cX0_numberOf 34 = .ok (.iconst 1, 1) := by decide +kernel
theorem dX0_numberOf_35 : decode cX0_numberOf 35 = .ok (.iadd, 1) := by decide +kernel
theorem dX0_numberOf_36 : decode cX0_numberOf 36 = .ok (.istore 5, 2) := by decide +kernel
theorem dX0_numberOf_38 : decode cX0_numberOf 38 = .ok (.iload_n 2, 1) := by decide +kernel
theorem dX0_numberOf_39 : decode cX0_numberOf 39 = .ok (.ifCond .lt 19, 3) := by decide +kernel
theorem dX0_numberOf_42 : decode cX0_numberOf 42 = .ok (.iload_n 2, 1) := by decide +kernel
theorem dX0_numberOf_43 : decode cX0_numberOf 43 = .ok (.iload 4, 2) := by decide +kernel
theorem dX0_numberOf_45 : decode cX0_numberOf 45 = .ok (.if_icmp .ge 13, 3) := by decide +kernel
theorem dX0_numberOf_48 : decode cX0_numberOf 48 = .ok (.iload_n 3, 1) := by decide +kernel
theorem dX0_numberOf_49 : decode cX0_numberOf 49 = .ok (.ifCond .lt 9, 3) := by decide +kernel
theorem dX0_numberOf_52 : decode cX0_numberOf 52 = .ok (.iload_n 3, 1) := by decide +kernel
theorem dX0_numberOf_53 : decode cX0_numberOf 53 = .ok (.iload 5, 2) := by decide +kernel
theorem dX0_numberOf_55 : decode cX0_numberOf 55 = .ok (.if_icmp .lt 5, 3) := by decide +kernel
theorem dX0_numberOf_58 : decode cX0_numberOf 58 = .ok (.iconst (-1), 1) := by decide +kernel
theorem dX0_numberOf_59 : decode cX0_numberOf 59 = .ok (.ireturn, 1) := by decide +kernel
theorem dX0_numberOf_60 : decode cX0_numberOf 60 = .ok (.iload_n 1, 1) := by decide +kernel
theorem dX0_numberOf_61 : decode cX0_numberOf 61 = .ok (.ifCond .eq 17, 3) := by decide +kernel
theorem dX0_numberOf_64 : decode cX0_numberOf 64 = .ok (.aload_n 0, 1) := by decide +kernel
theorem dX0_numberOf_65 : decode cX0_numberOf 65 = .ok (.getfield 22, 3) := by decide +kernel
theorem dX0_numberOf_68 : decode cX0_numberOf 68 = .ok (.aload_n 0, 1) := by decide +kernel
theorem dX0_numberOf_69 : decode cX0_numberOf 69 = .ok (.getfield 26, 3) := by decide +kernel
theorem dX0_numberOf_72 : decode cX0_numberOf 72 = .ok (.iconst 1, 1) := by decide +kernel
theorem dX0_numberOf_73 : decode cX0_numberOf 73 = .ok (.iadd, 1) := by decide +kernel
theorem dX0_numberOf_74 : decode cX0_numberOf 74 = .ok (.imul, 1) := by decide +kernel
theorem dX0_numberOf_75 : decode cX0_numberOf 75 = .ok (.goto 4, 3) := by decide +kernel
theorem dX0_numberOf_78 : decode cX0_numberOf 78 = .ok (.iconst 0, 1) := by decide +kernel
theorem dX0_numberOf_79 : decode cX0_numberOf 79 = .ok (.istore 6, 2) := by decide +kernel
theorem dX0_numberOf_81 : decode cX0_numberOf 81 = .ok (.iload 6, 2) := by decide +kernel
theorem dX0_numberOf_83 : decode cX0_numberOf 83 = .ok (.iload_n 3, 1) := by decide +kernel
theorem dX0_numberOf_84 : decode cX0_numberOf 84 = .ok (.iload 4, 2) := by decide +kernel
theorem dX0_numberOf_86 : decode cX0_numberOf 86 = .ok (.imul, 1) := by decide +kernel
theorem dX0_numberOf_87 : decode cX0_numberOf 87 = .ok (.iadd, 1) := by decide +kernel
theorem dX0_numberOf_88 : decode cX0_numberOf 88 = .ok (.iload_n 2, 1) := by decide +kernel
theorem dX0_numberOf_89 : decode cX0_numberOf 89 = .ok (.iadd, 1) := by decide +kernel
theorem dX0_numberOf_90 : decode cX0_numberOf 90 = .ok (.ireturn, 1) := by decide +kernel
theorem dX0_hasLine_0 : decode cX0_hasLine 0 = .ok (.iload_n 1, 1) := by decide +kernel
theorem dX0_hasLine_1 : decode cX0_hasLine 1 = .ok (.ifCond .lt 15, 3) := by decide +kernel
theorem dX0_hasLine_4 : decode cX0_hasLine 4 = .ok (.iload_n 1, 1) := by decide +kernel
theorem dX0_hasLine_5 : decode cX0_hasLine 5 = .ok (.aload_n 0, 1) := by decide +kernel
theorem dX0_hasLine_6 : decode cX0_hasLine 6 = .ok (.getfield 32, 3) := by decide +kernel
theorem dX0_hasLine_9 : decode cX0_hasLine 9 = .ok (.if_icmp .ge 7, 3) := by decide +kernel
theorem dX0_hasLine_12 : decode cX0_hasLine 12 = .ok (.iconst 1, 1) := by decide +kernel
theorem dX0_hasLine_13 : decode cX0_hasLine 13 = .ok (.goto 4, 3) := by decide +kernel
theorem dX0_hasLine_16 : decode cX0_hasLine 16 = .ok (.iconst 0, 1) := by decide +kernel
theorem dX0_hasLine_17 : decode cX0_hasLine 17 = .ok (.ireturn, 1) := by decide +kernel
theorem dX0_hasBox_0 : decode cX0_hasBox 0 = .ok (.iload_n 1, 1) := by decide +kernel
theorem dX0_hasBox_1 : decode cX0_hasBox 1 = .ok (.ifCond .lt 15, 3) := by decide +kernel
theorem dX0_hasBox_4 : decode cX0_hasBox 4 = .ok (.iload_n 1, 1) := by decide +kernel
theorem dX0_hasBox_5 : decode cX0_hasBox 5 = .ok (.aload_n 0, 1) := by decide +kernel
theorem dX0_hasBox_6 : decode cX0_hasBox 6 = .ok (.getfield 29, 3) := by decide +kernel
theorem dX0_hasBox_9 : decode cX0_hasBox 9 = .ok (.if_icmp .ge 7, 3) := by decide +kernel
theorem dX0_hasBox_12 : decode cX0_hasBox 12 = .ok (.iconst 1, 1) := by decide +kernel
theorem dX0_hasBox_13 : decode cX0_hasBox 13 = .ok (.goto 4, 3) := by decide +kernel
theorem dX0_hasBox_16 : decode cX0_hasBox 16 = .ok (.iconst 0, 1) := by decide +kernel
theorem dX0_hasBox_17 : decode cX0_hasBox 17 = .ok (.ireturn, 1) := by decide +kernel
theorem dX0_cornerCount_0 : decode cX0_cornerCount 0 = .ok (.aload_n 0, 1) := by decide +kernel
theorem dX0_cornerCount_1 : decode cX0_cornerCount 1 = .ok (.getfield 22, 3) := by decide +kernel
theorem dX0_cornerCount_4 : decode cX0_cornerCount 4 = .ok (.iconst 1, 1) := by decide +kernel
theorem dX0_cornerCount_5 : decode cX0_cornerCount 5 = .ok (.iadd, 1) := by decide +kernel
theorem dX0_cornerCount_6 : decode cX0_cornerCount 6 = .ok (.aload_n 0, 1) := by decide +kernel
theorem dX0_cornerCount_7 : decode cX0_cornerCount 7 = .ok (.getfield 26, 3) := by decide +kernel
theorem dX0_cornerCount_10 : decode cX0_cornerCount 10 = .ok (.iconst 1, 1) := by decide +kernel
theorem dX0_cornerCount_11 : decode cX0_cornerCount 11 = .ok (.iadd, 1) := by decide +kernel
theorem dX0_cornerCount_12 : decode cX0_cornerCount 12 = .ok (.imul, 1) := by decide +kernel
theorem dX0_cornerCount_13 : decode cX0_cornerCount 13 = .ok (.ireturn, 1) := by decide +kernel
set_option maxRecDepth 20000 in
theorem ggX0_firstBox_X3_at : GoodIn wsX0_firstBox wsX3_at := goodIn_r _ [5] (by decide +kernel) (by decide +kernel)
set_option maxRecDepth 20000 in
theorem gX0_firstBox_X3_at : GoodIn wsX0_firstBox (va_wsS RX0 63 yX3_at wsX3_at) := goodIn_app (goodIn_of _ (by decide +kernel)) ggX0_firstBox_X3_at
theorem dX0_firstBox_0 : decode cX0_firstBox 0 = .ok (.aload_n 0, 1) := by decide +kernel
theorem dX0_firstBox_1 : decode cX0_firstBox 1 = .ok (.getfield 15, 3) := by decide +kernel
theorem dX0_firstBox_4 : decode cX0_firstBox 4 = .ok (.iload_n 1, 1) := by decide +kernel
theorem dX0_firstBox_5 : decode cX0_firstBox 5 = .ok (.invokestatic 63, 3) := by decide +kernel
theorem dX0_firstBox_8 : decode cX0_firstBox 8 = .ok (.ireturn, 1) := by decide +kernel
set_option maxRecDepth 20000 in
theorem ggX0_secondBox_X3_at : GoodIn wsX0_secondBox wsX3_at := goodIn_r _ [5] (by decide +kernel) (by decide +kernel)
set_option maxRecDepth 20000 in
theorem gX0_secondBox_X3_at : GoodIn wsX0_secondBox (va_wsS RX0 63 yX3_at wsX3_at) := goodIn_app (goodIn_of _ (by decide +kernel)) ggX0_secondBox_X3_at
theorem dX0_secondBox_0 : decode cX0_secondBox 0 = .ok (.aload_n 0, 1) := by decide +kernel
theorem dX0_secondBox_1 : decode cX0_secondBox 1 = .ok (.getfield 19, 3) := by decide +kernel
theorem dX0_secondBox_4 : decode cX0_secondBox 4 = .ok (.iload_n 1, 1) := by decide +kernel
theorem dX0_secondBox_5 : decode cX0_secondBox 5 = .ok (.invokestatic 63, 3) := by decide +kernel
theorem dX0_secondBox_8 : decode cX0_secondBox 8 = .ok (.ireturn, 1) := by decide +kernel
set_option maxRecDepth 20000 in
theorem ggX0_sidesOf_X3_at_ : GoodIn wsX0_sidesOf wsX3_at_ := goodIn_r _ [5] (by decide +kernel) (by decide +kernel)
set_option maxRecDepth 20000 in
theorem gX0_sidesOf_X3_at_ : GoodIn wsX0_sidesOf (va_wsS RX0 67 yX3_at_ wsX3_at_) := goodIn_app (goodIn_of _ (by decide +kernel)) ggX0_sidesOf_X3_at_
theorem dX0_sidesOf_0 : decode cX0_sidesOf 0 = .ok (.aload_n 0, 1) := by decide +kernel
theorem dX0_sidesOf_1 : decode cX0_sidesOf 1 = .ok (.getfield 9, 3) := by decide +kernel
theorem dX0_sidesOf_4 : decode cX0_sidesOf 4 = .ok (.iload_n 1, 1) := by decide +kernel
theorem dX0_sidesOf_5 : decode cX0_sidesOf 5 = .ok (.invokestatic 67, 3) := by decide +kernel
theorem dX0_sidesOf_8 : decode cX0_sidesOf 8 = .ok (.lreturn, 1) := by decide +kernel
set_option maxRecDepth 20000 in
theorem ggX0_openAround_X3_at_ : GoodIn wsX0_openAround wsX3_at_ := goodIn_r _ [6] (by decide +kernel) (by decide +kernel)
set_option maxRecDepth 20000 in
theorem gX0_openAround_X3_at_ : GoodIn wsX0_openAround (va_wsS RX0 67 yX3_at_ wsX3_at_) := goodIn_app (goodIn_of _ (by decide +kernel)) ggX0_openAround_X3_at_
theorem dX0_openAround_0 : decode cX0_openAround 0 = .ok (.aload_n 0, 1) := by decide +kernel
theorem dX0_openAround_1 : decode cX0_openAround 1 = .ok (.getfield 9, 3) := by decide +kernel
theorem dX0_openAround_4 : decode cX0_openAround 4 = .ok (.iload_n 3, 1) := by decide +kernel
theorem dX0_openAround_5 : decode cX0_openAround 5 = .ok (.invokestatic 67, 3) := by decide +kernel
theorem dX0_openAround_8 : decode cX0_openAround 8 = .ok (.lload_n 1, 1) := by decide +kernel
theorem dX0_openAround_9 : decode cX0_openAround 9 = .ok (.ldc2_w 70, 3) := by decide +kernel
theorem dX0_openAround_12 : decode cX0_openAround 12 = .ok (.lxor, 1) := by decide +kernel
theorem dX0_openAround_13 : decode cX0_openAround 13 = .ok (.land, 1) := by decide +kernel
theorem dX0_openAround_14 : decode cX0_openAround 14 = .ok (.lreturn, 1) := by decide +kernel
set_option maxRecDepth 20000 in
theorem ggX0_isComplete_X0_hasBox : GoodIn wsX0_isComplete wsX0_hasBox := goodIn_r _ [5, 6, 17, 18, 19, 20, 21, 22, 23] (by decide +kernel) (by decide +kernel)
set_option maxRecDepth 20000 in
theorem gX0_isComplete_X0_hasBox : GoodIn wsX0_isComplete (wsV RX0 72 RX0 yX0_hasBox wsX0_hasBox) := goodIn_app (goodIn_of _ (by decide +kernel)) ggX0_isComplete_X0_hasBox
set_option maxRecDepth 20000 in
theorem ggX0_isComplete_X0_openAround : GoodIn wsX0_isComplete wsX0_openAround := goodIn_r _ [10, 11, 12, 13, 14, 15, 16, 17, 18, 19, 20, 21, 22, 23] (by decide +kernel) (by decide +kernel)
set_option maxRecDepth 20000 in
theorem gX0_isComplete_X0_openAround : GoodIn wsX0_isComplete (wsV RX0 76 RX0 yX0_openAround wsX0_openAround) := goodIn_app (goodIn_of _ (by decide +kernel)) ggX0_isComplete_X0_openAround
theorem dX0_isComplete_0 : decode cX0_isComplete 0 = .ok (.aload_n 0, 1) := by decide +kernel
theorem dX0_isComplete_1 : decode cX0_isComplete 1 = .ok (.iload_n 3, 1) := by decide +kernel
theorem dX0_isComplete_2 : decode cX0_isComplete 2 = .ok (.invokevirtual 72, 3) := by decide +kernel
theorem dX0_isComplete_5 : decode cX0_isComplete 5 = .ok (.ifCond .eq 18, 3) := by decide +kernel
theorem dX0_isComplete_8 : decode cX0_isComplete 8 = .ok (.aload_n 0, 1) := by decide +kernel
theorem dX0_isComplete_9 : decode cX0_isComplete 9 = .ok (.lload_n 1, 1) := by decide +kernel
theorem dX0_isComplete_10 : decode cX0_isComplete 10 = .ok (.iload_n 3, 1) := by decide +kernel
theorem dX0_isComplete_11 : decode cX0_isComplete 11 = .ok (.invokevirtual 76, 3) := by decide +kernel
theorem dX0_isComplete_14 : decode cX0_isComplete 14 = .ok (.lconst 0, 1) := by decide +kernel
theorem dX0_isComplete_15 : decode cX0_isComplete 15 = .ok (.lcmp, 1) := by decide +kernel
theorem dX0_isComplete_16 : decode cX0_isComplete 16 = .ok (.ifCond .ne 7, 3) := by decide +kernel
theorem dX0_isComplete_19 : decode cX0_isComplete 19 = .ok (.iconst 1, 1) := by decide +kernel
theorem dX0_isComplete_20 : decode cX0_isComplete 20 = .ok (.goto 4, 3) := by decide +kernel
theorem dX0_isComplete_23 : decode cX0_isComplete 23 = .ok (.iconst 0, 1) := by decide +kernel
theorem dX0_isComplete_24 : decode cX0_isComplete 24 = .ok (.ireturn, 1) := by decide +kernel
set_option maxRecDepth 20000 in
theorem ggX0_openLines_X8_bit : GoodIn wsX0_openLines wsX8_bit := goodIn_r _ [5] (by decide +kernel) (by decide +kernel)
set_option maxRecDepth 20000 in
theorem gX0_openLines_X8_bit_n56 : GoodIn wsX0_openLines (wsX8_bit) := ggX0_openLines_X8_bit
theorem dX0_openLines_0 : decode cX0_openLines 0 = .ok (.aload_n 0, 1) := by decide +kernel
theorem dX0_openLines_1 : decode cX0_openLines 1 = .ok (.getfield 32, 3) := by decide +kernel
theorem dX0_openLines_4 : decode cX0_openLines 4 = .ok (.invokestatic 56, 3) := by decide +kernel
theorem dX0_openLines_7 : decode cX0_openLines 7 = .ok (.lconst 1, 1) := by decide +kernel
theorem dX0_openLines_8 : decode cX0_openLines 8 = .ok (.lsub, 1) := by decide +kernel
theorem dX0_openLines_9 : decode cX0_openLines 9 = .ok (.lload_n 1, 1) := by decide +kernel
theorem dX0_openLines_10 : decode cX0_openLines 10 = .ok (.ldc2_w 70, 3) := by decide +kernel
theorem dX0_openLines_13 : decode cX0_openLines 13 = .ok (.lxor, 1) := by decide +kernel
theorem dX0_openLines_14 : decode cX0_openLines 14 = .ok (.land, 1) := by decide +kernel
theorem dX0_openLines_15 : decode cX0_openLines 15 = .ok (.lreturn, 1) := by decide +kernel
set_option maxRecDepth 20000 in
theorem ggX0_completeBoxes_X0_openAround : GoodIn wsX0_completeBoxes wsX0_openAround := goodIn_r _ [6, 7, 8, 9, 10, 11, 12, 13, 14, 15, 16, 17, 18, 19] (by decide +kernel) (by decide +kernel)
set_option maxRecDepth 20000 in
theorem gX0_completeBoxes_X0_openAround : GoodIn wsX0_completeBoxes (wsV RX0 76 RX0 yX0_openAround wsX0_openAround) := goodIn_app (goodIn_of _ (by decide +kernel)) ggX0_completeBoxes_X0_openAround
theorem dX0_completeBoxes_0 : decode cX0_completeBoxes 0 = .ok (.iconst 0, 1) := by decide +kernel
theorem dX0_completeBoxes_1 : decode cX0_completeBoxes 1 = .ok (.istore_n 3, 1) := by decide +kernel
theorem dX0_completeBoxes_2 : decode cX0_completeBoxes 2 = .ok (.iconst 0, 1) := by decide +kernel
theorem dX0_completeBoxes_3 : decode cX0_completeBoxes 3 = .ok (.istore 4, 2) := by decide +kernel
theorem dX0_completeBoxes_5 : decode cX0_completeBoxes 5 = .ok (.iload 4, 2) := by decide +kernel
theorem dX0_completeBoxes_7 : decode cX0_completeBoxes 7 = .ok (.aload_n 0, 1) := by decide +kernel
theorem dX0_completeBoxes_8 : decode cX0_completeBoxes 8 = .ok (.getfield 29, 3) := by decide +kernel
theorem dX0_completeBoxes_11 : decode cX0_completeBoxes 11 = .ok (.if_icmp .ge 24, 3) := by decide +kernel
theorem dX0_completeBoxes_14 : decode cX0_completeBoxes 14 = .ok (.aload_n 0, 1) := by decide +kernel
theorem dX0_completeBoxes_15 : decode cX0_completeBoxes 15 = .ok (.lload_n 1, 1) := by decide +kernel
theorem dX0_completeBoxes_16 : decode cX0_completeBoxes 16 = .ok (.iload 4, 2) := by decide +kernel
theorem dX0_completeBoxes_18 : decode cX0_completeBoxes 18 = .ok (.invokevirtual 76, 3) := by decide +kernel
theorem dX0_completeBoxes_21 : decode cX0_completeBoxes 21 = .ok (.lconst 0, 1) := by decide +kernel
theorem dX0_completeBoxes_22 : decode cX0_completeBoxes 22 = .ok (.lcmp, 1) := by decide +kernel
theorem dX0_completeBoxes_23 : decode cX0_completeBoxes 23 = .ok (.ifCond .ne 6, 3) := by decide +kernel
theorem dX0_completeBoxes_26 : decode cX0_completeBoxes 26 = .ok (.iinc 3 1, 3) := by decide +kernel
theorem dX0_completeBoxes_29 : decode cX0_completeBoxes 29 = .ok (.iinc 4 1, 3) := by decide +kernel
theorem dX0_completeBoxes_32 : decode cX0_completeBoxes 32 = .ok (.goto (-27), 3) := by decide +kernel
theorem dX0_completeBoxes_35 : decode cX0_completeBoxes 35 = .ok (.iload_n 3, 1) := by decide +kernel
theorem dX0_completeBoxes_36 : decode cX0_completeBoxes 36 = .ok (.ireturn, 1) := by decide +kernel
set_option maxRecDepth 20000 in
theorem ggX0_openAroundBoxesWith_X0_openAround : GoodIn wsX0_openAroundBoxesWith wsX0_openAround := goodIn_r _ [6, 7, 8, 9, 10, 11, 12, 20, 21, 22, 23, 24, 25, 26] (by decide +kernel) (by decide +kernel)
set_option maxRecDepth 20000 in
theorem gX0_openAroundBoxesWith_X0_openAround : GoodIn wsX0_openAroundBoxesWith (wsV RX0 76 RX0 yX0_openAround wsX0_openAround) := goodIn_app (goodIn_of _ (by decide +kernel)) ggX0_openAroundBoxesWith_X0_openAround
set_option maxRecDepth 20000 in
theorem ggX0_openAroundBoxesWith_J13_bitCount_95d88 : GoodIn wsX0_openAroundBoxesWith wsJ13_bitCount_95d88 := goodIn_r _ [16, 17, 18, 19] (by decide +kernel) (by decide +kernel)
set_option maxRecDepth 20000 in
theorem gX0_openAroundBoxesWith_J13_bitCount_95d88 : GoodIn wsX0_openAroundBoxesWith (va_wsS RX0 80 yJ13_bitCount_95d88 wsJ13_bitCount_95d88) := goodIn_app (goodIn_of _ (by decide +kernel)) ggX0_openAroundBoxesWith_J13_bitCount_95d88
theorem dX0_openAroundBoxesWith_0 : decode cX0_openAroundBoxesWith 0 = .ok (.lconst 0, 1) := by decide +kernel
theorem dX0_openAroundBoxesWith_1 : decode cX0_openAroundBoxesWith 1 = .ok (.lstore 4, 2) := by decide +kernel
theorem dX0_openAroundBoxesWith_3 : decode cX0_openAroundBoxesWith 3 = .ok (.iconst 0, 1) := by decide +kernel
theorem dX0_openAroundBoxesWith_4 : decode cX0_openAroundBoxesWith 4 = .ok (.istore 6, 2) := by decide +kernel
theorem dX0_openAroundBoxesWith_6 : decode cX0_openAroundBoxesWith 6 = .ok (.iload 6, 2) := by decide +kernel
theorem dX0_openAroundBoxesWith_8 : decode cX0_openAroundBoxesWith 8 = .ok (.aload_n 0, 1) := by decide +kernel
theorem dX0_openAroundBoxesWith_9 : decode cX0_openAroundBoxesWith 9 = .ok (.getfield 29, 3) := by decide +kernel
theorem dX0_openAroundBoxesWith_12 : decode cX0_openAroundBoxesWith 12 = .ok (.if_icmp .ge 34, 3) := by decide +kernel
theorem dX0_openAroundBoxesWith_15 : decode cX0_openAroundBoxesWith 15 = .ok (.aload_n 0, 1) := by decide +kernel
theorem dX0_openAroundBoxesWith_16 : decode cX0_openAroundBoxesWith 16 = .ok (.lload_n 1, 1) := by decide +kernel
theorem dX0_openAroundBoxesWith_17 : decode cX0_openAroundBoxesWith 17 = .ok (.iload 6, 2) := by decide +kernel
theorem dX0_openAroundBoxesWith_19 : decode cX0_openAroundBoxesWith 19 = .ok (.invokevirtual 76, 3) := by decide +kernel
theorem dX0_openAroundBoxesWith_22 : decode cX0_openAroundBoxesWith 22 = .ok (.lstore 7, 2) := by decide +kernel
theorem dX0_openAroundBoxesWith_24 : decode cX0_openAroundBoxesWith 24 = .ok (.lload 7, 2) := by decide +kernel
theorem dX0_openAroundBoxesWith_26 : decode cX0_openAroundBoxesWith 26 = .ok (.invokestatic 80, 3) := by decide +kernel
theorem dX0_openAroundBoxesWith_29 : decode cX0_openAroundBoxesWith 29 = .ok (.iload_n 3, 1) := by decide +kernel
theorem dX0_openAroundBoxesWith_30 : decode cX0_openAroundBoxesWith 30 = .ok (.if_icmp .ne 10, 3) := by decide +kernel
theorem dX0_openAroundBoxesWith_33 : decode cX0_openAroundBoxesWith 33 = .ok (.lload 4, 2) := by decide +kernel
theorem dX0_openAroundBoxesWith_35 : decode cX0_openAroundBoxesWith 35 = .ok (.lload 7, 2) := by decide +kernel
theorem dX0_openAroundBoxesWith_37 : decode cX0_openAroundBoxesWith 37 = .ok (.lor, 1) := by decide +kernel
theorem dX0_openAroundBoxesWith_38 : decode cX0_openAroundBoxesWith 38 = .ok (.lstore 4, 2) := by decide +kernel
theorem dX0_openAroundBoxesWith_40 : decode cX0_openAroundBoxesWith 40 = .ok (.iinc 6 1, 3) := by decide +kernel
theorem dX0_openAroundBoxesWith_43 : decode cX0_openAroundBoxesWith 43 = .ok (.goto (-37), 3) := by decide +kernel
theorem dX0_openAroundBoxesWith_46 : decode cX0_openAroundBoxesWith 46 = .ok (.lload 4, 2) := by decide +kernel
theorem dX0_openAroundBoxesWith_48 : decode cX0_openAroundBoxesWith 48 = .ok (.lreturn, 1) := by decide +kernel
set_option maxRecDepth 20000 in
theorem ggX0_takingLines_X0_openAroundBoxesWith : GoodIn wsX0_takingLines wsX0_openAroundBoxesWith := goodIn_r _ [5, 6, 7, 8, 9, 4, 10, 11, 12, 13, 14, 15, 16, 17, 18, 19, 20, 21, 22, 23, 24, 25, 26, 27, 28, 29, 30] (by decide +kernel) (by decide +kernel)
set_option maxRecDepth 20000 in
theorem gX0_takingLines_X0_openAroundBoxesWith : GoodIn wsX0_takingLines (wsV RX0 86 RX0 yX0_openAroundBoxesWith wsX0_openAroundBoxesWith) := goodIn_app (goodIn_of _ (by decide +kernel)) ggX0_takingLines_X0_openAroundBoxesWith
theorem dX0_takingLines_0 : decode cX0_takingLines 0 = .ok (.aload_n 0, 1) := by decide +kernel
theorem dX0_takingLines_1 : decode cX0_takingLines 1 = .ok (.lload_n 1, 1) := by decide +kernel
theorem dX0_takingLines_2 : decode cX0_takingLines 2 = .ok (.iconst 1, 1) := by decide +kernel
theorem dX0_takingLines_3 : decode cX0_takingLines 3 = .ok (.invokevirtual 86, 3) := by decide +kernel
theorem dX0_takingLines_6 : decode cX0_takingLines 6 = .ok (.lreturn, 1) := by decide +kernel
set_option maxRecDepth 20000 in
theorem ggX0_safeLines_X0_openAroundBoxesWith : GoodIn wsX0_safeLines wsX0_openAroundBoxesWith := goodIn_r _ [6, 7, 8, 9, 10, 5, 11, 12, 1, 13, 14, 15, 16, 17, 18, 19, 20, 21, 22, 23, 32, 33, 34, 35, 36, 37, 38] (by decide +kernel) (by decide +kernel)
set_option maxRecDepth 20000 in
theorem gX0_safeLines_X0_openAroundBoxesWith : GoodIn wsX0_safeLines (wsV RX0 86 RX0 yX0_openAroundBoxesWith wsX0_openAroundBoxesWith) := goodIn_app (goodIn_of _ (by decide +kernel)) ggX0_safeLines_X0_openAroundBoxesWith
set_option maxRecDepth 20000 in
theorem ggX0_safeLines_X0_openLines : GoodIn wsX0_safeLines wsX0_openLines := goodIn_r _ [27, 28, 1, 29, 30, 31, 32, 33, 34, 35, 36, 37, 38] (by decide +kernel) (by decide +kernel)
set_option maxRecDepth 20000 in
theorem gX0_safeLines_X0_openLines : GoodIn wsX0_safeLines (wsV RX0 89 RX0 yX0_openLines wsX0_openLines) := goodIn_app (goodIn_of _ (by decide +kernel)) ggX0_safeLines_X0_openLines
theorem dX0_safeLines_0 : decode cX0_safeLines 0 = .ok (.aload_n 0, 1) := by decide +kernel
theorem dX0_safeLines_1 : decode cX0_safeLines 1 = .ok (.lload_n 1, 1) := by decide +kernel
theorem dX0_safeLines_2 : decode cX0_safeLines 2 = .ok (.iconst 1, 1) := by decide +kernel
theorem dX0_safeLines_3 : decode cX0_safeLines 3 = .ok (.invokevirtual 86, 3) := by decide +kernel
theorem dX0_safeLines_6 : decode cX0_safeLines 6 = .ok (.aload_n 0, 1) := by decide +kernel
theorem dX0_safeLines_7 : decode cX0_safeLines 7 = .ok (.lload_n 1, 1) := by decide +kernel
theorem dX0_safeLines_8 : decode cX0_safeLines 8 = .ok (.iconst 2, 1) := by decide +kernel
theorem dX0_safeLines_9 : decode cX0_safeLines 9 = .ok (.invokevirtual 86, 3) := by decide +kernel
theorem dX0_safeLines_12 : decode cX0_safeLines 12 = .ok (.lor, 1) := by decide +kernel
theorem dX0_safeLines_13 : decode cX0_safeLines 13 = .ok (.lstore_n 3, 1) := by decide +kernel
theorem dX0_safeLines_14 : decode cX0_safeLines 14 = .ok (.aload_n 0, 1) := by decide +kernel
theorem dX0_safeLines_15 : decode cX0_safeLines 15 = .ok (.lload_n 1, 1) := by decide +kernel
theorem dX0_safeLines_16 : decode cX0_safeLines 16 = .ok (.invokevirtual 89, 3) := by decide +kernel
theorem dX0_safeLines_19 : decode cX0_safeLines 19 = .ok (.lload_n 3, 1) := by decide +kernel
theorem dX0_safeLines_20 : decode cX0_safeLines 20 = .ok (.ldc2_w 70, 3) := by decide +kernel
theorem dX0_safeLines_23 : decode cX0_safeLines 23 = .ok (.lxor, 1) := by decide +kernel
theorem dX0_safeLines_24 : decode cX0_safeLines 24 = .ok (.land, 1) := by decide +kernel
theorem dX0_safeLines_25 : decode cX0_safeLines 25 = .ok (.lreturn, 1) := by decide +kernel
set_option maxRecDepth 20000 in
theorem ggX0_givingLines_X0_openAroundBoxesWith : GoodIn wsX0_givingLines wsX0_openAroundBoxesWith := goodIn_r _ [6, 7, 8, 9, 10, 5, 11, 12, 1, 13, 14, 15, 16, 17, 18, 19, 20, 21, 22, 23, 24, 25, 26, 27, 28, 29, 30] (by decide +kernel) (by decide +kernel)
set_option maxRecDepth 20000 in
theorem gX0_givingLines_X0_openAroundBoxesWith : GoodIn wsX0_givingLines (wsV RX0 86 RX0 yX0_openAroundBoxesWith wsX0_openAroundBoxesWith) := goodIn_app (goodIn_of _ (by decide +kernel)) ggX0_givingLines_X0_openAroundBoxesWith
theorem dX0_givingLines_0 : decode cX0_givingLines 0 = .ok (.aload_n 0, 1) := by decide +kernel
theorem dX0_givingLines_1 : decode cX0_givingLines 1 = .ok (.lload_n 1, 1) := by decide +kernel
theorem dX0_givingLines_2 : decode cX0_givingLines 2 = .ok (.iconst 2, 1) := by decide +kernel
theorem dX0_givingLines_3 : decode cX0_givingLines 3 = .ok (.invokevirtual 86, 3) := by decide +kernel
theorem dX0_givingLines_6 : decode cX0_givingLines 6 = .ok (.aload_n 0, 1) := by decide +kernel
theorem dX0_givingLines_7 : decode cX0_givingLines 7 = .ok (.lload_n 1, 1) := by decide +kernel
theorem dX0_givingLines_8 : decode cX0_givingLines 8 = .ok (.iconst 1, 1) := by decide +kernel
theorem dX0_givingLines_9 : decode cX0_givingLines 9 = .ok (.invokevirtual 86, 3) := by decide +kernel
theorem dX0_givingLines_12 : decode cX0_givingLines 12 = .ok (.ldc2_w 70, 3) := by decide +kernel
theorem dX0_givingLines_15 : decode cX0_givingLines 15 = .ok (.lxor, 1) := by decide +kernel
theorem dX0_givingLines_16 : decode cX0_givingLines 16 = .ok (.land, 1) := by decide +kernel
theorem dX0_givingLines_17 : decode cX0_givingLines 17 = .ok (.lreturn, 1) := by decide +kernel
set_option maxRecDepth 20000 in
theorem ggX0_runOf_X0_openAround : GoodIn wsX0_runOf wsX0_openAround := goodIn_r _ [6, 7, 8, 9, 10, 11, 12, 24, 25, 26, 27, 28, 29, 30] (by decide +kernel) (by decide +kernel)
set_option maxRecDepth 20000 in
theorem gX0_runOf_X0_openAround : GoodIn wsX0_runOf (wsV RX0 76 RX0 yX0_openAround wsX0_openAround) := goodIn_app (goodIn_of _ (by decide +kernel)) ggX0_runOf_X0_openAround
set_option maxRecDepth 20000 in
theorem ggX0_runOf_J13_bitCount_95d88 : GoodIn wsX0_runOf wsJ13_bitCount_95d88 := goodIn_r _ [16, 17, 18, 19] (by decide +kernel) (by decide +kernel)
set_option maxRecDepth 20000 in
theorem gX0_runOf_J13_bitCount_95d88 : GoodIn wsX0_runOf (va_wsS RX0 80 yJ13_bitCount_95d88 wsJ13_bitCount_95d88) := goodIn_app (goodIn_of _ (by decide +kernel)) ggX0_runOf_J13_bitCount_95d88
set_option maxRecDepth 20000 in
theorem ggX0_runOf_X0_completeBoxes : GoodIn wsX0_runOf wsX0_completeBoxes := goodIn_r _ [23, 1, 2, 3, 4, 5, 6, 7, 8, 9, 10, 11, 12, 24, 25, 26, 27, 28, 29, 30] (by decide +kernel) (by decide +kernel)
set_option maxRecDepth 20000 in
theorem gX0_runOf_X0_completeBoxes : GoodIn wsX0_runOf (wsV RX0 93 RX0 yX0_completeBoxes wsX0_completeBoxes) := goodIn_app (goodIn_of _ (by decide +kernel)) ggX0_runOf_X0_completeBoxes
theorem dX0_runOf_0 : decode cX0_runOf 0 = .ok (.lload_n 1, 1) := by decide +kernel
theorem dX0_runOf_1 : decode cX0_runOf 1 = .ok (.lstore_n 3, 1) := by decide +kernel
theorem dX0_runOf_2 : decode cX0_runOf 2 = .ok (.iconst 1, 1) := by decide +kernel
theorem dX0_runOf_3 : decode cX0_runOf 3 = .ok (.istore 5, 2) := by decide +kernel
theorem dX0_runOf_5 : decode cX0_runOf 5 = .ok (.iconst 0, 1) := by decide +kernel
theorem dX0_runOf_6 : decode cX0_runOf 6 = .ok (.istore 6, 2) := by decide +kernel
theorem dX0_runOf_8 : decode cX0_runOf 8 = .ok (.iload 5, 2) := by decide +kernel
theorem dX0_runOf_10 : decode cX0_runOf 10 = .ok (.ifCond .eq 63, 3) := by decide +kernel
theorem dX0_runOf_13 : decode cX0_runOf 13 = .ok (.iload 6, 2) := by decide +kernel
theorem dX0_runOf_15 : decode cX0_runOf 15 = .ok (.bipush 16, 2) := by decide +kernel
theorem dX0_runOf_17 : decode cX0_runOf 17 = .ok (.if_icmp .ge 56, 3) := by decide +kernel
theorem dX0_runOf_20 : decode cX0_runOf 20 = .ok (.iconst 0, 1) := by decide +kernel
theorem dX0_runOf_21 : decode cX0_runOf 21 = .ok (.istore 5, 2) := by decide +kernel
theorem dX0_runOf_23 : decode cX0_runOf 23 = .ok (.iconst 0, 1) := by decide +kernel
theorem dX0_runOf_24 : decode cX0_runOf 24 = .ok (.istore 7, 2) := by decide +kernel
theorem dX0_runOf_26 : decode cX0_runOf 26 = .ok (.iload 7, 2) := by decide +kernel
theorem dX0_runOf_28 : decode cX0_runOf 28 = .ok (.aload_n 0, 1) := by decide +kernel
theorem dX0_runOf_29 : decode cX0_runOf 29 = .ok (.getfield 29, 3) := by decide +kernel
theorem dX0_runOf_32 : decode cX0_runOf 32 = .ok (.if_icmp .ge 35, 3) := by decide +kernel
theorem dX0_runOf_35 : decode cX0_runOf 35 = .ok (.aload_n 0, 1) := by decide +kernel
theorem dX0_runOf_36 : decode cX0_runOf 36 = .ok (.lload_n 3, 1) := by decide +kernel
theorem dX0_runOf_37 : decode cX0_runOf 37 = .ok (.iload 7, 2) := by decide +kernel
theorem dX0_runOf_39 : decode cX0_runOf 39 = .ok (.invokevirtual 76, 3) := by decide +kernel
theorem dX0_runOf_42 : decode cX0_runOf 42 = .ok (.lstore 8, 2) := by decide +kernel
theorem dX0_runOf_44 : decode cX0_runOf 44 = .ok (.lload 8, 2) := by decide +kernel
theorem dX0_runOf_46 : decode cX0_runOf 46 = .ok (.invokestatic 80, 3) := by decide +kernel
theorem dX0_runOf_49 : decode cX0_runOf 49 = .ok (.iconst 1, 1) := by decide +kernel
theorem dX0_runOf_50 : decode cX0_runOf 50 = .ok (.if_icmp .ne 11, 3) := by decide +kernel
theorem dX0_runOf_53 : decode cX0_runOf 53 = .ok (.lload_n 3, 1) := by decide +kernel
theorem dX0_runOf_54 : decode cX0_runOf 54 = .ok (.lload 8, 2) := by decide +kernel
theorem dX0_runOf_56 : decode cX0_runOf 56 = .ok (.lor, 1) := by decide +kernel
theorem dX0_runOf_57 : decode cX0_runOf 57 = .ok (.lstore_n 3, 1) := by decide +kernel
theorem dX0_runOf_58 : decode cX0_runOf 58 = .ok (.iconst 1, 1) := by decide +kernel
theorem dX0_runOf_59 : decode cX0_runOf 59 = .ok (.istore 5, 2) := by decide +kernel
theorem dX0_runOf_61 : decode cX0_runOf 61 = .ok (.iinc 7 1, 3) := by decide +kernel
theorem dX0_runOf_64 : decode cX0_runOf 64 = .ok (.goto (-38), 3) := by decide +kernel
theorem dX0_runOf_67 : decode cX0_runOf 67 = .ok (.iinc 6 1, 3) := by decide +kernel
theorem dX0_runOf_70 : decode cX0_runOf 70 = .ok (.goto (-62), 3) := by decide +kernel
theorem dX0_runOf_73 : decode cX0_runOf 73 = .ok (.aload_n 0, 1) := by decide +kernel
theorem dX0_runOf_74 : decode cX0_runOf 74 = .ok (.lload_n 3, 1) := by decide +kernel
theorem dX0_runOf_75 : decode cX0_runOf 75 = .ok (.invokevirtual 93, 3) := by decide +kernel
theorem dX0_runOf_78 : decode cX0_runOf 78 = .ok (.aload_n 0, 1) := by decide +kernel
theorem dX0_runOf_79 : decode cX0_runOf 79 = .ok (.lload_n 1, 1) := by decide +kernel
theorem dX0_runOf_80 : decode cX0_runOf 80 = .ok (.invokevirtual 93, 3) := by decide +kernel
theorem dX0_runOf_83 : decode cX0_runOf 83 = .ok (.isub, 1) := by decide +kernel
theorem dX0_runOf_84 : decode cX0_runOf 84 = .ok (.ireturn, 1) := by decide +kernel
set_option maxRecDepth 20000 in
theorem ggX0_hasDoubleTaking_X0_openAround : GoodIn wsX0_hasDoubleTaking wsX0_openAround := goodIn_r _ [6, 7, 8, 9, 10, 11, 12, 20, 21, 22, 23, 24, 25, 26] (by decide +kernel) (by decide +kernel)
set_option maxRecDepth 20000 in
theorem gX0_hasDoubleTaking_X0_openAround : GoodIn wsX0_hasDoubleTaking (wsV RX0 76 RX0 yX0_openAround wsX0_openAround) := goodIn_app (goodIn_of _ (by decide +kernel)) ggX0_hasDoubleTaking_X0_openAround
set_option maxRecDepth 20000 in
theorem ggX0_hasDoubleTaking_J13_bitCount_95d88 : GoodIn wsX0_hasDoubleTaking wsJ13_bitCount_95d88 := goodIn_r _ [16, 17, 18, 19] (by decide +kernel) (by decide +kernel)
set_option maxRecDepth 20000 in
theorem gX0_hasDoubleTaking_J13_bitCount_95d88 : GoodIn wsX0_hasDoubleTaking (va_wsS RX0 80 yJ13_bitCount_95d88 wsJ13_bitCount_95d88) := goodIn_app (goodIn_of _ (by decide +kernel)) ggX0_hasDoubleTaking_J13_bitCount_95d88
theorem dX0_hasDoubleTaking_0 : decode cX0_hasDoubleTaking 0 = .ok (.lconst 0, 1) := by decide +kernel
theorem dX0_hasDoubleTaking_1 : decode cX0_hasDoubleTaking 1 = .ok (.lstore_n 3, 1) := by decide +kernel
theorem dX0_hasDoubleTaking_2 : decode cX0_hasDoubleTaking 2 = .ok (.iconst 0, 1) := by decide +kernel
theorem dX0_hasDoubleTaking_3 : decode cX0_hasDoubleTaking 3 = .ok (.istore 5, 2) := by decide +kernel
theorem dX0_hasDoubleTaking_5 : decode cX0_hasDoubleTaking 5 = .ok (.iload 5, 2) := by decide +kernel
theorem dX0_hasDoubleTaking_7 : decode cX0_hasDoubleTaking 7 = .ok (.aload_n 0, 1) := by decide +kernel
theorem dX0_hasDoubleTaking_8 : decode cX0_hasDoubleTaking 8 = .ok (.getfield 29, 3) := by decide +kernel
theorem dX0_hasDoubleTaking_11 : decode cX0_hasDoubleTaking 11 = .ok (.if_icmp .ge 43, 3) := by decide +kernel
theorem dX0_hasDoubleTaking_14 : decode cX0_hasDoubleTaking 14 = .ok (.aload_n 0, 1) := by decide +kernel
theorem dX0_hasDoubleTaking_15 : decode cX0_hasDoubleTaking 15 = .ok (.lload_n 1, 1) := by decide +kernel
theorem dX0_hasDoubleTaking_16 : decode cX0_hasDoubleTaking 16 = .ok (.iload 5, 2) := by decide +kernel
theorem dX0_hasDoubleTaking_18 : decode cX0_hasDoubleTaking 18 = .ok (.invokevirtual 76, 3) := by decide +kernel
theorem dX0_hasDoubleTaking_21 : decode cX0_hasDoubleTaking 21 = .ok (.lstore 6, 2) := by decide +kernel
theorem dX0_hasDoubleTaking_23 : decode cX0_hasDoubleTaking 23 = .ok (.lload 6, 2) := by decide +kernel
theorem dX0_hasDoubleTaking_25 : decode cX0_hasDoubleTaking 25 = .ok (.invokestatic 80, 3) := by decide +kernel
theorem dX0_hasDoubleTaking_28 : decode cX0_hasDoubleTaking 28 = .ok (.iconst 1, 1) := by decide +kernel
theorem dX0_hasDoubleTaking_29 : decode cX0_hasDoubleTaking 29 = .ok (.if_icmp .ne 19, 3) := by decide +kernel
theorem dX0_hasDoubleTaking_32 : decode cX0_hasDoubleTaking 32 = .ok (.lload_n 3, 1) := by decide +kernel
theorem dX0_hasDoubleTaking_33 : decode cX0_hasDoubleTaking 33 = .ok (.lload 6, 2) := by decide +kernel
theorem dX0_hasDoubleTaking_35 : decode cX0_hasDoubleTaking 35 = .ok (.land, 1) := by decide +kernel
theorem dX0_hasDoubleTaking_36 : decode cX0_hasDoubleTaking 36 = .ok (.lconst 0, 1) := by decide +kernel
theorem dX0_hasDoubleTaking_37 : decode cX0_hasDoubleTaking 37 = .ok (.lcmp, 1) := by decide +kernel
theorem dX0_hasDoubleTaking_38 : decode cX0_hasDoubleTaking 38 = .ok (.ifCond .eq 5, 3) := by decide +kernel
theorem dX0_hasDoubleTaking_41 : decode cX0_hasDoubleTaking 41 = .ok (.iconst 1, 1) := by decide +kernel
theorem dX0_hasDoubleTaking_42 : decode cX0_hasDoubleTaking 42 = .ok (.ireturn, 1) := by decide +kernel
theorem dX0_hasDoubleTaking_43 : decode cX0_hasDoubleTaking 43 = .ok (.lload_n 3, 1) := by decide +kernel
theorem dX0_hasDoubleTaking_44 : decode cX0_hasDoubleTaking 44 = .ok (.lload 6, 2) := by decide +kernel
theorem dX0_hasDoubleTaking_46 : decode cX0_hasDoubleTaking 46 = .ok (.lor, 1) := by decide +kernel
theorem dX0_hasDoubleTaking_47 : decode cX0_hasDoubleTaking 47 = .ok (.lstore_n 3, 1) := by decide +kernel
theorem dX0_hasDoubleTaking_48 : decode cX0_hasDoubleTaking 48 = .ok (.iinc 5 1, 3) := by decide +kernel
theorem dX0_hasDoubleTaking_51 : decode cX0_hasDoubleTaking 51 = .ok (.goto (-46), 3) := by decide +kernel
theorem dX0_hasDoubleTaking_54 : decode cX0_hasDoubleTaking 54 = .ok (.iconst 0, 1) := by decide +kernel
theorem dX0_hasDoubleTaking_55 : decode cX0_hasDoubleTaking 55 = .ok (.ireturn, 1) := by decide +kernel
theorem dX1_init_0 : decode cX1_init 0 = .ok (.aload_n 0, 1) := by decide +kernel
theorem dX1_init_1 : decode cX1_init 1 = .ok (.invokespecial 3, 3) := by decide +kernel
theorem dX1_init_4 : decode cX1_init 4 = .ok (.aload_n 0, 1) := by decide +kernel
theorem dX1_init_5 : decode cX1_init 5 = .ok (.bipush 60, 2) := by decide +kernel
theorem dX1_init_7 : decode cX1_init 7 = .ok (.newarray .int, 2) := by decide +kernel
theorem dX1_init_9 : decode cX1_init 9 = .ok (.putfield 9, 3) := by decide +kernel
theorem dX1_init_12 : decode cX1_init 12 = .ok (.aload_n 0, 1) := by decide +kernel
theorem dX1_init_13 : decode cX1_init 13 = .ok (.aload_n 1, 1) := by decide +kernel
theorem dX1_init_14 : decode cX1_init 14 = .ok (.putfield 15, 3) := by decide +kernel
theorem dX1_init_17 : decode cX1_init 17 = .ok (.return_, 1) := by decide +kernel
theorem dX2_init_0 : decode cX2_init 0 = .ok (.aload_n 0, 1) := by decide +kernel
theorem dX2_init_1 : decode cX2_init 1 = .ok (.invokespecial 3, 3) := by decide +kernel
theorem dX2_init_4 : decode cX2_init 4 = .ok (.aload_n 0, 1) := by decide +kernel
theorem dX2_init_5 : decode cX2_init 5 = .ok (.bipush 40, 2) := by decide +kernel
theorem dX2_init_7 : decode cX2_init 7 = .ok (.newarray .int, 2) := by decide +kernel
theorem dX2_init_9 : decode cX2_init 9 = .ok (.putfield 9, 3) := by decide +kernel
theorem dX2_init_12 : decode cX2_init 12 = .ok (.aload_n 0, 1) := by decide +kernel
theorem dX2_init_13 : decode cX2_init 13 = .ok (.bipush 16, 2) := by decide +kernel
theorem dX2_init_15 : decode cX2_init 15 = .ok (.newarray .int, 2) := by decide +kernel
theorem dX2_init_17 : decode cX2_init 17 = .ok (.putfield 15, 3) := by decide +kernel
theorem dX2_init_20 : decode cX2_init 20 = .ok (.aload_n 0, 1) := by decide +kernel
theorem dX2_init_21 : decode cX2_init 21 = .ok (.aload_n 1, 1) := by decide +kernel
theorem dX2_init_22 : decode cX2_init 22 = .ok (.putfield 18, 3) := by decide +kernel
theorem dX2_init_25 : decode cX2_init 25 = .ok (.return_, 1) := by decide +kernel
set_option maxRecDepth 20000 in
theorem ggX2_clear_X3_put : GoodIn wsX2_clear wsX3_put := goodIn_r _ [8] (by decide +kernel) (by decide +kernel)
set_option maxRecDepth 20000 in
theorem gX2_clear_X3_put : GoodIn wsX2_clear (va_wsS RX2 33 yX3_put wsX3_put) := goodIn_app (goodIn_of _ (by decide +kernel)) ggX2_clear_X3_put
theorem dX2_clear_0 : decode cX2_clear 0 = .ok (.aload_n 0, 1) := by decide +kernel
theorem dX2_clear_1 : decode cX2_clear 1 = .ok (.lconst 0, 1) := by decide +kernel
theorem dX2_clear_2 : decode cX2_clear 2 = .ok (.putfield 22, 3) := by decide +kernel
theorem dX2_clear_5 : decode cX2_clear 5 = .ok (.aload_n 0, 1) := by decide +kernel
theorem dX2_clear_6 : decode cX2_clear 6 = .ok (.iconst 0, 1) := by decide +kernel
theorem dX2_clear_7 : decode cX2_clear 7 = .ok (.putfield 26, 3) := by decide +kernel
theorem dX2_clear_10 : decode cX2_clear 10 = .ok (.aload_n 0, 1) := by decide +kernel
theorem dX2_clear_11 : decode cX2_clear 11 = .ok (.iconst 0, 1) := by decide +kernel
theorem dX2_clear_12 : decode cX2_clear 12 = .ok (.putfield 30, 3) := by decide +kernel
theorem dX2_clear_15 : decode cX2_clear 15 = .ok (.iconst 0, 1) := by decide +kernel
theorem dX2_clear_16 : decode cX2_clear 16 = .ok (.istore_n 1, 1) := by decide +kernel
theorem dX2_clear_17 : decode cX2_clear 17 = .ok (.iload_n 1, 1) := by decide +kernel
theorem dX2_clear_18 : decode cX2_clear 18 = .ok (.bipush 16, 2) := by decide +kernel
theorem dX2_clear_20 : decode cX2_clear 20 = .ok (.if_icmp .ge 18, 3) := by decide +kernel
theorem dX2_clear_23 : decode cX2_clear 23 = .ok (.aload_n 0, 1) := by decide +kernel
theorem dX2_clear_24 : decode cX2_clear 24 = .ok (.getfield 15, 3) := by decide +kernel
theorem dX2_clear_27 : decode cX2_clear 27 = .ok (.iload_n 1, 1) := by decide +kernel
theorem dX2_clear_28 : decode cX2_clear 28 = .ok (.iconst (-1), 1) := by decide +kernel
theorem dX2_clear_29 : decode cX2_clear 29 = .ok (.invokestatic 33, 3) := by decide +kernel
theorem dX2_clear_32 : decode cX2_clear 32 = .ok (.iinc 1 1, 3) := by decide +kernel
theorem dX2_clear_35 : decode cX2_clear 35 = .ok (.goto (-18), 3) := by decide +kernel
theorem dX2_clear_38 : decode cX2_clear 38 = .ok (.return_, 1) := by decide +kernel
set_option maxRecDepth 20000 in
theorem ggX2_copyFrom_X2_moveAt : GoodIn wsX2_copyFrom wsX2_moveAt := goodIn_r _ [10, 4, 11, 12, 13, 14, 22, 23, 24, 25, 26, 27] (by decide +kernel) (by decide +kernel)
set_option maxRecDepth 20000 in
theorem gX2_copyFrom_X2_moveAt : GoodIn wsX2_copyFrom (wsV RX2 39 RX2 yX2_moveAt wsX2_moveAt) := goodIn_app (goodIn_of _ (by decide +kernel)) ggX2_copyFrom_X2_moveAt
set_option maxRecDepth 20000 in
theorem ggX2_copyFrom_X3_put : GoodIn wsX2_copyFrom wsX3_put := goodIn_r _ [17] (by decide +kernel) (by decide +kernel)
set_option maxRecDepth 20000 in
theorem gX2_copyFrom_X3_put : GoodIn wsX2_copyFrom (va_wsS RX2 33 yX3_put wsX3_put) := goodIn_app (goodIn_of _ (by decide +kernel)) ggX2_copyFrom_X3_put
set_option maxRecDepth 20000 in
theorem ggX2_copyFrom_X2_ownerOf : GoodIn wsX2_copyFrom wsX2_ownerOf := goodIn_r _ [21, 5, 11, 12, 13, 14, 22, 23, 24, 25, 26, 27] (by decide +kernel) (by decide +kernel)
set_option maxRecDepth 20000 in
theorem gX2_copyFrom_X2_ownerOf : GoodIn wsX2_copyFrom (wsV RX2 43 RX2 yX2_ownerOf wsX2_ownerOf) := goodIn_app (goodIn_of _ (by decide +kernel)) ggX2_copyFrom_X2_ownerOf
theorem dX2_copyFrom_0 : decode cX2_copyFrom 0 = .ok (.aload_n 0, 1) := by decide +kernel
theorem dX2_copyFrom_1 : decode cX2_copyFrom 1 = .ok (.aload_n 1, 1) := by decide +kernel
theorem dX2_copyFrom_2 : decode cX2_copyFrom 2 = .ok (.getfield 22, 3) := by decide +kernel
theorem dX2_copyFrom_5 : decode cX2_copyFrom 5 = .ok (.putfield 22, 3) := by decide +kernel
theorem dX2_copyFrom_8 : decode cX2_copyFrom 8 = .ok (.aload_n 0, 1) := by decide +kernel
theorem dX2_copyFrom_9 : decode cX2_copyFrom 9 = .ok (.aload_n 1, 1) := by decide +kernel
theorem dX2_copyFrom_10 : decode cX2_copyFrom 10 = .ok (.getfield 26, 3) := by decide +kernel
theorem dX2_copyFrom_13 : decode cX2_copyFrom 13 = .ok (.putfield 26, 3) := by decide +kernel
theorem dX2_copyFrom_16 : decode cX2_copyFrom 16 = .ok (.aload_n 0, 1) := by decide +kernel
theorem dX2_copyFrom_17 : decode cX2_copyFrom 17 = .ok (.aload_n 1, 1) := by decide +kernel
theorem dX2_copyFrom_18 : decode cX2_copyFrom 18 = .ok (.getfield 30, 3) := by decide +kernel
theorem dX2_copyFrom_21 : decode cX2_copyFrom 21 = .ok (.putfield 30, 3) := by decide +kernel
theorem dX2_copyFrom_24 : decode cX2_copyFrom 24 = .ok (.iconst 0, 1) := by decide +kernel
theorem dX2_copyFrom_25 : decode cX2_copyFrom 25 = .ok (.istore_n 2, 1) := by decide +kernel
theorem dX2_copyFrom_26 : decode cX2_copyFrom 26 = .ok (.iload_n 2, 1) := by decide +kernel
theorem dX2_copyFrom_27 : decode cX2_copyFrom 27 = .ok (.aload_n 0, 1) := by decide +kernel
theorem dX2_copyFrom_28 : decode cX2_copyFrom 28 = .ok (.getfield 26, 3) := by decide +kernel
theorem dX2_copyFrom_31 : decode cX2_copyFrom 31 = .ok (.if_icmp .ge 22, 3) := by decide +kernel
theorem dX2_copyFrom_34 : decode cX2_copyFrom 34 = .ok (.aload_n 0, 1) := by decide +kernel
theorem dX2_copyFrom_35 : decode cX2_copyFrom 35 = .ok (.getfield 9, 3) := by decide +kernel
theorem dX2_copyFrom_38 : decode cX2_copyFrom 38 = .ok (.iload_n 2, 1) := by decide +kernel
theorem dX2_copyFrom_39 : decode cX2_copyFrom 39 = .ok (.aload_n 1, 1) := by decide +kernel
theorem dX2_copyFrom_40 : decode cX2_copyFrom 40 = .ok (.iload_n 2, 1) := by decide +kernel
theorem dX2_copyFrom_41 : decode cX2_copyFrom 41 = .ok (.invokevirtual 39, 3) := by decide +kernel
theorem dX2_copyFrom_44 : decode cX2_copyFrom 44 = .ok (.invokestatic 33, 3) := by decide +kernel
theorem dX2_copyFrom_47 : decode cX2_copyFrom 47 = .ok (.iinc 2 1, 3) := by decide +kernel
theorem dX2_copyFrom_50 : decode cX2_copyFrom 50 = .ok (.goto (-24), 3) := by decide +kernel
theorem dX2_copyFrom_53 : decode cX2_copyFrom 53 = .ok (.iconst 0, 1) := by decide +kernel
theorem dX2_copyFrom_54 : decode cX2_copyFrom 54 = .ok (.istore_n 2, 1) := by decide +kernel
theorem dX2_copyFrom_55 : decode cX2_copyFrom 55 = .ok (.iload_n 2, 1) := by decide +kernel
theorem dX2_copyFrom_56 : decode cX2_copyFrom 56 = .ok (.bipush 16, 2) := by decide +kernel
theorem dX2_copyFrom_58 : decode cX2_copyFrom 58 = .ok (.if_icmp .ge 22, 3) := by decide +kernel
theorem dX2_copyFrom_61 : decode cX2_copyFrom 61 = .ok (.aload_n 0, 1) := by decide +kernel
theorem dX2_copyFrom_62 : decode cX2_copyFrom 62 = .ok (.getfield 15, 3) := by decide +kernel
theorem dX2_copyFrom_65 : decode cX2_copyFrom 65 = .ok (.iload_n 2, 1) := by decide +kernel
theorem dX2_copyFrom_66 : decode cX2_copyFrom 66 = .ok (.aload_n 1, 1) := by decide +kernel
theorem dX2_copyFrom_67 : decode cX2_copyFrom 67 = .ok (.iload_n 2, 1) := by decide +kernel
theorem dX2_copyFrom_68 : decode cX2_copyFrom 68 = .ok (.invokevirtual 43, 3) := by decide +kernel
theorem dX2_copyFrom_71 : decode cX2_copyFrom 71 = .ok (.invokestatic 33, 3) := by decide +kernel
theorem dX2_copyFrom_74 : decode cX2_copyFrom 74 = .ok (.iinc 2 1, 3) := by decide +kernel
theorem dX2_copyFrom_77 : decode cX2_copyFrom 77 = .ok (.goto (-22), 3) := by decide +kernel
theorem dX2_copyFrom_80 : decode cX2_copyFrom 80 = .ok (.return_, 1) := by decide +kernel
set_option maxRecDepth 20000 in
theorem ggX2_make_X8_bit : GoodIn wsX2_make wsX8_bit := goodIn_r _ [8] (by decide +kernel) (by decide +kernel)
set_option maxRecDepth 20000 in
theorem gX2_make_X8_bit_n46 : GoodIn wsX2_make (wsX8_bit) := ggX2_make_X8_bit
set_option maxRecDepth 20000 in
theorem ggX2_make_X3_put : GoodIn wsX2_make wsX3_put := goodIn_r _ [12] (by decide +kernel) (by decide +kernel)
set_option maxRecDepth 20000 in
theorem gX2_make_X3_put : GoodIn wsX2_make (va_wsS RX2 33 yX3_put wsX3_put) := goodIn_app (goodIn_of _ (by decide +kernel)) ggX2_make_X3_put
set_option maxRecDepth 20000 in
theorem ggX2_make_X0_firstBox : GoodIn wsX2_make wsX0_firstBox := goodIn_r _ [17, 18, 19, 20, 11, 21, 57, 58, 59, 60, 61, 62, 63] (by decide +kernel) (by decide +kernel)
set_option maxRecDepth 20000 in
theorem gX2_make_X0_firstBox : GoodIn wsX2_make (wsV RX2 50 RX0 yX0_firstBox wsX0_firstBox) := goodIn_app (goodIn_of _ (by decide +kernel)) ggX2_make_X0_firstBox
set_option maxRecDepth 20000 in
theorem ggX2_make_X2_claim : GoodIn wsX2_make wsX2_claim := goodIn_r _ [26, 4, 1, 27, 5, 28, 29, 30, 16, 31, 32, 33, 34, 35, 36, 37, 38, 39, 40, 41, 42, 43, 44, 11, 45, 9, 10, 12, 51, 52, 53, 54, 55, 56, 57, 58, 59, 60, 61, 62, 63] (by decide +kernel) (by decide +kernel)
set_option maxRecDepth 20000 in
theorem gX2_make_X2_claim : GoodIn wsX2_make (wsV RX2 55 RX2 yX2_claim wsX2_claim) := goodIn_app (goodIn_of _ (by decide +kernel)) ggX2_make_X2_claim
set_option maxRecDepth 20000 in
theorem ggX2_make_X0_secondBox : GoodIn wsX2_make wsX0_secondBox := goodIn_r _ [49, 50, 19, 20, 11, 21, 57, 58, 59, 60, 61, 62, 63] (by decide +kernel) (by decide +kernel)
set_option maxRecDepth 20000 in
theorem gX2_make_X0_secondBox : GoodIn wsX2_make (wsV RX2 58 RX0 yX0_secondBox wsX0_secondBox) := goodIn_app (goodIn_of _ (by decide +kernel)) ggX2_make_X0_secondBox
theorem dX2_make_0 : decode cX2_make 0 = .ok (.aload_n 0, 1) := by decide +kernel
theorem dX2_make_1 : decode cX2_make 1 = .ok (.dup, 1) := by decide +kernel
theorem dX2_make_2 : decode cX2_make 2 = .ok (.getfield 22, 3) := by decide +kernel
theorem dX2_make_5 : decode cX2_make 5 = .ok (.iload_n 1, 1) := by decide +kernel
theorem dX2_make_6 : decode cX2_make 6 = .ok (.invokestatic 46, 3) := by decide +kernel
theorem dX2_make_9 : decode cX2_make 9 = .ok (.lor, 1) := by decide +kernel
theorem dX2_make_10 : decode cX2_make 10 = .ok (.putfield 22, 3) := by decide +kernel
theorem dX2_make_13 : decode cX2_make 13 = .ok (.aload_n 0, 1) := by decide +kernel
theorem dX2_make_14 : decode cX2_make 14 = .ok (.getfield 9, 3) := by decide +kernel
theorem dX2_make_17 : decode cX2_make 17 = .ok (.aload_n 0, 1) := by decide +kernel
theorem dX2_make_18 : decode cX2_make 18 = .ok (.getfield 26, 3) := by decide +kernel
theorem dX2_make_21 : decode cX2_make 21 = .ok (.iload_n 1, 1) := by decide +kernel
theorem dX2_make_22 : decode cX2_make 22 = .ok (.invokestatic 33, 3) := by decide +kernel
theorem dX2_make_25 : decode cX2_make 25 = .ok (.aload_n 0, 1) := by decide +kernel
theorem dX2_make_26 : decode cX2_make 26 = .ok (.dup, 1) := by decide +kernel
theorem dX2_make_27 : decode cX2_make 27 = .ok (.getfield 26, 3) := by decide +kernel
theorem dX2_make_30 : decode cX2_make 30 = .ok (.iconst 1, 1) := by decide +kernel
theorem dX2_make_31 : decode cX2_make 31 = .ok (.iadd, 1) := by decide +kernel
theorem dX2_make_32 : decode cX2_make 32 = .ok (.putfield 26, 3) := by decide +kernel
theorem dX2_make_35 : decode cX2_make 35 = .ok (.aload_n 0, 1) := by decide +kernel
theorem dX2_make_36 : decode cX2_make 36 = .ok (.aload_n 0, 1) := by decide +kernel
theorem dX2_make_37 : decode cX2_make 37 = .ok (.getfield 18, 3) := by decide +kernel
theorem dX2_make_40 : decode cX2_make 40 = .ok (.iload_n 1, 1) := by decide +kernel
theorem dX2_make_41 : decode cX2_make 41 = .ok (.invokevirtual 50, 3) := by decide +kernel
theorem dX2_make_44 : decode cX2_make 44 = .ok (.invokevirtual 55, 3) := by decide +kernel
theorem dX2_make_47 : decode cX2_make 47 = .ok (.aload_n 0, 1) := by decide +kernel
theorem dX2_make_48 : decode cX2_make 48 = .ok (.aload_n 0, 1) := by decide +kernel
theorem dX2_make_49 : decode cX2_make 49 = .ok (.getfield 18, 3) := by decide +kernel
theorem dX2_make_52 : decode cX2_make 52 = .ok (.iload_n 1, 1) := by decide +kernel
theorem dX2_make_53 : decode cX2_make 53 = .ok (.invokevirtual 58, 3) := by decide +kernel
theorem dX2_make_56 : decode cX2_make 56 = .ok (.invokevirtual 55, 3) := by decide +kernel
theorem dX2_make_59 : decode cX2_make 59 = .ok (.iadd, 1) := by decide +kernel
theorem dX2_make_60 : decode cX2_make 60 = .ok (.istore_n 2, 1) := by decide +kernel
theorem dX2_make_61 : decode cX2_make 61 = .ok (.iload_n 2, 1) := by decide +kernel
theorem dX2_make_62 : decode cX2_make 62 = .ok (.ifCond .ne 13, 3) := by decide +kernel
theorem dX2_make_65 : decode cX2_make 65 = .ok (.aload_n 0, 1) := by decide +kernel
theorem dX2_make_66 : decode cX2_make 66 = .ok (.iconst 1, 1) := by decide +kernel
theorem dX2_make_67 : decode cX2_make 67 = .ok (.aload_n 0, 1) := by decide +kernel
theorem dX2_make_68 : decode cX2_make 68 = .ok (.getfield 30, 3) := by decide +kernel
theorem dX2_make_71 : decode cX2_make 71 = .ok (.isub, 1) := by decide +kernel
theorem dX2_make_72 : decode cX2_make 72 = .ok (.putfield 30, 3) := by decide +kernel
theorem dX2_make_75 : decode cX2_make 75 = .ok (.iload_n 2, 1) := by decide +kernel
theorem dX2_make_76 : decode cX2_make 76 = .ok (.ireturn, 1) := by decide +kernel
set_option maxRecDepth 20000 in
theorem ggX2_claim_X0_isComplete : GoodIn wsX2_claim wsX0_isComplete := goodIn_r _ [9, 10, 11, 12, 8, 13, 14, 15, 16, 17, 18, 19, 20, 21, 22, 23, 24, 34, 35, 36, 37, 38, 39, 40] (by decide +kernel) (by decide +kernel)
set_option maxRecDepth 20000 in
theorem gX2_claim_X0_isComplete : GoodIn wsX2_claim (wsV RX2 61 RX0 yX0_isComplete wsX0_isComplete) := goodIn_app (goodIn_of _ (by decide +kernel)) ggX2_claim_X0_isComplete
set_option maxRecDepth 20000 in
theorem ggX2_claim_X3_put : GoodIn wsX2_claim wsX3_put := goodIn_r _ [27] (by decide +kernel) (by decide +kernel)
set_option maxRecDepth 20000 in
theorem gX2_claim_X3_put : GoodIn wsX2_claim (va_wsS RX2 33 yX3_put wsX3_put) := goodIn_app (goodIn_of _ (by decide +kernel)) ggX2_claim_X3_put
theorem dX2_claim_0 : decode cX2_claim 0 = .ok (.aload_n 0, 1) := by decide +kernel
theorem dX2_claim_1 : decode cX2_claim 1 = .ok (.getfield 18, 3) := by decide +kernel
theorem dX2_claim_4 : decode cX2_claim 4 = .ok (.aload_n 0, 1) := by decide +kernel
theorem dX2_claim_5 : decode cX2_claim 5 = .ok (.getfield 22, 3) := by decide +kernel
theorem dX2_claim_8 : decode cX2_claim 8 = .ok (.iload_n 1, 1) := by decide +kernel
theorem dX2_claim_9 : decode cX2_claim 9 = .ok (.invokevirtual 61, 3) := by decide +kernel
theorem dX2_claim_12 : decode cX2_claim 12 = .ok (.ifCond .ne 5, 3) := by decide +kernel
theorem dX2_claim_15 : decode cX2_claim 15 = .ok (.iconst 0, 1) := by decide +kernel
theorem dX2_claim_16 : decode cX2_claim 16 = .ok (.ireturn, 1) := by decide +kernel
theorem dX2_claim_17 : decode cX2_claim 17 = .ok (.aload_n 0, 1) := by decide +kernel
theorem dX2_claim_18 : decode cX2_claim 18 = .ok (.getfield 15, 3) := by decide +kernel
theorem dX2_claim_21 : decode cX2_claim 21 = .ok (.iload_n 1, 1) := by decide +kernel
theorem dX2_claim_22 : decode cX2_claim 22 = .ok (.aload_n 0, 1) := by decide +kernel
theorem dX2_claim_23 : decode cX2_claim 23 = .ok (.getfield 30, 3) := by decide +kernel
theorem dX2_claim_26 : decode cX2_claim 26 = .ok (.invokestatic 33, 3) := by decide +kernel
theorem dX2_claim_29 : decode cX2_claim 29 = .ok (.iconst 1, 1) := by decide +kernel
theorem dX2_claim_30 : decode cX2_claim 30 = .ok (.ireturn, 1) := by decide +kernel
set_option maxRecDepth 20000 in
theorem ggX2_takeBack_X2_moveAt : GoodIn wsX2_takeBack wsX2_moveAt := goodIn_r _ [10, 11, 12, 13, 14, 15, 57, 58, 59, 60, 61, 62] (by decide +kernel) (by decide +kernel)
set_option maxRecDepth 20000 in
theorem gX2_takeBack_X2_moveAt : GoodIn wsX2_takeBack (wsV RX2 39 RX2 yX2_moveAt wsX2_moveAt) := goodIn_app (goodIn_of _ (by decide +kernel)) ggX2_takeBack_X2_moveAt
set_option maxRecDepth 20000 in
theorem ggX2_takeBack_X0_firstBox : GoodIn wsX2_takeBack wsX0_firstBox := goodIn_r _ [20, 21, 22, 13, 14, 15, 63, 64, 65, 66, 67, 68, 69] (by decide +kernel) (by decide +kernel)
set_option maxRecDepth 20000 in
theorem gX2_takeBack_X0_firstBox : GoodIn wsX2_takeBack (wsV RX2 50 RX0 yX0_firstBox wsX0_firstBox) := goodIn_app (goodIn_of _ (by decide +kernel)) ggX2_takeBack_X0_firstBox
set_option maxRecDepth 20000 in
theorem ggX2_takeBack_X2_release : GoodIn wsX2_takeBack wsX2_release := goodIn_r _ [26, 2, 3, 27, 28, 29, 30, 19, 31, 32, 33, 34, 35, 36, 37, 38, 39, 40, 41, 42, 43, 44, 14, 45, 46, 47, 48, 57, 58, 59, 60, 61, 62, 63, 64, 65, 66, 67, 68, 69] (by decide +kernel) (by decide +kernel)
set_option maxRecDepth 20000 in
theorem gX2_takeBack_X2_release : GoodIn wsX2_takeBack (wsV RX2 65 RX2 yX2_release wsX2_release) := goodIn_app (goodIn_of _ (by decide +kernel)) ggX2_takeBack_X2_release
set_option maxRecDepth 20000 in
theorem ggX2_takeBack_X0_secondBox : GoodIn wsX2_takeBack wsX0_secondBox := goodIn_r _ [52, 53, 22, 13, 14, 15, 63, 64, 65, 66, 67, 68, 69] (by decide +kernel) (by decide +kernel)
set_option maxRecDepth 20000 in
theorem gX2_takeBack_X0_secondBox : GoodIn wsX2_takeBack (wsV RX2 58 RX0 yX0_secondBox wsX0_secondBox) := goodIn_app (goodIn_of _ (by decide +kernel)) ggX2_takeBack_X0_secondBox
set_option maxRecDepth 20000 in
theorem ggX2_takeBack_X8_bit : GoodIn wsX2_takeBack wsX8_bit := goodIn_r _ [56] (by decide +kernel) (by decide +kernel)
set_option maxRecDepth 20000 in
theorem gX2_takeBack_X8_bit_n46 : GoodIn wsX2_takeBack (wsX8_bit) := ggX2_takeBack_X8_bit
theorem dX2_takeBack_0 : decode cX2_takeBack 0 = .ok (.aload_n 0, 1) := by decide +kernel
theorem dX2_takeBack_1 : decode cX2_takeBack 1 = .ok (.dup, 1) := by decide +kernel
theorem dX2_takeBack_2 : decode cX2_takeBack 2 = .ok (.getfield 26, 3) := by decide +kernel
theorem dX2_takeBack_5 : decode cX2_takeBack 5 = .ok (.iconst 1, 1) := by decide +kernel
theorem dX2_takeBack_6 : decode cX2_takeBack 6 = .ok (.isub, 1) := by decide +kernel
theorem dX2_takeBack_7 : decode cX2_takeBack 7 = .ok (.putfield 26, 3) := by decide +kernel
theorem dX2_takeBack_10 : decode cX2_takeBack 10 = .ok (.aload_n 0, 1) := by decide +kernel
theorem dX2_takeBack_11 : decode cX2_takeBack 11 = .ok (.aload_n 0, 1) := by decide +kernel
theorem dX2_takeBack_12 : decode cX2_takeBack 12 = .ok (.getfield 26, 3) := by decide +kernel
theorem dX2_takeBack_15 : decode cX2_takeBack 15 = .ok (.invokevirtual 39, 3) := by decide +kernel
theorem dX2_takeBack_18 : decode cX2_takeBack 18 = .ok (.istore_n 1, 1) := by decide +kernel
theorem dX2_takeBack_19 : decode cX2_takeBack 19 = .ok (.aload_n 0, 1) := by decide +kernel
theorem dX2_takeBack_20 : decode cX2_takeBack 20 = .ok (.aload_n 0, 1) := by decide +kernel
theorem dX2_takeBack_21 : decode cX2_takeBack 21 = .ok (.getfield 18, 3) := by decide +kernel
theorem dX2_takeBack_24 : decode cX2_takeBack 24 = .ok (.iload_n 1, 1) := by decide +kernel
theorem dX2_takeBack_25 : decode cX2_takeBack 25 = .ok (.invokevirtual 50, 3) := by decide +kernel
theorem dX2_takeBack_28 : decode cX2_takeBack 28 = .ok (.invokevirtual 65, 3) := by decide +kernel
theorem dX2_takeBack_31 : decode cX2_takeBack 31 = .ok (.aload_n 0, 1) := by decide +kernel
theorem dX2_takeBack_32 : decode cX2_takeBack 32 = .ok (.aload_n 0, 1) := by decide +kernel
theorem dX2_takeBack_33 : decode cX2_takeBack 33 = .ok (.getfield 18, 3) := by decide +kernel
theorem dX2_takeBack_36 : decode cX2_takeBack 36 = .ok (.iload_n 1, 1) := by decide +kernel
theorem dX2_takeBack_37 : decode cX2_takeBack 37 = .ok (.invokevirtual 58, 3) := by decide +kernel
theorem dX2_takeBack_40 : decode cX2_takeBack 40 = .ok (.invokevirtual 65, 3) := by decide +kernel
theorem dX2_takeBack_43 : decode cX2_takeBack 43 = .ok (.iadd, 1) := by decide +kernel
theorem dX2_takeBack_44 : decode cX2_takeBack 44 = .ok (.istore_n 2, 1) := by decide +kernel
theorem dX2_takeBack_45 : decode cX2_takeBack 45 = .ok (.aload_n 0, 1) := by decide +kernel
theorem dX2_takeBack_46 : decode cX2_takeBack 46 = .ok (.dup, 1) := by decide +kernel
theorem dX2_takeBack_47 : decode cX2_takeBack 47 = .ok (.getfield 22, 3) := by decide +kernel
theorem dX2_takeBack_50 : decode cX2_takeBack 50 = .ok (.iload_n 1, 1) := by decide +kernel
theorem dX2_takeBack_51 : decode cX2_takeBack 51 = .ok (.invokestatic 46, 3) := by decide +kernel
theorem dX2_takeBack_54 : decode cX2_takeBack 54 = .ok (.ldc2_w 68, 3) := by decide +kernel
theorem dX2_takeBack_57 : decode cX2_takeBack 57 = .ok (.lxor, 1) := by decide +kernel
theorem dX2_takeBack_58 : decode cX2_takeBack 58 = .ok (.land, 1) := by decide +kernel
theorem dX2_takeBack_59 : decode cX2_takeBack 59 = .ok (.putfield 22, 3) := by decide +kernel
theorem dX2_takeBack_62 : decode cX2_takeBack 62 = .ok (.iload_n 2, 1) := by decide +kernel
theorem dX2_takeBack_63 : decode cX2_takeBack 63 = .ok (.ifCond .ne 13, 3) := by decide +kernel
theorem dX2_takeBack_66 : decode cX2_takeBack 66 = .ok (.aload_n 0, 1) := by decide +kernel
theorem dX2_takeBack_67 : decode cX2_takeBack 67 = .ok (.iconst 1, 1) := by decide +kernel
theorem dX2_takeBack_68 : decode cX2_takeBack 68 = .ok (.aload_n 0, 1) := by decide +kernel
theorem dX2_takeBack_69 : decode cX2_takeBack 69 = .ok (.getfield 30, 3) := by decide +kernel
theorem dX2_takeBack_72 : decode cX2_takeBack 72 = .ok (.isub, 1) := by decide +kernel
theorem dX2_takeBack_73 : decode cX2_takeBack 73 = .ok (.putfield 30, 3) := by decide +kernel
theorem dX2_takeBack_76 : decode cX2_takeBack 76 = .ok (.iload_n 1, 1) := by decide +kernel
theorem dX2_takeBack_77 : decode cX2_takeBack 77 = .ok (.ireturn, 1) := by decide +kernel
set_option maxRecDepth 20000 in
theorem ggX2_release_X0_isComplete : GoodIn wsX2_release wsX0_isComplete := goodIn_r _ [8, 9, 10, 11, 7, 12, 13, 14, 15, 16, 17, 18, 19, 20, 21, 22, 23, 33, 34, 35, 36, 37, 38, 39] (by decide +kernel) (by decide +kernel)
set_option maxRecDepth 20000 in
theorem gX2_release_X0_isComplete : GoodIn wsX2_release (wsV RX2 61 RX0 yX0_isComplete wsX0_isComplete) := goodIn_app (goodIn_of _ (by decide +kernel)) ggX2_release_X0_isComplete
set_option maxRecDepth 20000 in
theorem ggX2_release_X3_put : GoodIn wsX2_release wsX3_put := goodIn_r _ [26] (by decide +kernel) (by decide +kernel)
set_option maxRecDepth 20000 in
theorem gX2_release_X3_put : GoodIn wsX2_release (va_wsS RX2 33 yX3_put wsX3_put) := goodIn_app (goodIn_of _ (by decide +kernel)) ggX2_release_X3_put
theorem dX2_release_0 : decode cX2_release 0 = .ok (.aload_n 0, 1) := by decide +kernel
theorem dX2_release_1 : decode cX2_release 1 = .ok (.getfield 18, 3) := by decide +kernel
theorem dX2_release_4 : decode cX2_release 4 = .ok (.aload_n 0, 1) := by decide +kernel
theorem dX2_release_5 : decode cX2_release 5 = .ok (.getfield 22, 3) := by decide +kernel
theorem dX2_release_8 : decode cX2_release 8 = .ok (.iload_n 1, 1) := by decide +kernel
theorem dX2_release_9 : decode cX2_release 9 = .ok (.invokevirtual 61, 3) := by decide +kernel
theorem dX2_release_12 : decode cX2_release 12 = .ok (.ifCond .ne 5, 3) := by decide +kernel
theorem dX2_release_15 : decode cX2_release 15 = .ok (.iconst 0, 1) := by decide +kernel
theorem dX2_release_16 : decode cX2_release 16 = .ok (.ireturn, 1) := by decide +kernel
theorem dX2_release_17 : decode cX2_release 17 = .ok (.aload_n 0, 1) := by decide +kernel
theorem dX2_release_18 : decode cX2_release 18 = .ok (.getfield 15, 3) := by decide +kernel
theorem dX2_release_21 : decode cX2_release 21 = .ok (.iload_n 1, 1) := by decide +kernel
theorem dX2_release_22 : decode cX2_release 22 = .ok (.iconst (-1), 1) := by decide +kernel
theorem dX2_release_23 : decode cX2_release 23 = .ok (.invokestatic 33, 3) := by decide +kernel
theorem dX2_release_26 : decode cX2_release 26 = .ok (.iconst 1, 1) := by decide +kernel
theorem dX2_release_27 : decode cX2_release 27 = .ok (.ireturn, 1) := by decide +kernel
set_option maxRecDepth 20000 in
theorem ggX2_moveAt_X3_at : GoodIn wsX2_moveAt wsX3_at := goodIn_r _ [5] (by decide +kernel) (by decide +kernel)
set_option maxRecDepth 20000 in
theorem gX2_moveAt_X3_at : GoodIn wsX2_moveAt (va_wsS RX2 70 yX3_at wsX3_at) := goodIn_app (goodIn_of _ (by decide +kernel)) ggX2_moveAt_X3_at
theorem dX2_moveAt_0 : decode cX2_moveAt 0 = .ok (.aload_n 0, 1) := by decide +kernel
theorem dX2_moveAt_1 : decode cX2_moveAt 1 = .ok (.getfield 9, 3) := by decide +kernel
theorem dX2_moveAt_4 : decode cX2_moveAt 4 = .ok (.iload_n 1, 1) := by decide +kernel
theorem dX2_moveAt_5 : decode cX2_moveAt 5 = .ok (.invokestatic 70, 3) := by decide +kernel
theorem dX2_moveAt_8 : decode cX2_moveAt 8 = .ok (.ireturn, 1) := by decide +kernel
set_option maxRecDepth 20000 in
theorem ggX2_ownerOf_X3_at : GoodIn wsX2_ownerOf wsX3_at := goodIn_r _ [5] (by decide +kernel) (by decide +kernel)
set_option maxRecDepth 20000 in
theorem gX2_ownerOf_X3_at : GoodIn wsX2_ownerOf (va_wsS RX2 70 yX3_at wsX3_at) := goodIn_app (goodIn_of _ (by decide +kernel)) ggX2_ownerOf_X3_at
theorem dX2_ownerOf_0 : decode cX2_ownerOf 0 = .ok (.aload_n 0, 1) := by decide +kernel
theorem dX2_ownerOf_1 : decode cX2_ownerOf 1 = .ok (.getfield 15, 3) := by decide +kernel
theorem dX2_ownerOf_4 : decode cX2_ownerOf 4 = .ok (.iload_n 1, 1) := by decide +kernel
theorem dX2_ownerOf_5 : decode cX2_ownerOf 5 = .ok (.invokestatic 70, 3) := by decide +kernel
theorem dX2_ownerOf_8 : decode cX2_ownerOf 8 = .ok (.ireturn, 1) := by decide +kernel
set_option maxRecDepth 20000 in
theorem ggX2_scoreOf_X2_ownerOf : GoodIn wsX2_scoreOf wsX2_ownerOf := goodIn_r _ [7, 8, 9, 10, 11, 12, 13, 14, 15, 16, 17, 18] (by decide +kernel) (by decide +kernel)
set_option maxRecDepth 20000 in
theorem gX2_scoreOf_X2_ownerOf : GoodIn wsX2_scoreOf (wsV RX2 43 RX2 yX2_ownerOf wsX2_ownerOf) := goodIn_app (goodIn_of _ (by decide +kernel)) ggX2_scoreOf_X2_ownerOf
theorem dX2_scoreOf_0 : decode cX2_scoreOf 0 = .ok (.iconst 0, 1) := by decide +kernel
theorem dX2_scoreOf_1 : decode cX2_scoreOf 1 = .ok (.istore_n 2, 1) := by decide +kernel
theorem dX2_scoreOf_2 : decode cX2_scoreOf 2 = .ok (.iconst 0, 1) := by decide +kernel
theorem dX2_scoreOf_3 : decode cX2_scoreOf 3 = .ok (.istore_n 3, 1) := by decide +kernel
theorem dX2_scoreOf_4 : decode cX2_scoreOf 4 = .ok (.iload_n 3, 1) := by decide +kernel
theorem dX2_scoreOf_5 : decode cX2_scoreOf 5 = .ok (.aload_n 0, 1) := by decide +kernel
theorem dX2_scoreOf_6 : decode cX2_scoreOf 6 = .ok (.getfield 18, 3) := by decide +kernel
theorem dX2_scoreOf_9 : decode cX2_scoreOf 9 = .ok (.getfield 74, 3) := by decide +kernel
theorem dX2_scoreOf_12 : decode cX2_scoreOf 12 = .ok (.if_icmp .ge 21, 3) := by decide +kernel
theorem dX2_scoreOf_15 : decode cX2_scoreOf 15 = .ok (.aload_n 0, 1) := by decide +kernel
theorem dX2_scoreOf_16 : decode cX2_scoreOf 16 = .ok (.iload_n 3, 1) := by decide +kernel
theorem dX2_scoreOf_17 : decode cX2_scoreOf 17 = .ok (.invokevirtual 43, 3) := by decide +kernel
theorem dX2_scoreOf_20 : decode cX2_scoreOf 20 = .ok (.iload_n 1, 1) := by decide +kernel
theorem dX2_scoreOf_21 : decode cX2_scoreOf 21 = .ok (.if_icmp .ne 6, 3) := by decide +kernel
theorem dX2_scoreOf_24 : decode cX2_scoreOf 24 = .ok (.iinc 2 1, 3) := by decide +kernel
theorem dX2_scoreOf_27 : decode cX2_scoreOf 27 = .ok (.iinc 3 1, 3) := by decide +kernel
theorem dX2_scoreOf_30 : decode cX2_scoreOf 30 = .ok (.goto (-26), 3) := by decide +kernel
theorem dX2_scoreOf_33 : decode cX2_scoreOf 33 = .ok (.iload_n 2, 1) := by decide +kernel
theorem dX2_scoreOf_34 : decode cX2_scoreOf 34 = .ok (.ireturn, 1) := by decide +kernel
set_option maxRecDepth 20000 in
theorem ggX2_difference_X2_scoreOf : GoodIn wsX2_difference wsX2_scoreOf := goodIn_r _ [5, 6, 7, 8, 9, 10, 4, 11, 12, 13, 14, 15, 16, 17, 18, 19, 20, 21, 22, 23, 24, 25, 26, 27, 28, 29] (by decide +kernel) (by decide +kernel)
set_option maxRecDepth 20000 in
theorem gX2_difference_X2_scoreOf : GoodIn wsX2_difference (wsV RX2 77 RX2 yX2_scoreOf wsX2_scoreOf) := goodIn_app (goodIn_of _ (by decide +kernel)) ggX2_difference_X2_scoreOf
theorem dX2_difference_0 : decode cX2_difference 0 = .ok (.aload_n 0, 1) := by decide +kernel
theorem dX2_difference_1 : decode cX2_difference 1 = .ok (.iconst 0, 1) := by decide +kernel
theorem dX2_difference_2 : decode cX2_difference 2 = .ok (.invokevirtual 77, 3) := by decide +kernel
theorem dX2_difference_5 : decode cX2_difference 5 = .ok (.aload_n 0, 1) := by decide +kernel
theorem dX2_difference_6 : decode cX2_difference 6 = .ok (.iconst 1, 1) := by decide +kernel
theorem dX2_difference_7 : decode cX2_difference 7 = .ok (.invokevirtual 77, 3) := by decide +kernel
theorem dX2_difference_10 : decode cX2_difference 10 = .ok (.isub, 1) := by decide +kernel
theorem dX2_difference_11 : decode cX2_difference 11 = .ok (.ireturn, 1) := by decide +kernel
theorem dX3_at_0 : decode cX3_at 0 = .ok (.iload_n 1, 1) := by decide +kernel
theorem dX3_at_1 : decode cX3_at 1 = .ok (.ifCond .lt 15, 3) := by decide +kernel
theorem dX3_at_4 : decode cX3_at 4 = .ok (.iload_n 1, 1) := by decide +kernel
theorem dX3_at_5 : decode cX3_at 5 = .ok (.aload_n 0, 1) := by decide +kernel
theorem dX3_at_6 : decode cX3_at 6 = .ok (.arraylength, 1) := by decide +kernel
theorem dX3_at_7 : decode cX3_at 7 = .ok (.if_icmp .ge 9, 3) := by decide +kernel
theorem dX3_at_10 : decode cX3_at 10 = .ok (.aload_n 0, 1) := by decide +kernel
theorem dX3_at_11 : decode cX3_at 11 = .ok (.iload_n 1, 1) := by decide +kernel
theorem dX3_at_12 : decode cX3_at 12 = .ok (.iaload, 1) := by decide +kernel
theorem dX3_at_13 : decode cX3_at 13 = .ok (.goto 4, 3) := by decide +kernel
theorem dX3_at_16 : decode cX3_at 16 = .ok (.iconst (-1), 1) := by decide +kernel
theorem dX3_at_17 : decode cX3_at 17 = .ok (.ireturn, 1) := by decide +kernel
theorem dX3_at__0 : decode cX3_at_ 0 = .ok (.iload_n 1, 1) := by decide +kernel
theorem dX3_at__1 : decode cX3_at_ 1 = .ok (.ifCond .lt 15, 3) := by decide +kernel
theorem dX3_at__4 : decode cX3_at_ 4 = .ok (.iload_n 1, 1) := by decide +kernel
theorem dX3_at__5 : decode cX3_at_ 5 = .ok (.aload_n 0, 1) := by decide +kernel
theorem dX3_at__6 : decode cX3_at_ 6 = .ok (.arraylength, 1) := by decide +kernel
theorem dX3_at__7 : decode cX3_at_ 7 = .ok (.if_icmp .ge 9, 3) := by decide +kernel
theorem dX3_at__10 : decode cX3_at_ 10 = .ok (.aload_n 0, 1) := by decide +kernel
theorem dX3_at__11 : decode cX3_at_ 11 = .ok (.iload_n 1, 1) := by decide +kernel
theorem dX3_at__12 : decode cX3_at_ 12 = .ok (.laload, 1) := by decide +kernel
theorem dX3_at__13 : decode cX3_at_ 13 = .ok (.goto 4, 3) := by decide +kernel
theorem dX3_at__16 : decode cX3_at_ 16 = .ok (.lconst 0, 1) := by decide +kernel
theorem dX3_at__17 : decode cX3_at_ 17 = .ok (.lreturn, 1) := by decide +kernel
theorem dX3_put_0 : decode cX3_put 0 = .ok (.iload_n 1, 1) := by decide +kernel
theorem dX3_put_1 : decode cX3_put 1 = .ok (.ifCond .lt 13, 3) := by decide +kernel
theorem dX3_put_4 : decode cX3_put 4 = .ok (.iload_n 1, 1) := by decide +kernel
theorem dX3_put_5 : decode cX3_put 5 = .ok (.aload_n 0, 1) := by decide +kernel
theorem dX3_put_6 : decode cX3_put 6 = .ok (.arraylength, 1) := by decide +kernel
theorem dX3_put_7 : decode cX3_put 7 = .ok (.if_icmp .ge 7, 3) := by decide +kernel
theorem dX3_put_10 : decode cX3_put 10 = .ok (.aload_n 0, 1) := by decide +kernel
theorem dX3_put_11 : decode cX3_put 11 = .ok (.iload_n 1, 1) := by decide +kernel
theorem dX3_put_12 : decode cX3_put 12 = .ok (.iload_n 2, 1) := by decide +kernel
theorem dX3_put_13 : decode cX3_put 13 = .ok (.iastore, 1) := by decide +kernel
theorem dX3_put_14 : decode cX3_put 14 = .ok (.return_, 1) := by decide +kernel
theorem dX3_put__0 : decode cX3_put_ 0 = .ok (.iload_n 1, 1) := by decide +kernel
theorem dX3_put__1 : decode cX3_put_ 1 = .ok (.ifCond .lt 13, 3) := by decide +kernel
theorem dX3_put__4 : decode cX3_put_ 4 = .ok (.iload_n 1, 1) := by decide +kernel
theorem dX3_put__5 : decode cX3_put_ 5 = .ok (.aload_n 0, 1) := by decide +kernel
theorem dX3_put__6 : decode cX3_put_ 6 = .ok (.arraylength, 1) := by decide +kernel
theorem dX3_put__7 : decode cX3_put_ 7 = .ok (.if_icmp .ge 7, 3) := by decide +kernel
theorem dX3_put__10 : decode cX3_put_ 10 = .ok (.aload_n 0, 1) := by decide +kernel
theorem dX3_put__11 : decode cX3_put_ 11 = .ok (.iload_n 1, 1) := by decide +kernel
theorem dX3_put__12 : decode cX3_put_ 12 = .ok (.lload_n 2, 1) := by decide +kernel
theorem dX3_put__13 : decode cX3_put_ 13 = .ok (.lastore, 1) := by decide +kernel
theorem dX3_put__14 : decode cX3_put_ 14 = .ok (.return_, 1) := by decide +kernel
theorem dX4_init_0 : decode cX4_init 0 = .ok (.aload_n 0, 1) := by decide +kernel
theorem dX4_init_1 : decode cX4_init 1 = .ok (.invokespecial 3, 3) := by decide +kernel
theorem dX4_init_4 : decode cX4_init 4 = .ok (.aload_n 0, 1) := by decide +kernel
theorem dX4_init_5 : decode cX4_init 5 = .ok (.bipush 12, 2) := by decide +kernel
theorem dX4_init_7 : decode cX4_init 7 = .ok (.newarray .int, 2) := by decide +kernel
theorem dX4_init_9 : decode cX4_init 9 = .ok (.putfield 9, 3) := by decide +kernel
theorem dX4_init_12 : decode cX4_init 12 = .ok (.aload_n 0, 1) := by decide +kernel
theorem dX4_init_13 : decode cX4_init 13 = .ok (.bipush 12, 2) := by decide +kernel
theorem dX4_init_15 : decode cX4_init 15 = .ok (.newarray .int, 2) := by decide +kernel
theorem dX4_init_17 : decode cX4_init 17 = .ok (.putfield 15, 3) := by decide +kernel
theorem dX4_init_20 : decode cX4_init 20 = .ok (.aload_n 0, 1) := by decide +kernel
theorem dX4_init_21 : decode cX4_init 21 = .ok (.bipush 12, 2) := by decide +kernel
theorem dX4_init_23 : decode cX4_init 23 = .ok (.newarray .int, 2) := by decide +kernel
theorem dX4_init_25 : decode cX4_init 25 = .ok (.putfield 18, 3) := by decide +kernel
theorem dX4_init_28 : decode cX4_init 28 = .ok (.aload_n 0, 1) := by decide +kernel
theorem dX4_init_29 : decode cX4_init 29 = .ok (.sipush 4096, 3) := by decide +kernel
theorem dX4_init_32 : decode cX4_init 32 = .ok (.newarray .int, 2) := by decide +kernel
theorem dX4_init_34 : decode cX4_init 34 = .ok (.putfield 21, 3) := by decide +kernel
theorem dX4_init_37 : decode cX4_init 37 = .ok (.aload_n 0, 1) := by decide +kernel
theorem dX4_init_38 : decode cX4_init 38 = .ok (.aload_n 1, 1) := by decide +kernel
theorem dX4_init_39 : decode cX4_init 39 = .ok (.putfield 24, 3) := by decide +kernel
theorem dX4_init_42 : decode cX4_init 42 = .ok (.return_, 1) := by decide +kernel
theorem dX4_forget_0 : decode cX4_forget 0 = .ok (.aload_n 0, 1) := by decide +kernel
theorem dX4_forget_1 : decode cX4_forget 1 = .ok (.iconst 0, 1) := by decide +kernel
theorem dX4_forget_2 : decode cX4_forget 2 = .ok (.putfield 28, 3) := by decide +kernel
theorem dX4_forget_5 : decode cX4_forget 5 = .ok (.return_, 1) := by decide +kernel
set_option maxRecDepth 20000 in
theorem ggX4_bestOf_X4_solve : GoodIn wsX4_bestOf wsX4_solve := goodIn_r _ [6, 7, 8, 9, 10, 11, 12, 13, 14, 15, 16, 17, 18, 1, 19, 20, 21, 22, 23, 24, 25, 26, 27, 28, 29, 30, 31, 32, 33, 34, 35, 36, 37, 38, 39, 5, 40, 41, 42, 43, 44, 45, 46, 47, 48, 49, 50, 51, 52, 53, 54, 55, 56, 57, 58, 59, 60, 61, 62, 63, 64, 65, 66, 67, 68, 69, 70, 71, 72, 73, 74, 75, 76, 77, 78, 79, 80, 81, 82, 83, 84, 85, 86, 87, 88, 89, 90, 91, 92, 93, 94, 95, 96, 97, 98] (by decide +kernel) (by decide +kernel)
set_option maxRecDepth 20000 in
theorem gX4_bestOf_X4_solve : GoodIn wsX4_bestOf (wsV RX4 32 RX4 yX4_solve wsX4_solve) := goodIn_app (goodIn_of _ (by decide +kernel)) ggX4_bestOf_X4_solve
set_option maxRecDepth 20000 in
theorem ggX4_bestOf_X4_indexSetOf : GoodIn wsX4_bestOf wsX4_indexSetOf := goodIn_r _ [62, 14, 37, 38, 39, 5, 40, 15, 41, 42, 35, 43, 63, 27, 64, 65, 66, 67, 84, 85, 86, 87, 88, 89, 90, 91] (by decide +kernel) (by decide +kernel)
set_option maxRecDepth 20000 in
theorem gX4_bestOf_X4_indexSetOf : GoodIn wsX4_bestOf (wsV RX4 36 RX4 yX4_indexSetOf wsX4_indexSetOf) := goodIn_app (goodIn_of _ (by decide +kernel)) ggX4_bestOf_X4_indexSetOf
set_option maxRecDepth 20000 in
theorem ggX4_bestOf_X3_at : GoodIn wsX4_bestOf wsX3_at := goodIn_r _ [43] (by decide +kernel) (by decide +kernel)
set_option maxRecDepth 20000 in
theorem gX4_bestOf_X3_at : GoodIn wsX4_bestOf (va_wsS RX4 40 yX3_at wsX3_at) := goodIn_app (goodIn_of _ (by decide +kernel)) ggX4_bestOf_X3_at
theorem dX4_bestOf_0 : decode cX4_bestOf 0 = .ok (.aload_n 0, 1) := by decide +kernel
theorem dX4_bestOf_1 : decode cX4_bestOf 1 = .ok (.lload_n 1, 1) := by decide +kernel
theorem dX4_bestOf_2 : decode cX4_bestOf 2 = .ok (.invokevirtual 32, 3) := by decide +kernel
theorem dX4_bestOf_5 : decode cX4_bestOf 5 = .ok (.aload_n 0, 1) := by decide +kernel
theorem dX4_bestOf_6 : decode cX4_bestOf 6 = .ok (.getfield 21, 3) := by decide +kernel
theorem dX4_bestOf_9 : decode cX4_bestOf 9 = .ok (.aload_n 0, 1) := by decide +kernel
theorem dX4_bestOf_10 : decode cX4_bestOf 10 = .ok (.lload_n 1, 1) := by decide +kernel
theorem dX4_bestOf_11 : decode cX4_bestOf 11 = .ok (.invokevirtual 36, 3) := by decide +kernel
theorem dX4_bestOf_14 : decode cX4_bestOf 14 = .ok (.invokestatic 40, 3) := by decide +kernel
theorem dX4_bestOf_17 : decode cX4_bestOf 17 = .ok (.ireturn, 1) := by decide +kernel
set_option maxRecDepth 20000 in
theorem ggX4_worthOf_X4_solve : GoodIn wsX4_worthOf wsX4_solve := goodIn_r _ [6, 7, 8, 9, 10, 11, 12, 13, 1, 14, 15, 16, 17, 18, 19, 20, 21, 22, 23, 24, 25, 26, 27, 28, 29, 30, 31, 32, 33, 34, 35, 36, 37, 38, 39, 5, 40, 41, 42, 43, 44, 45, 46, 47, 48, 49, 50, 51, 52, 53, 54, 55, 56, 57, 58, 59, 60, 61, 62, 63, 64, 65, 66, 67, 68, 69, 70, 71, 72, 73, 74, 75, 76, 77, 78, 79, 80, 81, 82, 83, 84, 85, 86, 87, 88, 89, 90, 91, 92, 93, 94, 95, 96, 97, 98] (by decide +kernel) (by decide +kernel)
set_option maxRecDepth 20000 in
theorem gX4_worthOf_X4_solve : GoodIn wsX4_worthOf (wsV RX4 32 RX4 yX4_solve wsX4_solve) := goodIn_app (goodIn_of _ (by decide +kernel)) ggX4_worthOf_X4_solve
set_option maxRecDepth 20000 in
theorem ggX4_worthOf_X4_indexSetOf : GoodIn wsX4_worthOf wsX4_indexSetOf := goodIn_r _ [62, 1, 37, 38, 39, 5, 40, 14, 41, 42, 35, 43, 63, 27, 64, 65, 66, 67, 84, 85, 86, 87, 88, 89, 90, 91] (by decide +kernel) (by decide +kernel)
set_option maxRecDepth 20000 in
theorem gX4_worthOf_X4_indexSetOf : GoodIn wsX4_worthOf (wsV RX4 36 RX4 yX4_indexSetOf wsX4_indexSetOf) := goodIn_app (goodIn_of _ (by decide +kernel)) ggX4_worthOf_X4_indexSetOf
set_option maxRecDepth 20000 in
theorem ggX4_worthOf_X4_lineAt : GoodIn wsX4_worthOf wsX4_lineAt := goodIn_r _ [40, 14, 41, 42, 35, 43, 84, 85, 86, 87, 88, 89, 90, 91] (by decide +kernel) (by decide +kernel)
set_option maxRecDepth 20000 in
theorem gX4_worthOf_X4_lineAt : GoodIn wsX4_worthOf (wsV RX4 50 RX4 yX4_lineAt wsX4_lineAt) := goodIn_app (goodIn_of _ (by decide +kernel)) ggX4_worthOf_X4_lineAt
set_option maxRecDepth 20000 in
theorem ggX4_worthOf_X4_worthInSet : GoodIn wsX4_worthOf wsX4_worthInSet := goodIn_r _ [83, 15, 17, 18, 41, 42, 35, 43, 84, 85, 86, 87, 88, 89, 90, 91] (by decide +kernel) (by decide +kernel)
set_option maxRecDepth 20000 in
theorem gX4_worthOf_X4_worthInSet : GoodIn wsX4_worthOf (wsV RX4 54 RX4 yX4_worthInSet wsX4_worthInSet) := goodIn_app (goodIn_of _ (by decide +kernel)) ggX4_worthOf_X4_worthInSet
theorem dX4_worthOf_0 : decode cX4_worthOf 0 = .ok (.aload_n 0, 1) := by decide +kernel
theorem dX4_worthOf_1 : decode cX4_worthOf 1 = .ok (.lload_n 1, 1) := by decide +kernel
theorem dX4_worthOf_2 : decode cX4_worthOf 2 = .ok (.invokevirtual 32, 3) := by decide +kernel
theorem dX4_worthOf_5 : decode cX4_worthOf 5 = .ok (.aload_n 0, 1) := by decide +kernel
theorem dX4_worthOf_6 : decode cX4_worthOf 6 = .ok (.lload_n 1, 1) := by decide +kernel
theorem dX4_worthOf_7 : decode cX4_worthOf 7 = .ok (.invokevirtual 36, 3) := by decide +kernel
theorem dX4_worthOf_10 : decode cX4_worthOf 10 = .ok (.istore 4, 2) := by decide +kernel
theorem dX4_worthOf_12 : decode cX4_worthOf 12 = .ok (.iconst 0, 1) := by decide +kernel
theorem dX4_worthOf_13 : decode cX4_worthOf 13 = .ok (.istore 5, 2) := by decide +kernel
theorem dX4_worthOf_15 : decode cX4_worthOf 15 = .ok (.iload 5, 2) := by decide +kernel
theorem dX4_worthOf_17 : decode cX4_worthOf 17 = .ok (.aload_n 0, 1) := by decide +kernel
theorem dX4_worthOf_18 : decode cX4_worthOf 18 = .ok (.getfield 46, 3) := by decide +kernel
theorem dX4_worthOf_21 : decode cX4_worthOf 21 = .ok (.if_icmp .ge 28, 3) := by decide +kernel
theorem dX4_worthOf_24 : decode cX4_worthOf 24 = .ok (.aload_n 0, 1) := by decide +kernel
theorem dX4_worthOf_25 : decode cX4_worthOf 25 = .ok (.iload 5, 2) := by decide +kernel
theorem dX4_worthOf_27 : decode cX4_worthOf 27 = .ok (.invokevirtual 50, 3) := by decide +kernel
theorem dX4_worthOf_30 : decode cX4_worthOf 30 = .ok (.iload_n 3, 1) := by decide +kernel
theorem dX4_worthOf_31 : decode cX4_worthOf 31 = .ok (.if_icmp .ne 12, 3) := by decide +kernel
theorem dX4_worthOf_34 : decode cX4_worthOf 34 = .ok (.aload_n 0, 1) := by decide +kernel
theorem dX4_worthOf_35 : decode cX4_worthOf 35 = .ok (.iload 4, 2) := by decide +kernel
theorem dX4_worthOf_37 : decode cX4_worthOf 37 = .ok (.iload 5, 2) := by decide +kernel
theorem dX4_worthOf_39 : decode cX4_worthOf 39 = .ok (.invokevirtual 54, 3) := by decide +kernel
theorem dX4_worthOf_42 : decode cX4_worthOf 42 = .ok (.ireturn, 1) := by decide +kernel
theorem dX4_worthOf_43 : decode cX4_worthOf 43 = .ok (.iinc 5 1, 3) := by decide +kernel
theorem dX4_worthOf_46 : decode cX4_worthOf 46 = .ok (.goto (-31), 3) := by decide +kernel
theorem dX4_worthOf_49 : decode cX4_worthOf 49 = .ok (.iconst 0, 1) := by decide +kernel
theorem dX4_worthOf_50 : decode cX4_worthOf 50 = .ok (.ireturn, 1) := by decide +kernel
set_option maxRecDepth 20000 in
theorem ggX4_bestLine_X4_solve : GoodIn wsX4_bestLine wsX4_solve := goodIn_r _ [7, 8, 9, 10, 11, 12, 13, 14, 1, 15, 16, 17, 18, 2, 19, 20, 21, 22, 23, 24, 25, 26, 27, 28, 29, 30, 31, 32, 33, 34, 35, 36, 37, 38, 39, 6, 40, 41, 42, 43, 44, 45, 46, 47, 48, 49, 50, 51, 52, 53, 54, 55, 56, 57, 58, 59, 60, 61, 62, 63, 64, 65, 66, 67, 68, 69, 70, 71, 72, 73, 74, 75, 76, 77, 78, 79, 80, 81, 82, 83, 84, 85, 86, 87, 88, 89, 90, 91, 92, 93, 94, 95, 96, 97, 98] (by decide +kernel) (by decide +kernel)
set_option maxRecDepth 20000 in
theorem gX4_bestLine_X4_solve : GoodIn wsX4_bestLine (wsV RX4 32 RX4 yX4_solve wsX4_solve) := goodIn_app (goodIn_of _ (by decide +kernel)) ggX4_bestLine_X4_solve
set_option maxRecDepth 20000 in
theorem ggX4_bestLine_X4_indexSetOf : GoodIn wsX4_bestLine wsX4_indexSetOf := goodIn_r _ [62, 1, 37, 38, 39, 6, 40, 15, 41, 42, 35, 43, 63, 27, 64, 65, 66, 67, 84, 85, 86, 87, 88, 89, 90, 91] (by decide +kernel) (by decide +kernel)
set_option maxRecDepth 20000 in
theorem gX4_bestLine_X4_indexSetOf : GoodIn wsX4_bestLine (wsV RX4 36 RX4 yX4_indexSetOf wsX4_indexSetOf) := goodIn_app (goodIn_of _ (by decide +kernel)) ggX4_bestLine_X4_indexSetOf
set_option maxRecDepth 20000 in
theorem ggX4_bestLine_X4_worthInSet : GoodIn wsX4_bestLine wsX4_worthInSet := goodIn_r _ [83, 16, 18, 2, 41, 42, 35, 43, 84, 85, 86, 87, 88, 89, 90, 91] (by decide +kernel) (by decide +kernel)
set_option maxRecDepth 20000 in
theorem gX4_bestLine_X4_worthInSet : GoodIn wsX4_bestLine (wsV RX4 54 RX4 yX4_worthInSet wsX4_worthInSet) := goodIn_app (goodIn_of _ (by decide +kernel)) ggX4_bestLine_X4_worthInSet
set_option maxRecDepth 20000 in
theorem ggX4_bestLine_X3_at : GoodIn wsX4_bestLine wsX3_at := goodIn_r _ [43] (by decide +kernel) (by decide +kernel)
set_option maxRecDepth 20000 in
theorem gX4_bestLine_X3_at : GoodIn wsX4_bestLine (va_wsS RX4 40 yX3_at wsX3_at) := goodIn_app (goodIn_of _ (by decide +kernel)) ggX4_bestLine_X3_at
set_option maxRecDepth 20000 in
theorem ggX4_bestLine_X4_lineAt : GoodIn wsX4_bestLine wsX4_lineAt := goodIn_r _ [40, 15, 41, 42, 35, 43, 84, 85, 86, 87, 88, 89, 90, 91] (by decide +kernel) (by decide +kernel)
set_option maxRecDepth 20000 in
theorem gX4_bestLine_X4_lineAt : GoodIn wsX4_bestLine (wsV RX4 50 RX4 yX4_lineAt wsX4_lineAt) := goodIn_app (goodIn_of _ (by decide +kernel)) ggX4_bestLine_X4_lineAt
theorem dX4_bestLine_0 : decode cX4_bestLine 0 = .ok (.aload_n 0, 1) := by decide +kernel
theorem dX4_bestLine_1 : decode cX4_bestLine 1 = .ok (.lload_n 1, 1) := by decide +kernel
theorem dX4_bestLine_2 : decode cX4_bestLine 2 = .ok (.invokevirtual 32, 3) := by decide +kernel
theorem dX4_bestLine_5 : decode cX4_bestLine 5 = .ok (.aload_n 0, 1) := by decide +kernel
theorem dX4_bestLine_6 : decode cX4_bestLine 6 = .ok (.lload_n 1, 1) := by decide +kernel
theorem dX4_bestLine_7 : decode cX4_bestLine 7 = .ok (.invokevirtual 36, 3) := by decide +kernel
theorem dX4_bestLine_10 : decode cX4_bestLine 10 = .ok (.istore_n 3, 1) := by decide +kernel
theorem dX4_bestLine_11 : decode cX4_bestLine 11 = .ok (.iconst 0, 1) := by decide +kernel
theorem dX4_bestLine_12 : decode cX4_bestLine 12 = .ok (.istore 4, 2) := by decide +kernel
theorem dX4_bestLine_14 : decode cX4_bestLine 14 = .ok (.iload 4, 2) := by decide +kernel
theorem dX4_bestLine_16 : decode cX4_bestLine 16 = .ok (.aload_n 0, 1) := by decide +kernel
theorem dX4_bestLine_17 : decode cX4_bestLine 17 = .ok (.getfield 46, 3) := by decide +kernel
theorem dX4_bestLine_20 : decode cX4_bestLine 20 = .ok (.if_icmp .ge 43, 3) := by decide +kernel
theorem dX4_bestLine_23 : decode cX4_bestLine 23 = .ok (.iload_n 3, 1) := by decide +kernel
theorem dX4_bestLine_24 : decode cX4_bestLine 24 = .ok (.iconst 1, 1) := by decide +kernel
theorem dX4_bestLine_25 : decode cX4_bestLine 25 = .ok (.iload 4, 2) := by decide +kernel
theorem dX4_bestLine_27 : decode cX4_bestLine 27 = .ok (.ishl, 1) := by decide +kernel
theorem dX4_bestLine_28 : decode cX4_bestLine 28 = .ok (.iand, 1) := by decide +kernel
theorem dX4_bestLine_29 : decode cX4_bestLine 29 = .ok (.ifCond .eq 28, 3) := by decide +kernel
theorem dX4_bestLine_32 : decode cX4_bestLine 32 = .ok (.aload_n 0, 1) := by decide +kernel
theorem dX4_bestLine_33 : decode cX4_bestLine 33 = .ok (.iload_n 3, 1) := by decide +kernel
theorem dX4_bestLine_34 : decode cX4_bestLine 34 = .ok (.iload 4, 2) := by decide +kernel
theorem dX4_bestLine_36 : decode cX4_bestLine 36 = .ok (.invokevirtual 54, 3) := by decide +kernel
theorem dX4_bestLine_39 : decode cX4_bestLine 39 = .ok (.aload_n 0, 1) := by decide +kernel
theorem dX4_bestLine_40 : decode cX4_bestLine 40 = .ok (.getfield 21, 3) := by decide +kernel
theorem dX4_bestLine_43 : decode cX4_bestLine 43 = .ok (.iload_n 3, 1) := by decide +kernel
theorem dX4_bestLine_44 : decode cX4_bestLine 44 = .ok (.invokestatic 40, 3) := by decide +kernel
theorem dX4_bestLine_47 : decode cX4_bestLine 47 = .ok (.if_icmp .ne 10, 3) := by decide +kernel
theorem dX4_bestLine_50 : decode cX4_bestLine 50 = .ok (.aload_n 0, 1) := by decide +kernel
theorem dX4_bestLine_51 : decode cX4_bestLine 51 = .ok (.iload 4, 2) := by decide +kernel
theorem dX4_bestLine_53 : decode cX4_bestLine 53 = .ok (.invokevirtual 50, 3) := by decide +kernel
theorem dX4_bestLine_56 : decode cX4_bestLine 56 = .ok (.ireturn, 1) := by decide +kernel
theorem dX4_bestLine_57 : decode cX4_bestLine 57 = .ok (.iinc 4 1, 3) := by decide +kernel
theorem dX4_bestLine_60 : decode cX4_bestLine 60 = .ok (.goto (-46), 3) := by decide +kernel
theorem dX4_bestLine_63 : decode cX4_bestLine 63 = .ok (.iconst (-1), 1) := by decide +kernel
theorem dX4_bestLine_64 : decode cX4_bestLine 64 = .ok (.ireturn, 1) := by decide +kernel
set_option maxRecDepth 20000 in
theorem ggX4_solve_J13_bitCount_95d88 : GoodIn wsX4_solve wsJ13_bitCount_95d88 := goodIn_r _ [17, 18, 19, 20] (by decide +kernel) (by decide +kernel)
set_option maxRecDepth 20000 in
theorem gX4_solve_J13_bitCount_95d88 : GoodIn wsX4_solve (va_wsS RX4 64 yJ13_bitCount_95d88 wsJ13_bitCount_95d88) := goodIn_app (goodIn_of _ (by decide +kernel)) ggX4_solve_J13_bitCount_95d88
set_option maxRecDepth 20000 in
theorem ggX4_solve_X8_memberOf : GoodIn wsX4_solve wsX8_memberOf := goodIn_r _ [23, 24, 25, 22, 26, 27, 15, 16, 17, 18, 19, 20] (by decide +kernel) (by decide +kernel)
set_option maxRecDepth 20000 in
theorem gX4_solve_X8_memberOf_n74 : GoodIn wsX4_solve (wsX8_memberOf) := ggX4_solve_X8_memberOf
set_option maxRecDepth 20000 in
theorem ggX4_solve_X3_put : GoodIn wsX4_solve wsX3_put := goodIn_r _ [31] (by decide +kernel) (by decide +kernel)
set_option maxRecDepth 20000 in
theorem gX4_solve_X3_put : GoodIn wsX4_solve (va_wsS RX4 78 yX3_put wsX3_put) := goodIn_app (goodIn_of _ (by decide +kernel)) ggX4_solve_X3_put
set_option maxRecDepth 20000 in
theorem ggX4_solve_X4_lineAt : GoodIn wsX4_solve wsX4_lineAt := goodIn_r _ [36, 9, 37, 38, 30, 39, 80, 81, 82, 83, 84, 85, 86, 87] (by decide +kernel) (by decide +kernel)
set_option maxRecDepth 20000 in
theorem gX4_solve_X4_lineAt : GoodIn wsX4_solve (wsV RX4 50 RX4 yX4_lineAt wsX4_lineAt) := goodIn_app (goodIn_of _ (by decide +kernel)) ggX4_solve_X4_lineAt
set_option maxRecDepth 20000 in
theorem ggX4_solve_X0_firstBox : GoodIn wsX4_solve wsX0_firstBox := goodIn_r _ [44, 45, 46, 38, 30, 39, 88, 89, 90, 91, 92, 93, 94] (by decide +kernel) (by decide +kernel)
set_option maxRecDepth 20000 in
theorem gX4_solve_X0_firstBox : GoodIn wsX4_solve (wsV RX4 82 RX0 yX0_firstBox wsX0_firstBox) := goodIn_app (goodIn_of _ (by decide +kernel)) ggX4_solve_X0_firstBox
set_option maxRecDepth 20000 in
theorem ggX4_solve_X0_sidesOf : GoodIn wsX4_solve wsX0_sidesOf := goodIn_r _ [50, 51, 52, 53, 30, 54, 88, 89, 90, 91, 92, 93, 94] (by decide +kernel) (by decide +kernel)
set_option maxRecDepth 20000 in
theorem gX4_solve_X0_sidesOf : GoodIn wsX4_solve (wsV RX4 87 RX0 yX0_sidesOf wsX0_sidesOf) := goodIn_app (goodIn_of _ (by decide +kernel)) ggX4_solve_X0_sidesOf
set_option maxRecDepth 20000 in
theorem ggX4_solve_X4_indexSetOf : GoodIn wsX4_solve wsX4_indexSetOf := goodIn_r _ [58, 8, 32, 33, 34, 35, 36, 9, 37, 38, 30, 39, 59, 22, 60, 61, 62, 63, 80, 81, 82, 83, 84, 85, 86, 87] (by decide +kernel) (by decide +kernel)
set_option maxRecDepth 20000 in
theorem gX4_solve_X4_indexSetOf : GoodIn wsX4_solve (wsV RX4 36 RX4 yX4_indexSetOf wsX4_indexSetOf) := goodIn_app (goodIn_of _ (by decide +kernel)) ggX4_solve_X4_indexSetOf
set_option maxRecDepth 20000 in
theorem ggX4_solve_X0_secondBox : GoodIn wsX4_solve wsX0_secondBox := goodIn_r _ [67, 68, 46, 38, 30, 39, 88, 89, 90, 91, 92, 93, 94] (by decide +kernel) (by decide +kernel)
set_option maxRecDepth 20000 in
theorem gX4_solve_X0_secondBox : GoodIn wsX4_solve (wsV RX4 91 RX0 yX0_secondBox wsX0_secondBox) := goodIn_app (goodIn_of _ (by decide +kernel)) ggX4_solve_X0_secondBox
set_option maxRecDepth 20000 in
theorem ggX4_solve_X4_greatestWorth : GoodIn wsX4_solve wsX4_greatestWorth := goodIn_r _ [72, 8, 73, 74, 6, 75, 76, 77, 78, 35, 79, 10, 12, 13, 37, 38, 30, 39, 80, 81, 82, 83, 84, 85, 86, 87] (by decide +kernel) (by decide +kernel)
set_option maxRecDepth 20000 in
theorem gX4_solve_X4_greatestWorth : GoodIn wsX4_solve (wsV RX4 94 RX4 yX4_greatestWorth wsX4_greatestWorth) := goodIn_app (goodIn_of _ (by decide +kernel)) ggX4_solve_X4_greatestWorth
theorem dX4_solve_0 : decode cX4_solve 0 = .ok (.aload_n 0, 1) := by decide +kernel
theorem dX4_solve_1 : decode cX4_solve 1 = .ok (.getfield 28, 3) := by decide +kernel
theorem dX4_solve_4 : decode cX4_solve 4 = .ok (.ifCond .eq 19, 3) := by decide +kernel
theorem dX4_solve_7 : decode cX4_solve 7 = .ok (.lload_n 1, 1) := by decide +kernel
theorem dX4_solve_8 : decode cX4_solve 8 = .ok (.aload_n 0, 1) := by decide +kernel
theorem dX4_solve_9 : decode cX4_solve 9 = .ok (.getfield 58, 3) := by decide +kernel
theorem dX4_solve_12 : decode cX4_solve 12 = .ok (.ldc2_w 62, 3) := by decide +kernel
theorem dX4_solve_15 : decode cX4_solve 15 = .ok (.lxor, 1) := by decide +kernel
theorem dX4_solve_16 : decode cX4_solve 16 = .ok (.land, 1) := by decide +kernel
theorem dX4_solve_17 : decode cX4_solve 17 = .ok (.lconst 0, 1) := by decide +kernel
theorem dX4_solve_18 : decode cX4_solve 18 = .ok (.lcmp, 1) := by decide +kernel
theorem dX4_solve_19 : decode cX4_solve 19 = .ok (.ifCond .ne 4, 3) := by decide +kernel
theorem dX4_solve_22 : decode cX4_solve 22 = .ok (.return_, 1) := by decide +kernel
theorem dX4_solve_23 : decode cX4_solve 23 = .ok (.aload_n 0, 1) := by decide +kernel
theorem dX4_solve_24 : decode cX4_solve 24 = .ok (.iconst 1, 1) := by decide +kernel
theorem dX4_solve_25 : decode cX4_solve 25 = .ok (.putfield 28, 3) := by decide +kernel
theorem dX4_solve_28 : decode cX4_solve 28 = .ok (.aload_n 0, 1) := by decide +kernel
theorem dX4_solve_29 : decode cX4_solve 29 = .ok (.lload_n 1, 1) := by decide +kernel
theorem dX4_solve_30 : decode cX4_solve 30 = .ok (.putfield 58, 3) := by decide +kernel
theorem dX4_solve_33 : decode cX4_solve 33 = .ok (.aload_n 0, 1) := by decide +kernel
theorem dX4_solve_34 : decode cX4_solve 34 = .ok (.lload_n 1, 1) := by decide +kernel
theorem dX4_solve_35 : decode cX4_solve 35 = .ok (.invokestatic 64, 3) := by decide +kernel
theorem dX4_solve_38 : decode cX4_solve 38 = .ok (.bipush 12, 2) := by decide +kernel
theorem dX4_solve_40 : decode cX4_solve 40 = .ok (.invokestatic 69, 3) := by decide +kernel
theorem dX4_solve_43 : decode cX4_solve 43 = .ok (.putfield 46, 3) := by decide +kernel
theorem dX4_solve_46 : decode cX4_solve 46 = .ok (.iconst 0, 1) := by decide +kernel
theorem dX4_solve_47 : decode cX4_solve 47 = .ok (.istore_n 3, 1) := by decide +kernel
theorem dX4_solve_48 : decode cX4_solve 48 = .ok (.iload_n 3, 1) := by decide +kernel
theorem dX4_solve_49 : decode cX4_solve 49 = .ok (.aload_n 0, 1) := by decide +kernel
theorem dX4_solve_50 : decode cX4_solve 50 = .ok (.getfield 46, 3) := by decide +kernel
theorem dX4_solve_53 : decode cX4_solve 53 = .ok (.if_icmp .ge 22, 3) := by decide +kernel
theorem dX4_solve_56 : decode cX4_solve 56 = .ok (.aload_n 0, 1) := by decide +kernel
theorem dX4_solve_57 : decode cX4_solve 57 = .ok (.getfield 9, 3) := by decide +kernel
theorem dX4_solve_60 : decode cX4_solve 60 = .ok (.iload_n 3, 1) := by decide +kernel
theorem dX4_solve_61 : decode cX4_solve 61 = .ok (.lload_n 1, 1) := by decide +kernel
theorem dX4_solve_62 : decode cX4_solve 62 = .ok (.iload_n 3, 1) := by decide +kernel
theorem dX4_solve_63 : decode cX4_solve 63 = .ok (.invokestatic 74, 3) := by decide +kernel
theorem dX4_solve_66 : decode cX4_solve 66 = .ok (.invokestatic 78, 3) := by decide +kernel
theorem dX4_solve_69 : decode cX4_solve 69 = .ok (.iinc 3 1, 3) := by decide +kernel
theorem dX4_solve_72 : decode cX4_solve 72 = .ok (.goto (-24), 3) := by decide +kernel
theorem dX4_solve_75 : decode cX4_solve 75 = .ok (.iconst 0, 1) := by decide +kernel
theorem dX4_solve_76 : decode cX4_solve 76 = .ok (.istore_n 3, 1) := by decide +kernel
theorem dX4_solve_77 : decode cX4_solve 77 = .ok (.iload_n 3, 1) := by decide +kernel
theorem dX4_solve_78 : decode cX4_solve 78 = .ok (.aload_n 0, 1) := by decide +kernel
theorem dX4_solve_79 : decode cX4_solve 79 = .ok (.getfield 46, 3) := by decide +kernel
theorem dX4_solve_82 : decode cX4_solve 82 = .ok (.if_icmp .ge 71, 3) := by decide +kernel
theorem dX4_solve_85 : decode cX4_solve 85 = .ok (.aload_n 0, 1) := by decide +kernel
theorem dX4_solve_86 : decode cX4_solve 86 = .ok (.getfield 15, 3) := by decide +kernel
theorem dX4_solve_89 : decode cX4_solve 89 = .ok (.iload_n 3, 1) := by decide +kernel
theorem dX4_solve_90 : decode cX4_solve 90 = .ok (.aload_n 0, 1) := by decide +kernel
theorem dX4_solve_91 : decode cX4_solve 91 = .ok (.aload_n 0, 1) := by decide +kernel
theorem dX4_solve_92 : decode cX4_solve 92 = .ok (.getfield 24, 3) := by decide +kernel
theorem dX4_solve_95 : decode cX4_solve 95 = .ok (.aload_n 0, 1) := by decide +kernel
theorem dX4_solve_96 : decode cX4_solve 96 = .ok (.getfield 24, 3) := by decide +kernel
theorem dX4_solve_99 : decode cX4_solve 99 = .ok (.aload_n 0, 1) := by decide +kernel
theorem dX4_solve_100 : decode cX4_solve 100 = .ok (.iload_n 3, 1) := by decide +kernel
theorem dX4_solve_101 : decode cX4_solve 101 = .ok (.invokevirtual 50, 3) := by decide +kernel
theorem dX4_solve_104 : decode cX4_solve 104 = .ok (.invokevirtual 82, 3) := by decide +kernel
theorem dX4_solve_107 : decode cX4_solve 107 = .ok (.invokevirtual 87, 3) := by decide +kernel
theorem dX4_solve_110 : decode cX4_solve 110 = .ok (.invokevirtual 36, 3) := by decide +kernel
theorem dX4_solve_113 : decode cX4_solve 113 = .ok (.invokestatic 78, 3) := by decide +kernel
theorem dX4_solve_116 : decode cX4_solve 116 = .ok (.aload_n 0, 1) := by decide +kernel
theorem dX4_solve_117 : decode cX4_solve 117 = .ok (.getfield 18, 3) := by decide +kernel
theorem dX4_solve_120 : decode cX4_solve 120 = .ok (.iload_n 3, 1) := by decide +kernel
theorem dX4_solve_121 : decode cX4_solve 121 = .ok (.aload_n 0, 1) := by decide +kernel
theorem dX4_solve_122 : decode cX4_solve 122 = .ok (.aload_n 0, 1) := by decide +kernel
theorem dX4_solve_123 : decode cX4_solve 123 = .ok (.getfield 24, 3) := by decide +kernel
theorem dX4_solve_126 : decode cX4_solve 126 = .ok (.aload_n 0, 1) := by decide +kernel
theorem dX4_solve_127 : decode cX4_solve 127 = .ok (.getfield 24, 3) := by decide +kernel
theorem dX4_solve_130 : decode cX4_solve 130 = .ok (.aload_n 0, 1) := by decide +kernel
theorem dX4_solve_131 : decode cX4_solve 131 = .ok (.iload_n 3, 1) := by decide +kernel
theorem dX4_solve_132 : decode cX4_solve 132 = .ok (.invokevirtual 50, 3) := by decide +kernel
theorem dX4_solve_135 : decode cX4_solve 135 = .ok (.invokevirtual 91, 3) := by decide +kernel
theorem dX4_solve_138 : decode cX4_solve 138 = .ok (.invokevirtual 87, 3) := by decide +kernel
theorem dX4_solve_141 : decode cX4_solve 141 = .ok (.invokevirtual 36, 3) := by decide +kernel
theorem dX4_solve_144 : decode cX4_solve 144 = .ok (.invokestatic 78, 3) := by decide +kernel
theorem dX4_solve_147 : decode cX4_solve 147 = .ok (.iinc 3 1, 3) := by decide +kernel
theorem dX4_solve_150 : decode cX4_solve 150 = .ok (.goto (-73), 3) := by decide +kernel
theorem dX4_solve_153 : decode cX4_solve 153 = .ok (.aload_n 0, 1) := by decide +kernel
theorem dX4_solve_154 : decode cX4_solve 154 = .ok (.getfield 21, 3) := by decide +kernel
theorem dX4_solve_157 : decode cX4_solve 157 = .ok (.iconst 0, 1) := by decide +kernel
theorem dX4_solve_158 : decode cX4_solve 158 = .ok (.iconst 0, 1) := by decide +kernel
theorem dX4_solve_159 : decode cX4_solve 159 = .ok (.invokestatic 78, 3) := by decide +kernel
theorem dX4_solve_162 : decode cX4_solve 162 = .ok (.iconst 1, 1) := by decide +kernel
theorem dX4_solve_163 : decode cX4_solve 163 = .ok (.istore_n 3, 1) := by decide +kernel
theorem dX4_solve_164 : decode cX4_solve 164 = .ok (.iload_n 3, 1) := by decide +kernel
theorem dX4_solve_165 : decode cX4_solve 165 = .ok (.iconst 1, 1) := by decide +kernel
theorem dX4_solve_166 : decode cX4_solve 166 = .ok (.aload_n 0, 1) := by decide +kernel
theorem dX4_solve_167 : decode cX4_solve 167 = .ok (.getfield 46, 3) := by decide +kernel
theorem dX4_solve_170 : decode cX4_solve 170 = .ok (.ishl, 1) := by decide +kernel
theorem dX4_solve_171 : decode cX4_solve 171 = .ok (.if_icmp .ge 22, 3) := by decide +kernel
theorem dX4_solve_174 : decode cX4_solve 174 = .ok (.aload_n 0, 1) := by decide +kernel
theorem dX4_solve_175 : decode cX4_solve 175 = .ok (.getfield 21, 3) := by decide +kernel
theorem dX4_solve_178 : decode cX4_solve 178 = .ok (.iload_n 3, 1) := by decide +kernel
theorem dX4_solve_179 : decode cX4_solve 179 = .ok (.aload_n 0, 1) := by decide +kernel
theorem dX4_solve_180 : decode cX4_solve 180 = .ok (.iload_n 3, 1) := by decide +kernel
theorem dX4_solve_181 : decode cX4_solve 181 = .ok (.invokevirtual 94, 3) := by decide +kernel
theorem dX4_solve_184 : decode cX4_solve 184 = .ok (.invokestatic 78, 3) := by decide +kernel
theorem dX4_solve_187 : decode cX4_solve 187 = .ok (.iinc 3 1, 3) := by decide +kernel
theorem dX4_solve_190 : decode cX4_solve 190 = .ok (.goto (-26), 3) := by decide +kernel
theorem dX4_solve_193 : decode cX4_solve 193 = .ok (.return_, 1) := by decide +kernel
set_option maxRecDepth 20000 in
theorem ggX4_lineAt_X3_at : GoodIn wsX4_lineAt wsX3_at := goodIn_r _ [5] (by decide +kernel) (by decide +kernel)
set_option maxRecDepth 20000 in
theorem gX4_lineAt_X3_at : GoodIn wsX4_lineAt (va_wsS RX4 40 yX3_at wsX3_at) := goodIn_app (goodIn_of _ (by decide +kernel)) ggX4_lineAt_X3_at
theorem dX4_lineAt_0 : decode cX4_lineAt 0 = .ok (.aload_n 0, 1) := by decide +kernel
theorem dX4_lineAt_1 : decode cX4_lineAt 1 = .ok (.getfield 9, 3) := by decide +kernel
theorem dX4_lineAt_4 : decode cX4_lineAt 4 = .ok (.iload_n 1, 1) := by decide +kernel
theorem dX4_lineAt_5 : decode cX4_lineAt 5 = .ok (.invokestatic 40, 3) := by decide +kernel
theorem dX4_lineAt_8 : decode cX4_lineAt 8 = .ok (.ireturn, 1) := by decide +kernel
set_option maxRecDepth 20000 in
theorem ggX4_indexSetOf_X4_lineAt : GoodIn wsX4_indexSetOf wsX4_lineAt := goodIn_r _ [6, 7, 8, 9, 10, 11, 18, 19, 20, 21, 22, 23, 24, 25] (by decide +kernel) (by decide +kernel)
set_option maxRecDepth 20000 in
theorem gX4_indexSetOf_X4_lineAt : GoodIn wsX4_indexSetOf (wsV RX4 50 RX4 yX4_lineAt wsX4_lineAt) := goodIn_app (goodIn_of _ (by decide +kernel)) ggX4_indexSetOf_X4_lineAt
set_option maxRecDepth 20000 in
theorem ggX4_indexSetOf_X8_contains : GoodIn wsX4_indexSetOf wsX8_contains := goodIn_r _ [14, 15, 16, 13, 17] (by decide +kernel) (by decide +kernel)
set_option maxRecDepth 20000 in
theorem gX4_indexSetOf_X8_contains_n97 : GoodIn wsX4_indexSetOf (wsX8_contains) := ggX4_indexSetOf_X8_contains
theorem dX4_indexSetOf_0 : decode cX4_indexSetOf 0 = .ok (.iconst 0, 1) := by decide +kernel
theorem dX4_indexSetOf_1 : decode cX4_indexSetOf 1 = .ok (.istore_n 3, 1) := by decide +kernel
theorem dX4_indexSetOf_2 : decode cX4_indexSetOf 2 = .ok (.iconst 0, 1) := by decide +kernel
theorem dX4_indexSetOf_3 : decode cX4_indexSetOf 3 = .ok (.istore 4, 2) := by decide +kernel
theorem dX4_indexSetOf_5 : decode cX4_indexSetOf 5 = .ok (.iload 4, 2) := by decide +kernel
theorem dX4_indexSetOf_7 : decode cX4_indexSetOf 7 = .ok (.aload_n 0, 1) := by decide +kernel
theorem dX4_indexSetOf_8 : decode cX4_indexSetOf 8 = .ok (.getfield 46, 3) := by decide +kernel
theorem dX4_indexSetOf_11 : decode cX4_indexSetOf 11 = .ok (.if_icmp .ge 29, 3) := by decide +kernel
theorem dX4_indexSetOf_14 : decode cX4_indexSetOf 14 = .ok (.lload_n 1, 1) := by decide +kernel
theorem dX4_indexSetOf_15 : decode cX4_indexSetOf 15 = .ok (.aload_n 0, 1) := by decide +kernel
theorem dX4_indexSetOf_16 : decode cX4_indexSetOf 16 = .ok (.iload 4, 2) := by decide +kernel
theorem dX4_indexSetOf_18 : decode cX4_indexSetOf 18 = .ok (.invokevirtual 50, 3) := by decide +kernel
theorem dX4_indexSetOf_21 : decode cX4_indexSetOf 21 = .ok (.invokestatic 97, 3) := by decide +kernel
theorem dX4_indexSetOf_24 : decode cX4_indexSetOf 24 = .ok (.ifCond .eq 10, 3) := by decide +kernel
theorem dX4_indexSetOf_27 : decode cX4_indexSetOf 27 = .ok (.iload_n 3, 1) := by decide +kernel
theorem dX4_indexSetOf_28 : decode cX4_indexSetOf 28 = .ok (.iconst 1, 1) := by decide +kernel
theorem dX4_indexSetOf_29 : decode cX4_indexSetOf 29 = .ok (.iload 4, 2) := by decide +kernel
theorem dX4_indexSetOf_31 : decode cX4_indexSetOf 31 = .ok (.ishl, 1) := by decide +kernel
theorem dX4_indexSetOf_32 : decode cX4_indexSetOf 32 = .ok (.ior, 1) := by decide +kernel
theorem dX4_indexSetOf_33 : decode cX4_indexSetOf 33 = .ok (.istore_n 3, 1) := by decide +kernel
theorem dX4_indexSetOf_34 : decode cX4_indexSetOf 34 = .ok (.iinc 4 1, 3) := by decide +kernel
theorem dX4_indexSetOf_37 : decode cX4_indexSetOf 37 = .ok (.goto (-32), 3) := by decide +kernel
theorem dX4_indexSetOf_40 : decode cX4_indexSetOf 40 = .ok (.iload_n 3, 1) := by decide +kernel
theorem dX4_indexSetOf_41 : decode cX4_indexSetOf 41 = .ok (.ireturn, 1) := by decide +kernel
set_option maxRecDepth 20000 in
theorem ggX4_greatestWorth_X4_worthInSet : GoodIn wsX4_greatestWorth wsX4_worthInSet := goodIn_r _ [10, 11, 12, 13, 14, 15, 16, 17, 18, 19, 20, 21, 22, 23, 24, 25] (by decide +kernel) (by decide +kernel)
set_option maxRecDepth 20000 in
theorem gX4_greatestWorth_X4_worthInSet : GoodIn wsX4_greatestWorth (wsV RX4 54 RX4 yX4_worthInSet wsX4_worthInSet) := goodIn_app (goodIn_of _ (by decide +kernel)) ggX4_greatestWorth_X4_worthInSet
theorem dX4_greatestWorth_0 : decode cX4_greatestWorth 0 = .ok (.sipush (-1000), 3) := by decide +kernel
theorem dX4_greatestWorth_3 : decode cX4_greatestWorth 3 = .ok (.istore_n 2, 1) := by decide +kernel
theorem dX4_greatestWorth_4 : decode cX4_greatestWorth 4 = .ok (.iconst 0, 1) := by decide +kernel
theorem dX4_greatestWorth_5 : decode cX4_greatestWorth 5 = .ok (.istore_n 3, 1) := by decide +kernel
theorem dX4_greatestWorth_6 : decode cX4_greatestWorth 6 = .ok (.iload_n 3, 1) := by decide +kernel
theorem dX4_greatestWorth_7 : decode cX4_greatestWorth 7 = .ok (.aload_n 0, 1) := by decide +kernel
theorem dX4_greatestWorth_8 : decode cX4_greatestWorth 8 = .ok (.getfield 46, 3) := by decide +kernel
theorem dX4_greatestWorth_11 : decode cX4_greatestWorth 11 = .ok (.if_icmp .ge 28, 3) := by decide +kernel
theorem dX4_greatestWorth_14 : decode cX4_greatestWorth 14 = .ok (.iload_n 1, 1) := by decide +kernel
theorem dX4_greatestWorth_15 : decode cX4_greatestWorth 15 = .ok (.iconst 1, 1) := by decide +kernel
theorem dX4_greatestWorth_16 : decode cX4_greatestWorth 16 = .ok (.iload_n 3, 1) := by decide +kernel
theorem dX4_greatestWorth_17 : decode cX4_greatestWorth 17 = .ok (.ishl, 1) := by decide +kernel
theorem dX4_greatestWorth_18 : decode cX4_greatestWorth 18 = .ok (.iand, 1) := by decide +kernel
theorem dX4_greatestWorth_19 : decode cX4_greatestWorth 19 = .ok (.ifCond .eq 14, 3) := by decide +kernel
theorem dX4_greatestWorth_22 : decode cX4_greatestWorth 22 = .ok (.iload_n 2, 1) := by decide +kernel
theorem dX4_greatestWorth_23 : decode cX4_greatestWorth 23 = .ok (.aload_n 0, 1) := by decide +kernel
theorem dX4_greatestWorth_24 : decode cX4_greatestWorth 24 = .ok (.iload_n 1, 1) := by decide +kernel
theorem dX4_greatestWorth_25 : decode cX4_greatestWorth 25 = .ok (.iload_n 3, 1) := by decide +kernel
theorem dX4_greatestWorth_26 : decode cX4_greatestWorth 26 = .ok (.invokevirtual 54, 3) := by decide +kernel
theorem dX4_greatestWorth_29 : decode cX4_greatestWorth 29 = .ok (.invokestatic 101, 3) := by decide +kernel
theorem dX4_greatestWorth_32 : decode cX4_greatestWorth 32 = .ok (.istore_n 2, 1) := by decide +kernel
theorem dX4_greatestWorth_33 : decode cX4_greatestWorth 33 = .ok (.iinc 3 1, 3) := by decide +kernel
theorem dX4_greatestWorth_36 : decode cX4_greatestWorth 36 = .ok (.goto (-30), 3) := by decide +kernel
theorem dX4_greatestWorth_39 : decode cX4_greatestWorth 39 = .ok (.iload_n 2, 1) := by decide +kernel
theorem dX4_greatestWorth_40 : decode cX4_greatestWorth 40 = .ok (.ireturn, 1) := by decide +kernel
set_option maxRecDepth 20000 in
theorem ggX4_worthInSet_X3_at : GoodIn wsX4_worthInSet wsX3_at := goodIn_r _ [7] (by decide +kernel) (by decide +kernel)
set_option maxRecDepth 20000 in
theorem gX4_worthInSet_X3_at : GoodIn wsX4_worthInSet (va_wsS RX4 40 yX3_at wsX3_at) := goodIn_app (goodIn_of _ (by decide +kernel)) ggX4_worthInSet_X3_at
theorem dX4_worthInSet_0 : decode cX4_worthInSet 0 = .ok (.iconst 1, 1) := by decide +kernel
theorem dX4_worthInSet_1 : decode cX4_worthInSet 1 = .ok (.iload_n 2, 1) := by decide +kernel
theorem dX4_worthInSet_2 : decode cX4_worthInSet 2 = .ok (.ishl, 1) := by decide +kernel
theorem dX4_worthInSet_3 : decode cX4_worthInSet 3 = .ok (.istore_n 3, 1) := by decide +kernel
theorem dX4_worthInSet_4 : decode cX4_worthInSet 4 = .ok (.iconst 0, 1) := by decide +kernel
theorem dX4_worthInSet_5 : decode cX4_worthInSet 5 = .ok (.istore 4, 2) := by decide +kernel
theorem dX4_worthInSet_7 : decode cX4_worthInSet 7 = .ok (.aload_n 0, 1) := by decide +kernel
theorem dX4_worthInSet_8 : decode cX4_worthInSet 8 = .ok (.getfield 15, 3) := by decide +kernel
theorem dX4_worthInSet_11 : decode cX4_worthInSet 11 = .ok (.iload_n 2, 1) := by decide +kernel
theorem dX4_worthInSet_12 : decode cX4_worthInSet 12 = .ok (.invokestatic 40, 3) := by decide +kernel
theorem dX4_worthInSet_15 : decode cX4_worthInSet 15 = .ok (.iload_n 1, 1) := by decide +kernel
theorem dX4_worthInSet_16 : decode cX4_worthInSet 16 = .ok (.iand, 1) := by decide +kernel
theorem dX4_worthInSet_17 : decode cX4_worthInSet 17 = .ok (.iload_n 3, 1) := by decide +kernel
theorem dX4_worthInSet_18 : decode cX4_worthInSet 18 = .ok (.if_icmp .ne 6, 3) := by decide +kernel
theorem dX4_worthInSet_21 : decode cX4_worthInSet 21 = .ok (.iinc 4 1, 3) := by decide +kernel
theorem dX4_worthInSet_24 : decode cX4_worthInSet 24 = .ok (.aload_n 0, 1) := by decide +kernel
theorem dX4_worthInSet_25 : decode cX4_worthInSet 25 = .ok (.getfield 18, 3) := by decide +kernel
theorem dX4_worthInSet_28 : decode cX4_worthInSet 28 = .ok (.iload_n 2, 1) := by decide +kernel
theorem dX4_worthInSet_29 : decode cX4_worthInSet 29 = .ok (.invokestatic 40, 3) := by decide +kernel
theorem dX4_worthInSet_32 : decode cX4_worthInSet 32 = .ok (.iload_n 1, 1) := by decide +kernel
theorem dX4_worthInSet_33 : decode cX4_worthInSet 33 = .ok (.iand, 1) := by decide +kernel
theorem dX4_worthInSet_34 : decode cX4_worthInSet 34 = .ok (.iload_n 3, 1) := by decide +kernel
theorem dX4_worthInSet_35 : decode cX4_worthInSet 35 = .ok (.if_icmp .ne 6, 3) := by decide +kernel
theorem dX4_worthInSet_38 : decode cX4_worthInSet 38 = .ok (.iinc 4 1, 3) := by decide +kernel
theorem dX4_worthInSet_41 : decode cX4_worthInSet 41 = .ok (.aload_n 0, 1) := by decide +kernel
theorem dX4_worthInSet_42 : decode cX4_worthInSet 42 = .ok (.getfield 21, 3) := by decide +kernel
theorem dX4_worthInSet_45 : decode cX4_worthInSet 45 = .ok (.iload_n 1, 1) := by decide +kernel
theorem dX4_worthInSet_46 : decode cX4_worthInSet 46 = .ok (.iload_n 3, 1) := by decide +kernel
theorem dX4_worthInSet_47 : decode cX4_worthInSet 47 = .ok (.iconst (-1), 1) := by decide +kernel
theorem dX4_worthInSet_48 : decode cX4_worthInSet 48 = .ok (.ixor, 1) := by decide +kernel
theorem dX4_worthInSet_49 : decode cX4_worthInSet 49 = .ok (.iand, 1) := by decide +kernel
theorem dX4_worthInSet_50 : decode cX4_worthInSet 50 = .ok (.invokestatic 40, 3) := by decide +kernel
theorem dX4_worthInSet_53 : decode cX4_worthInSet 53 = .ok (.istore 5, 2) := by decide +kernel
theorem dX4_worthInSet_55 : decode cX4_worthInSet 55 = .ok (.iload 4, 2) := by decide +kernel
theorem dX4_worthInSet_57 : decode cX4_worthInSet 57 = .ok (.ifCond .le 11, 3) := by decide +kernel
theorem dX4_worthInSet_60 : decode cX4_worthInSet 60 = .ok (.iload 4, 2) := by decide +kernel
theorem dX4_worthInSet_62 : decode cX4_worthInSet 62 = .ok (.iload 5, 2) := by decide +kernel
theorem dX4_worthInSet_64 : decode cX4_worthInSet 64 = .ok (.iadd, 1) := by decide +kernel
theorem dX4_worthInSet_65 : decode cX4_worthInSet 65 = .ok (.goto 6, 3) := by decide +kernel
theorem dX4_worthInSet_68 : decode cX4_worthInSet 68 = .ok (.iload 5, 2) := by decide +kernel
theorem dX4_worthInSet_70 : decode cX4_worthInSet 70 = .ok (.ineg, 1) := by decide +kernel
theorem dX4_worthInSet_71 : decode cX4_worthInSet 71 = .ok (.ireturn, 1) := by decide +kernel
theorem dX5_init_0 : decode cX5_init 0 = .ok (.aload_n 0, 1) := by decide +kernel
theorem dX5_init_1 : decode cX5_init 1 = .ok (.invokespecial 3, 3) := by decide +kernel
theorem dX5_init_4 : decode cX5_init 4 = .ok (.aload_n 0, 1) := by decide +kernel
theorem dX5_init_5 : decode cX5_init 5 = .ok (.bipush 16, 2) := by decide +kernel
theorem dX5_init_7 : decode cX5_init 7 = .ok (.newarray .long, 2) := by decide +kernel
theorem dX5_init_9 : decode cX5_init 9 = .ok (.putfield 9, 3) := by decide +kernel
theorem dX5_init_12 : decode cX5_init 12 = .ok (.aload_n 0, 1) := by decide +kernel
theorem dX5_init_13 : decode cX5_init 13 = .ok (.bipush 16, 2) := by decide +kernel
theorem dX5_init_15 : decode cX5_init 15 = .ok (.newarray .int, 2) := by decide +kernel
theorem dX5_init_17 : decode cX5_init 17 = .ok (.putfield 15, 3) := by decide +kernel
theorem dX5_init_20 : decode cX5_init 20 = .ok (.aload_n 0, 1) := by decide +kernel
theorem dX5_init_21 : decode cX5_init 21 = .ok (.bipush 16, 2) := by decide +kernel
theorem dX5_init_23 : decode cX5_init 23 = .ok (.newarray .int, 2) := by decide +kernel
theorem dX5_init_25 : decode cX5_init 25 = .ok (.putfield 19, 3) := by decide +kernel
theorem dX5_init_28 : decode cX5_init 28 = .ok (.aload_n 0, 1) := by decide +kernel
theorem dX5_init_29 : decode cX5_init 29 = .ok (.bipush 16, 2) := by decide +kernel
theorem dX5_init_31 : decode cX5_init 31 = .ok (.newarray .int, 2) := by decide +kernel
theorem dX5_init_33 : decode cX5_init 33 = .ok (.putfield 22, 3) := by decide +kernel
theorem dX5_init_36 : decode cX5_init 36 = .ok (.aload_n 0, 1) := by decide +kernel
theorem dX5_init_37 : decode cX5_init 37 = .ok (.bipush 16, 2) := by decide +kernel
theorem dX5_init_39 : decode cX5_init 39 = .ok (.newarray .int, 2) := by decide +kernel
theorem dX5_init_41 : decode cX5_init 41 = .ok (.putfield 25, 3) := by decide +kernel
theorem dX5_init_44 : decode cX5_init 44 = .ok (.aload_n 0, 1) := by decide +kernel
theorem dX5_init_45 : decode cX5_init 45 = .ok (.bipush 16, 2) := by decide +kernel
theorem dX5_init_47 : decode cX5_init 47 = .ok (.newarray .long, 2) := by decide +kernel
theorem dX5_init_49 : decode cX5_init 49 = .ok (.putfield 28, 3) := by decide +kernel
theorem dX5_init_52 : decode cX5_init 52 = .ok (.aload_n 0, 1) := by decide +kernel
theorem dX5_init_53 : decode cX5_init 53 = .ok (.bipush 16, 2) := by decide +kernel
theorem dX5_init_55 : decode cX5_init 55 = .ok (.newarray .long, 2) := by decide +kernel
theorem dX5_init_57 : decode cX5_init 57 = .ok (.putfield 31, 3) := by decide +kernel
theorem dX5_init_60 : decode cX5_init 60 = .ok (.aload_n 0, 1) := by decide +kernel
theorem dX5_init_61 : decode cX5_init 61 = .ok (.sipush 1024, 3) := by decide +kernel
theorem dX5_init_64 : decode cX5_init 64 = .ok (.newarray .int, 2) := by decide +kernel
theorem dX5_init_66 : decode cX5_init 66 = .ok (.putfield 34, 3) := by decide +kernel
theorem dX5_init_69 : decode cX5_init 69 = .ok (.aload_n 0, 1) := by decide +kernel
theorem dX5_init_70 : decode cX5_init 70 = .ok (.aload_n 1, 1) := by decide +kernel
theorem dX5_init_71 : decode cX5_init 71 = .ok (.putfield 37, 3) := by decide +kernel
theorem dX5_init_74 : decode cX5_init 74 = .ok (.return_, 1) := by decide +kernel
theorem dX5_forget_0 : decode cX5_forget 0 = .ok (.aload_n 0, 1) := by decide +kernel
theorem dX5_forget_1 : decode cX5_forget 1 = .ok (.iconst 0, 1) := by decide +kernel
theorem dX5_forget_2 : decode cX5_forget 2 = .ok (.putfield 41, 3) := by decide +kernel
theorem dX5_forget_5 : decode cX5_forget 5 = .ok (.return_, 1) := by decide +kernel
set_option maxRecDepth 20000 in
theorem ggX5_find_X5_look : GoodIn wsX5_find wsX5_look := goodIn_r _ [11, 12, 13, 5, 6, 14, 15, 16, 17, 18, 19, 20, 21, 22, 23, 24, 25, 26, 27, 28, 29, 30, 31, 32, 33, 34, 35, 36, 37, 38, 39, 65, 66, 67, 68, 69, 70, 71, 72, 73, 74, 75, 76, 77, 78, 79, 80, 81, 82, 83, 84, 85, 86, 87] (by decide +kernel) (by decide +kernel)
set_option maxRecDepth 20000 in
theorem gX5_find_X5_look : GoodIn wsX5_find (wsV RX5 52 RX5 yX5_look wsX5_look) := goodIn_app (goodIn_of _ (by decide +kernel)) ggX5_find_X5_look
set_option maxRecDepth 20000 in
theorem ggX5_find_X5_isFree : GoodIn wsX5_find wsX5_isFree := goodIn_r _ [43, 14, 15, 44, 24, 25, 26, 33, 34, 35, 36, 37, 38, 39, 45, 46, 47, 65, 66, 67, 68, 69, 70, 71, 72, 73, 74, 75, 76, 77, 78, 79, 80] (by decide +kernel) (by decide +kernel)
set_option maxRecDepth 20000 in
theorem gX5_find_X5_isFree : GoodIn wsX5_find (wsV RX5 65 RX5 yX5_isFree wsX5_isFree) := goodIn_app (goodIn_of _ (by decide +kernel)) ggX5_find_X5_isFree
set_option maxRecDepth 20000 in
theorem ggX5_find_X5_collect : GoodIn wsX5_find wsX5_collect := goodIn_r _ [51, 4, 52, 53, 54, 55, 5, 6, 14, 56, 30, 31, 25, 32, 27, 28, 29, 57, 58, 59, 10, 60, 15, 44, 24, 26, 45, 46, 47, 33, 34, 35, 36, 37, 38, 39, 40, 41, 42, 43, 61, 62, 63, 64, 65, 66, 67, 68, 69, 70, 71, 72, 73, 74, 75, 76, 77, 78, 79, 80, 81, 82, 83, 84, 85, 86, 87] (by decide +kernel) (by decide +kernel)
set_option maxRecDepth 20000 in
theorem gX5_find_X5_collect : GoodIn wsX5_find (wsV RX5 69 RX5 yX5_collect wsX5_collect) := goodIn_app (goodIn_of _ (by decide +kernel)) ggX5_find_X5_collect
theorem dX5_find_0 : decode cX5_find 0 = .ok (.aload_n 0, 1) := by decide +kernel
theorem dX5_find_1 : decode cX5_find 1 = .ok (.getfield 41, 3) := by decide +kernel
theorem dX5_find_4 : decode cX5_find 4 = .ok (.ifCond .eq 13, 3) := by decide +kernel
theorem dX5_find_7 : decode cX5_find 7 = .ok (.aload_n 0, 1) := by decide +kernel
theorem dX5_find_8 : decode cX5_find 8 = .ok (.getfield 45, 3) := by decide +kernel
theorem dX5_find_11 : decode cX5_find 11 = .ok (.lload_n 1, 1) := by decide +kernel
theorem dX5_find_12 : decode cX5_find 12 = .ok (.lcmp, 1) := by decide +kernel
theorem dX5_find_13 : decode cX5_find 13 = .ok (.ifCond .ne 4, 3) := by decide +kernel
theorem dX5_find_16 : decode cX5_find 16 = .ok (.return_, 1) := by decide +kernel
theorem dX5_find_17 : decode cX5_find 17 = .ok (.aload_n 0, 1) := by decide +kernel
theorem dX5_find_18 : decode cX5_find 18 = .ok (.iconst 1, 1) := by decide +kernel
theorem dX5_find_19 : decode cX5_find 19 = .ok (.putfield 41, 3) := by decide +kernel
theorem dX5_find_22 : decode cX5_find 22 = .ok (.aload_n 0, 1) := by decide +kernel
theorem dX5_find_23 : decode cX5_find 23 = .ok (.iconst 0, 1) := by decide +kernel
theorem dX5_find_24 : decode cX5_find 24 = .ok (.putfield 49, 3) := by decide +kernel
theorem dX5_find_27 : decode cX5_find 27 = .ok (.aload_n 0, 1) := by decide +kernel
theorem dX5_find_28 : decode cX5_find 28 = .ok (.lload_n 1, 1) := by decide +kernel
theorem dX5_find_29 : decode cX5_find 29 = .ok (.putfield 45, 3) := by decide +kernel
theorem dX5_find_32 : decode cX5_find 32 = .ok (.aload_n 0, 1) := by decide +kernel
theorem dX5_find_33 : decode cX5_find 33 = .ok (.lload_n 1, 1) := by decide +kernel
theorem dX5_find_34 : decode cX5_find 34 = .ok (.invokevirtual 52, 3) := by decide +kernel
theorem dX5_find_37 : decode cX5_find 37 = .ok (.aload_n 0, 1) := by decide +kernel
theorem dX5_find_38 : decode cX5_find 38 = .ok (.iconst 0, 1) := by decide +kernel
theorem dX5_find_39 : decode cX5_find 39 = .ok (.putfield 56, 3) := by decide +kernel
theorem dX5_find_42 : decode cX5_find 42 = .ok (.iconst 0, 1) := by decide +kernel
theorem dX5_find_43 : decode cX5_find 43 = .ok (.istore_n 3, 1) := by decide +kernel
theorem dX5_find_44 : decode cX5_find 44 = .ok (.iload_n 3, 1) := by decide +kernel
theorem dX5_find_45 : decode cX5_find 45 = .ok (.aload_n 0, 1) := by decide +kernel
theorem dX5_find_46 : decode cX5_find 46 = .ok (.getfield 37, 3) := by decide +kernel
theorem dX5_find_49 : decode cX5_find 49 = .ok (.getfield 60, 3) := by decide +kernel
theorem dX5_find_52 : decode cX5_find 52 = .ok (.if_icmp .ge 22, 3) := by decide +kernel
theorem dX5_find_55 : decode cX5_find 55 = .ok (.aload_n 0, 1) := by decide +kernel
theorem dX5_find_56 : decode cX5_find 56 = .ok (.iload_n 3, 1) := by decide +kernel
theorem dX5_find_57 : decode cX5_find 57 = .ok (.invokevirtual 65, 3) := by decide +kernel
theorem dX5_find_60 : decode cX5_find 60 = .ok (.ifCond .eq 8, 3) := by decide +kernel
theorem dX5_find_63 : decode cX5_find 63 = .ok (.aload_n 0, 1) := by decide +kernel
theorem dX5_find_64 : decode cX5_find 64 = .ok (.iload_n 3, 1) := by decide +kernel
theorem dX5_find_65 : decode cX5_find 65 = .ok (.invokevirtual 69, 3) := by decide +kernel
theorem dX5_find_68 : decode cX5_find 68 = .ok (.iinc 3 1, 3) := by decide +kernel
theorem dX5_find_71 : decode cX5_find 71 = .ok (.goto (-27), 3) := by decide +kernel
theorem dX5_find_74 : decode cX5_find 74 = .ok (.return_, 1) := by decide +kernel
set_option maxRecDepth 20000 in
theorem ggX5_look_X0_openAround : GoodIn wsX5_look wsX0_openAround := goodIn_r _ [11, 12, 13, 14, 15, 16, 17, 47, 48, 49, 50, 51, 52, 53] (by decide +kernel) (by decide +kernel)
set_option maxRecDepth 20000 in
theorem gX5_look_X0_openAround : GoodIn wsX5_look (wsV RX5 79 RX0 yX0_openAround wsX0_openAround) := goodIn_app (goodIn_of _ (by decide +kernel)) ggX5_look_X0_openAround
set_option maxRecDepth 20000 in
theorem ggX5_look_X3_put_ : GoodIn wsX5_look wsX3_put_ := goodIn_r _ [20] (by decide +kernel) (by decide +kernel)
set_option maxRecDepth 20000 in
theorem gX5_look_X3_put_ : GoodIn wsX5_look (va_wsS RX5 82 yX3_put_ wsX3_put_) := goodIn_app (goodIn_of _ (by decide +kernel)) ggX5_look_X3_put_
set_option maxRecDepth 20000 in
theorem ggX5_look_X3_put : GoodIn wsX5_look wsX3_put := goodIn_r _ [23] (by decide +kernel) (by decide +kernel)
set_option maxRecDepth 20000 in
theorem gX5_look_X3_put : GoodIn wsX5_look (va_wsS RX5 88 yX3_put wsX3_put) := goodIn_app (goodIn_of _ (by decide +kernel)) ggX5_look_X3_put
set_option maxRecDepth 20000 in
theorem ggX5_look_J13_bitCount_95d88 : GoodIn wsX5_look wsJ13_bitCount_95d88 := goodIn_r _ [27, 28, 29, 30] (by decide +kernel) (by decide +kernel)
set_option maxRecDepth 20000 in
theorem gX5_look_J13_bitCount_95d88 : GoodIn wsX5_look (va_wsS RX5 91 yJ13_bitCount_95d88 wsJ13_bitCount_95d88) := goodIn_app (goodIn_of _ (by decide +kernel)) ggX5_look_J13_bitCount_95d88
theorem dX5_look_0 : decode cX5_look 0 = .ok (.aload_n 0, 1) := by decide +kernel
theorem dX5_look_1 : decode cX5_look 1 = .ok (.iconst 0, 1) := by decide +kernel
theorem dX5_look_2 : decode cX5_look 2 = .ok (.putfield 73, 3) := by decide +kernel
theorem dX5_look_5 : decode cX5_look 5 = .ok (.aload_n 0, 1) := by decide +kernel
theorem dX5_look_6 : decode cX5_look 6 = .ok (.lconst 0, 1) := by decide +kernel
theorem dX5_look_7 : decode cX5_look 7 = .ok (.putfield 76, 3) := by decide +kernel
theorem dX5_look_10 : decode cX5_look 10 = .ok (.iconst 0, 1) := by decide +kernel
theorem dX5_look_11 : decode cX5_look 11 = .ok (.istore_n 3, 1) := by decide +kernel
theorem dX5_look_12 : decode cX5_look 12 = .ok (.iload_n 3, 1) := by decide +kernel
theorem dX5_look_13 : decode cX5_look 13 = .ok (.aload_n 0, 1) := by decide +kernel
theorem dX5_look_14 : decode cX5_look 14 = .ok (.getfield 37, 3) := by decide +kernel
theorem dX5_look_17 : decode cX5_look 17 = .ok (.getfield 60, 3) := by decide +kernel
theorem dX5_look_20 : decode cX5_look 20 = .ok (.if_icmp .ge 69, 3) := by decide +kernel
theorem dX5_look_23 : decode cX5_look 23 = .ok (.aload_n 0, 1) := by decide +kernel
theorem dX5_look_24 : decode cX5_look 24 = .ok (.getfield 37, 3) := by decide +kernel
theorem dX5_look_27 : decode cX5_look 27 = .ok (.lload_n 1, 1) := by decide +kernel
theorem dX5_look_28 : decode cX5_look 28 = .ok (.iload_n 3, 1) := by decide +kernel
theorem dX5_look_29 : decode cX5_look 29 = .ok (.invokevirtual 79, 3) := by decide +kernel
theorem dX5_look_32 : decode cX5_look 32 = .ok (.lstore 4, 2) := by decide +kernel
theorem dX5_look_34 : decode cX5_look 34 = .ok (.aload_n 0, 1) := by decide +kernel
theorem dX5_look_35 : decode cX5_look 35 = .ok (.getfield 9, 3) := by decide +kernel
theorem dX5_look_38 : decode cX5_look 38 = .ok (.iload_n 3, 1) := by decide +kernel
theorem dX5_look_39 : decode cX5_look 39 = .ok (.lload 4, 2) := by decide +kernel
theorem dX5_look_41 : decode cX5_look 41 = .ok (.invokestatic 82, 3) := by decide +kernel
theorem dX5_look_44 : decode cX5_look 44 = .ok (.aload_n 0, 1) := by decide +kernel
theorem dX5_look_45 : decode cX5_look 45 = .ok (.getfield 15, 3) := by decide +kernel
theorem dX5_look_48 : decode cX5_look 48 = .ok (.iload_n 3, 1) := by decide +kernel
theorem dX5_look_49 : decode cX5_look 49 = .ok (.iconst (-1), 1) := by decide +kernel
theorem dX5_look_50 : decode cX5_look 50 = .ok (.invokestatic 88, 3) := by decide +kernel
theorem dX5_look_53 : decode cX5_look 53 = .ok (.lload 4, 2) := by decide +kernel
theorem dX5_look_55 : decode cX5_look 55 = .ok (.invokestatic 91, 3) := by decide +kernel
theorem dX5_look_58 : decode cX5_look 58 = .ok (.iconst 2, 1) := by decide +kernel
theorem dX5_look_59 : decode cX5_look 59 = .ok (.if_icmp .le 24, 3) := by decide +kernel
theorem dX5_look_62 : decode cX5_look 62 = .ok (.aload_n 0, 1) := by decide +kernel
theorem dX5_look_63 : decode cX5_look 63 = .ok (.dup, 1) := by decide +kernel
theorem dX5_look_64 : decode cX5_look 64 = .ok (.getfield 73, 3) := by decide +kernel
theorem dX5_look_67 : decode cX5_look 67 = .ok (.iconst 1, 1) := by decide +kernel
theorem dX5_look_68 : decode cX5_look 68 = .ok (.iadd, 1) := by decide +kernel
theorem dX5_look_69 : decode cX5_look 69 = .ok (.putfield 73, 3) := by decide +kernel
theorem dX5_look_72 : decode cX5_look 72 = .ok (.aload_n 0, 1) := by decide +kernel
theorem dX5_look_73 : decode cX5_look 73 = .ok (.dup, 1) := by decide +kernel
theorem dX5_look_74 : decode cX5_look 74 = .ok (.getfield 76, 3) := by decide +kernel
theorem dX5_look_77 : decode cX5_look 77 = .ok (.lload 4, 2) := by decide +kernel
theorem dX5_look_79 : decode cX5_look 79 = .ok (.lor, 1) := by decide +kernel
theorem dX5_look_80 : decode cX5_look 80 = .ok (.putfield 76, 3) := by decide +kernel
theorem dX5_look_83 : decode cX5_look 83 = .ok (.iinc 3 1, 3) := by decide +kernel
theorem dX5_look_86 : decode cX5_look 86 = .ok (.goto (-74), 3) := by decide +kernel
theorem dX5_look_89 : decode cX5_look 89 = .ok (.return_, 1) := by decide +kernel
set_option maxRecDepth 20000 in
theorem ggX5_isFree_X3_at_ : GoodIn wsX5_isFree wsX3_at_ := goodIn_r _ [6] (by decide +kernel) (by decide +kernel)
set_option maxRecDepth 20000 in
theorem gX5_isFree_X3_at_ : GoodIn wsX5_isFree (va_wsS RX5 97 yX3_at_ wsX3_at_) := goodIn_app (goodIn_of _ (by decide +kernel)) ggX5_isFree_X3_at_
set_option maxRecDepth 20000 in
theorem ggX5_isFree_J13_bitCount_95d88 : GoodIn wsX5_isFree wsJ13_bitCount_95d88 := goodIn_r _ [10, 11, 12, 13] (by decide +kernel) (by decide +kernel)
set_option maxRecDepth 20000 in
theorem gX5_isFree_J13_bitCount_95d88 : GoodIn wsX5_isFree (va_wsS RX5 91 yJ13_bitCount_95d88 wsJ13_bitCount_95d88) := goodIn_app (goodIn_of _ (by decide +kernel)) ggX5_isFree_J13_bitCount_95d88
set_option maxRecDepth 20000 in
theorem ggX5_isFree_X3_at : GoodIn wsX5_isFree wsX3_at := goodIn_r _ [16] (by decide +kernel) (by decide +kernel)
set_option maxRecDepth 20000 in
theorem gX5_isFree_X3_at : GoodIn wsX5_isFree (va_wsS RX5 101 yX3_at wsX3_at) := goodIn_app (goodIn_of _ (by decide +kernel)) ggX5_isFree_X3_at
theorem dX5_isFree_0 : decode cX5_isFree 0 = .ok (.aload_n 0, 1) := by decide +kernel
theorem dX5_isFree_1 : decode cX5_isFree 1 = .ok (.getfield 9, 3) := by decide +kernel
theorem dX5_isFree_4 : decode cX5_isFree 4 = .ok (.iload_n 1, 1) := by decide +kernel
theorem dX5_isFree_5 : decode cX5_isFree 5 = .ok (.invokestatic 97, 3) := by decide +kernel
theorem dX5_isFree_8 : decode cX5_isFree 8 = .ok (.invokestatic 91, 3) := by decide +kernel
theorem dX5_isFree_11 : decode cX5_isFree 11 = .ok (.istore_n 2, 1) := by decide +kernel
theorem dX5_isFree_12 : decode cX5_isFree 12 = .ok (.iload_n 2, 1) := by decide +kernel
theorem dX5_isFree_13 : decode cX5_isFree 13 = .ok (.iconst 1, 1) := by decide +kernel
theorem dX5_isFree_14 : decode cX5_isFree 14 = .ok (.if_icmp .eq 8, 3) := by decide +kernel
theorem dX5_isFree_17 : decode cX5_isFree 17 = .ok (.iload_n 2, 1) := by decide +kernel
theorem dX5_isFree_18 : decode cX5_isFree 18 = .ok (.iconst 2, 1) := by decide +kernel
theorem dX5_isFree_19 : decode cX5_isFree 19 = .ok (.if_icmp .ne 19, 3) := by decide +kernel
theorem dX5_isFree_22 : decode cX5_isFree 22 = .ok (.aload_n 0, 1) := by decide +kernel
theorem dX5_isFree_23 : decode cX5_isFree 23 = .ok (.getfield 15, 3) := by decide +kernel
theorem dX5_isFree_26 : decode cX5_isFree 26 = .ok (.iload_n 1, 1) := by decide +kernel
theorem dX5_isFree_27 : decode cX5_isFree 27 = .ok (.invokestatic 101, 3) := by decide +kernel
theorem dX5_isFree_30 : decode cX5_isFree 30 = .ok (.iconst (-1), 1) := by decide +kernel
theorem dX5_isFree_31 : decode cX5_isFree 31 = .ok (.if_icmp .ne 7, 3) := by decide +kernel
theorem dX5_isFree_34 : decode cX5_isFree 34 = .ok (.iconst 1, 1) := by decide +kernel
theorem dX5_isFree_35 : decode cX5_isFree 35 = .ok (.goto 4, 3) := by decide +kernel
theorem dX5_isFree_38 : decode cX5_isFree 38 = .ok (.iconst 0, 1) := by decide +kernel
theorem dX5_isFree_39 : decode cX5_isFree 39 = .ok (.ireturn, 1) := by decide +kernel
set_option maxRecDepth 20000 in
theorem ggX5_collect_X3_put : GoodIn wsX5_collect wsX3_put := goodIn_r _ [13] (by decide +kernel) (by decide +kernel)
set_option maxRecDepth 20000 in
theorem gX5_collect_X3_put : GoodIn wsX5_collect (va_wsS RX5 88 yX3_put wsX3_put) := goodIn_app (goodIn_of _ (by decide +kernel)) ggX5_collect_X3_put
set_option maxRecDepth 20000 in
theorem ggX5_collect_X3_put_ : GoodIn wsX5_collect wsX3_put_ := goodIn_r _ [16] (by decide +kernel) (by decide +kernel)
set_option maxRecDepth 20000 in
theorem gX5_collect_X3_put_ : GoodIn wsX5_collect (va_wsS RX5 82 yX3_put_ wsX3_put_) := goodIn_app (goodIn_of _ (by decide +kernel)) ggX5_collect_X3_put_
set_option maxRecDepth 20000 in
theorem ggX5_collect_X5_join : GoodIn wsX5_collect wsX5_join := goodIn_r _ [21, 8, 4, 22, 2, 3, 5, 23, 24, 12, 25, 10, 11, 13, 26, 27, 28, 29, 30, 31, 32, 33, 34, 35, 14, 15, 16, 44, 45, 46, 47, 48, 49, 50, 51, 52, 53, 54, 55, 56, 57, 58, 59] (by decide +kernel) (by decide +kernel)
set_option maxRecDepth 20000 in
theorem gX5_collect_X5_join : GoodIn wsX5_collect (wsV RX5 104 RX5 yX5_join wsX5_join) := goodIn_app (goodIn_of _ (by decide +kernel)) ggX5_collect_X5_join
set_option maxRecDepth 20000 in
theorem ggX5_collect_X5_isFree : GoodIn wsX5_collect wsX5_isFree := goodIn_r _ [39, 8, 22, 23, 24, 12, 25, 29, 30, 31, 32, 33, 34, 35, 26, 27, 28, 44, 45, 46, 47, 48, 49, 50, 51, 52, 53, 54, 55, 56, 57, 58, 59] (by decide +kernel) (by decide +kernel)
set_option maxRecDepth 20000 in
theorem gX5_collect_X5_isFree : GoodIn wsX5_collect (wsV RX5 65 RX5 yX5_isFree wsX5_isFree) := goodIn_app (goodIn_of _ (by decide +kernel)) ggX5_collect_X5_isFree
set_option maxRecDepth 20000 in
theorem ggX5_collect_X3_at_ : GoodIn wsX5_collect wsX3_at_ := goodIn_r _ [25] (by decide +kernel) (by decide +kernel)
set_option maxRecDepth 20000 in
theorem gX5_collect_X3_at_ : GoodIn wsX5_collect (va_wsS RX5 97 yX3_at_ wsX3_at_) := goodIn_app (goodIn_of _ (by decide +kernel)) ggX5_collect_X3_at_
set_option maxRecDepth 20000 in
theorem ggX5_collect_X5_discountOf : GoodIn wsX5_collect wsX5_discountOf := goodIn_r _ [43, 3, 4, 5, 2, 26, 27, 12, 28, 23, 24, 25, 44, 45, 46, 47, 48, 49, 50, 51, 52, 53, 54, 55, 56, 57, 58, 59] (by decide +kernel) (by decide +kernel)
set_option maxRecDepth 20000 in
theorem gX5_collect_X5_discountOf : GoodIn wsX5_collect (wsV RX5 108 RX5 yX5_discountOf wsX5_discountOf) := goodIn_app (goodIn_of _ (by decide +kernel)) ggX5_collect_X5_discountOf
theorem dX5_collect_0 : decode cX5_collect 0 = .ok (.aload_n 0, 1) := by decide +kernel
theorem dX5_collect_1 : decode cX5_collect 1 = .ok (.getfield 56, 3) := by decide +kernel
theorem dX5_collect_4 : decode cX5_collect 4 = .ok (.istore_n 2, 1) := by decide +kernel
theorem dX5_collect_5 : decode cX5_collect 5 = .ok (.aload_n 0, 1) := by decide +kernel
theorem dX5_collect_6 : decode cX5_collect 6 = .ok (.dup, 1) := by decide +kernel
theorem dX5_collect_7 : decode cX5_collect 7 = .ok (.getfield 56, 3) := by decide +kernel
theorem dX5_collect_10 : decode cX5_collect 10 = .ok (.iconst 1, 1) := by decide +kernel
theorem dX5_collect_11 : decode cX5_collect 11 = .ok (.iadd, 1) := by decide +kernel
theorem dX5_collect_12 : decode cX5_collect 12 = .ok (.putfield 56, 3) := by decide +kernel
theorem dX5_collect_15 : decode cX5_collect 15 = .ok (.aload_n 0, 1) := by decide +kernel
theorem dX5_collect_16 : decode cX5_collect 16 = .ok (.getfield 19, 3) := by decide +kernel
theorem dX5_collect_19 : decode cX5_collect 19 = .ok (.iload_n 2, 1) := by decide +kernel
theorem dX5_collect_20 : decode cX5_collect 20 = .ok (.iconst 0, 1) := by decide +kernel
theorem dX5_collect_21 : decode cX5_collect 21 = .ok (.invokestatic 88, 3) := by decide +kernel
theorem dX5_collect_24 : decode cX5_collect 24 = .ok (.aload_n 0, 1) := by decide +kernel
theorem dX5_collect_25 : decode cX5_collect 25 = .ok (.getfield 22, 3) := by decide +kernel
theorem dX5_collect_28 : decode cX5_collect 28 = .ok (.iload_n 2, 1) := by decide +kernel
theorem dX5_collect_29 : decode cX5_collect 29 = .ok (.iconst 0, 1) := by decide +kernel
theorem dX5_collect_30 : decode cX5_collect 30 = .ok (.invokestatic 88, 3) := by decide +kernel
theorem dX5_collect_33 : decode cX5_collect 33 = .ok (.aload_n 0, 1) := by decide +kernel
theorem dX5_collect_34 : decode cX5_collect 34 = .ok (.getfield 28, 3) := by decide +kernel
theorem dX5_collect_37 : decode cX5_collect 37 = .ok (.iload_n 2, 1) := by decide +kernel
theorem dX5_collect_38 : decode cX5_collect 38 = .ok (.lconst 0, 1) := by decide +kernel
theorem dX5_collect_39 : decode cX5_collect 39 = .ok (.invokestatic 82, 3) := by decide +kernel
theorem dX5_collect_42 : decode cX5_collect 42 = .ok (.aload_n 0, 1) := by decide +kernel
theorem dX5_collect_43 : decode cX5_collect 43 = .ok (.getfield 31, 3) := by decide +kernel
theorem dX5_collect_46 : decode cX5_collect 46 = .ok (.iload_n 2, 1) := by decide +kernel
theorem dX5_collect_47 : decode cX5_collect 47 = .ok (.lconst 0, 1) := by decide +kernel
theorem dX5_collect_48 : decode cX5_collect 48 = .ok (.invokestatic 82, 3) := by decide +kernel
theorem dX5_collect_51 : decode cX5_collect 51 = .ok (.aload_n 0, 1) := by decide +kernel
theorem dX5_collect_52 : decode cX5_collect 52 = .ok (.iload_n 1, 1) := by decide +kernel
theorem dX5_collect_53 : decode cX5_collect 53 = .ok (.iload_n 2, 1) := by decide +kernel
theorem dX5_collect_54 : decode cX5_collect 54 = .ok (.invokevirtual 104, 3) := by decide +kernel
theorem dX5_collect_57 : decode cX5_collect 57 = .ok (.iconst 1, 1) := by decide +kernel
theorem dX5_collect_58 : decode cX5_collect 58 = .ok (.istore_n 3, 1) := by decide +kernel
theorem dX5_collect_59 : decode cX5_collect 59 = .ok (.iconst 0, 1) := by decide +kernel
theorem dX5_collect_60 : decode cX5_collect 60 = .ok (.istore 4, 2) := by decide +kernel
theorem dX5_collect_62 : decode cX5_collect 62 = .ok (.iload_n 3, 1) := by decide +kernel
theorem dX5_collect_63 : decode cX5_collect 63 = .ok (.ifCond .eq 80, 3) := by decide +kernel
theorem dX5_collect_66 : decode cX5_collect 66 = .ok (.iload 4, 2) := by decide +kernel
theorem dX5_collect_68 : decode cX5_collect 68 = .ok (.bipush 16, 2) := by decide +kernel
theorem dX5_collect_70 : decode cX5_collect 70 = .ok (.if_icmp .ge 73, 3) := by decide +kernel
theorem dX5_collect_73 : decode cX5_collect 73 = .ok (.iconst 0, 1) := by decide +kernel
theorem dX5_collect_74 : decode cX5_collect 74 = .ok (.istore_n 3, 1) := by decide +kernel
theorem dX5_collect_75 : decode cX5_collect 75 = .ok (.iconst 0, 1) := by decide +kernel
theorem dX5_collect_76 : decode cX5_collect 76 = .ok (.istore 5, 2) := by decide +kernel
theorem dX5_collect_78 : decode cX5_collect 78 = .ok (.iload 5, 2) := by decide +kernel
theorem dX5_collect_80 : decode cX5_collect 80 = .ok (.aload_n 0, 1) := by decide +kernel
theorem dX5_collect_81 : decode cX5_collect 81 = .ok (.getfield 37, 3) := by decide +kernel
theorem dX5_collect_84 : decode cX5_collect 84 = .ok (.getfield 60, 3) := by decide +kernel
theorem dX5_collect_87 : decode cX5_collect 87 = .ok (.if_icmp .ge 50, 3) := by decide +kernel
theorem dX5_collect_90 : decode cX5_collect 90 = .ok (.aload_n 0, 1) := by decide +kernel
theorem dX5_collect_91 : decode cX5_collect 91 = .ok (.iload 5, 2) := by decide +kernel
theorem dX5_collect_93 : decode cX5_collect 93 = .ok (.invokevirtual 65, 3) := by decide +kernel
theorem dX5_collect_96 : decode cX5_collect 96 = .ok (.ifCond .eq 35, 3) := by decide +kernel
theorem dX5_collect_99 : decode cX5_collect 99 = .ok (.aload_n 0, 1) := by decide +kernel
theorem dX5_collect_100 : decode cX5_collect 100 = .ok (.getfield 9, 3) := by decide +kernel
theorem dX5_collect_103 : decode cX5_collect 103 = .ok (.iload 5, 2) := by decide +kernel
theorem dX5_collect_105 : decode cX5_collect 105 = .ok (.invokestatic 97, 3) := by decide +kernel
theorem dX5_collect_108 : decode cX5_collect 108 = .ok (.aload_n 0, 1) := by decide +kernel
theorem dX5_collect_109 : decode cX5_collect 109 = .ok (.getfield 28, 3) := by decide +kernel
theorem dX5_collect_112 : decode cX5_collect 112 = .ok (.iload_n 2, 1) := by decide +kernel
theorem dX5_collect_113 : decode cX5_collect 113 = .ok (.invokestatic 97, 3) := by decide +kernel
theorem dX5_collect_116 : decode cX5_collect 116 = .ok (.land, 1) := by decide +kernel
theorem dX5_collect_117 : decode cX5_collect 117 = .ok (.lconst 0, 1) := by decide +kernel
theorem dX5_collect_118 : decode cX5_collect 118 = .ok (.lcmp, 1) := by decide +kernel
theorem dX5_collect_119 : decode cX5_collect 119 = .ok (.ifCond .eq 12, 3) := by decide +kernel
theorem dX5_collect_122 : decode cX5_collect 122 = .ok (.aload_n 0, 1) := by decide +kernel
theorem dX5_collect_123 : decode cX5_collect 123 = .ok (.iload 5, 2) := by decide +kernel
theorem dX5_collect_125 : decode cX5_collect 125 = .ok (.iload_n 2, 1) := by decide +kernel
theorem dX5_collect_126 : decode cX5_collect 126 = .ok (.invokevirtual 104, 3) := by decide +kernel
theorem dX5_collect_129 : decode cX5_collect 129 = .ok (.iconst 1, 1) := by decide +kernel
theorem dX5_collect_130 : decode cX5_collect 130 = .ok (.istore_n 3, 1) := by decide +kernel
theorem dX5_collect_131 : decode cX5_collect 131 = .ok (.iinc 5 1, 3) := by decide +kernel
theorem dX5_collect_134 : decode cX5_collect 134 = .ok (.goto (-56), 3) := by decide +kernel
theorem dX5_collect_137 : decode cX5_collect 137 = .ok (.iinc 4 1, 3) := by decide +kernel
theorem dX5_collect_140 : decode cX5_collect 140 = .ok (.goto (-78), 3) := by decide +kernel
theorem dX5_collect_143 : decode cX5_collect 143 = .ok (.aload_n 0, 1) := by decide +kernel
theorem dX5_collect_144 : decode cX5_collect 144 = .ok (.getfield 25, 3) := by decide +kernel
theorem dX5_collect_147 : decode cX5_collect 147 = .ok (.iload_n 2, 1) := by decide +kernel
theorem dX5_collect_148 : decode cX5_collect 148 = .ok (.aload_n 0, 1) := by decide +kernel
theorem dX5_collect_149 : decode cX5_collect 149 = .ok (.iload_n 2, 1) := by decide +kernel
theorem dX5_collect_150 : decode cX5_collect 150 = .ok (.invokevirtual 108, 3) := by decide +kernel
theorem dX5_collect_153 : decode cX5_collect 153 = .ok (.invokestatic 88, 3) := by decide +kernel
theorem dX5_collect_156 : decode cX5_collect 156 = .ok (.return_, 1) := by decide +kernel
set_option maxRecDepth 20000 in
theorem ggX5_join_X3_at_ : GoodIn wsX5_join wsX3_at_ := goodIn_r _ [10] (by decide +kernel) (by decide +kernel)
set_option maxRecDepth 20000 in
theorem gX5_join_X3_at_ : GoodIn wsX5_join (va_wsS RX5 97 yX3_at_ wsX3_at_) := goodIn_app (goodIn_of _ (by decide +kernel)) ggX5_join_X3_at_
set_option maxRecDepth 20000 in
theorem ggX5_join_X3_put : GoodIn wsX5_join wsX3_put := goodIn_r _ [13] (by decide +kernel) (by decide +kernel)
set_option maxRecDepth 20000 in
theorem gX5_join_X3_put : GoodIn wsX5_join (va_wsS RX5 88 yX3_put wsX3_put) := goodIn_app (goodIn_of _ (by decide +kernel)) ggX5_join_X3_put
set_option maxRecDepth 20000 in
theorem ggX5_join_X3_at : GoodIn wsX5_join wsX3_at := goodIn_r _ [16] (by decide +kernel) (by decide +kernel)
set_option maxRecDepth 20000 in
theorem gX5_join_X3_at : GoodIn wsX5_join (va_wsS RX5 101 yX3_at wsX3_at) := goodIn_app (goodIn_of _ (by decide +kernel)) ggX5_join_X3_at
set_option maxRecDepth 20000 in
theorem ggX5_join_J13_bitCount_95d88 : GoodIn wsX5_join wsJ13_bitCount_95d88 := goodIn_r _ [20, 21, 22, 23] (by decide +kernel) (by decide +kernel)
set_option maxRecDepth 20000 in
theorem gX5_join_J13_bitCount_95d88 : GoodIn wsX5_join (va_wsS RX5 91 yJ13_bitCount_95d88 wsJ13_bitCount_95d88) := goodIn_app (goodIn_of _ (by decide +kernel)) ggX5_join_J13_bitCount_95d88
set_option maxRecDepth 20000 in
theorem ggX5_join_X3_put_ : GoodIn wsX5_join wsX3_put_ := goodIn_r _ [26] (by decide +kernel) (by decide +kernel)
set_option maxRecDepth 20000 in
theorem gX5_join_X3_put_ : GoodIn wsX5_join (va_wsS RX5 82 yX3_put_ wsX3_put_) := goodIn_app (goodIn_of _ (by decide +kernel)) ggX5_join_X3_put_
theorem dX5_join_0 : decode cX5_join 0 = .ok (.aload_n 0, 1) := by decide +kernel
theorem dX5_join_1 : decode cX5_join 1 = .ok (.getfield 9, 3) := by decide +kernel
theorem dX5_join_4 : decode cX5_join 4 = .ok (.iload_n 1, 1) := by decide +kernel
theorem dX5_join_5 : decode cX5_join 5 = .ok (.invokestatic 97, 3) := by decide +kernel
theorem dX5_join_8 : decode cX5_join 8 = .ok (.lstore_n 3, 1) := by decide +kernel
theorem dX5_join_9 : decode cX5_join 9 = .ok (.aload_n 0, 1) := by decide +kernel
theorem dX5_join_10 : decode cX5_join 10 = .ok (.getfield 28, 3) := by decide +kernel
theorem dX5_join_13 : decode cX5_join 13 = .ok (.iload_n 2, 1) := by decide +kernel
theorem dX5_join_14 : decode cX5_join 14 = .ok (.invokestatic 97, 3) := by decide +kernel
theorem dX5_join_17 : decode cX5_join 17 = .ok (.lstore 5, 2) := by decide +kernel
theorem dX5_join_19 : decode cX5_join 19 = .ok (.aload_n 0, 1) := by decide +kernel
theorem dX5_join_20 : decode cX5_join 20 = .ok (.getfield 15, 3) := by decide +kernel
theorem dX5_join_23 : decode cX5_join 23 = .ok (.iload_n 1, 1) := by decide +kernel
theorem dX5_join_24 : decode cX5_join 24 = .ok (.iload_n 2, 1) := by decide +kernel
theorem dX5_join_25 : decode cX5_join 25 = .ok (.invokestatic 88, 3) := by decide +kernel
theorem dX5_join_28 : decode cX5_join 28 = .ok (.aload_n 0, 1) := by decide +kernel
theorem dX5_join_29 : decode cX5_join 29 = .ok (.getfield 19, 3) := by decide +kernel
theorem dX5_join_32 : decode cX5_join 32 = .ok (.iload_n 2, 1) := by decide +kernel
theorem dX5_join_33 : decode cX5_join 33 = .ok (.aload_n 0, 1) := by decide +kernel
theorem dX5_join_34 : decode cX5_join 34 = .ok (.getfield 19, 3) := by decide +kernel
theorem dX5_join_37 : decode cX5_join 37 = .ok (.iload_n 2, 1) := by decide +kernel
theorem dX5_join_38 : decode cX5_join 38 = .ok (.invokestatic 101, 3) := by decide +kernel
theorem dX5_join_41 : decode cX5_join 41 = .ok (.iconst 1, 1) := by decide +kernel
theorem dX5_join_42 : decode cX5_join 42 = .ok (.iadd, 1) := by decide +kernel
theorem dX5_join_43 : decode cX5_join 43 = .ok (.invokestatic 88, 3) := by decide +kernel
theorem dX5_join_46 : decode cX5_join 46 = .ok (.lload_n 3, 1) := by decide +kernel
theorem dX5_join_47 : decode cX5_join 47 = .ok (.invokestatic 91, 3) := by decide +kernel
theorem dX5_join_50 : decode cX5_join 50 = .ok (.iconst 1, 1) := by decide +kernel
theorem dX5_join_51 : decode cX5_join 51 = .ok (.if_icmp .ne 12, 3) := by decide +kernel
theorem dX5_join_54 : decode cX5_join 54 = .ok (.aload_n 0, 1) := by decide +kernel
theorem dX5_join_55 : decode cX5_join 55 = .ok (.getfield 22, 3) := by decide +kernel
theorem dX5_join_58 : decode cX5_join 58 = .ok (.iload_n 2, 1) := by decide +kernel
theorem dX5_join_59 : decode cX5_join 59 = .ok (.iconst 1, 1) := by decide +kernel
theorem dX5_join_60 : decode cX5_join 60 = .ok (.invokestatic 88, 3) := by decide +kernel
theorem dX5_join_63 : decode cX5_join 63 = .ok (.aload_n 0, 1) := by decide +kernel
theorem dX5_join_64 : decode cX5_join 64 = .ok (.getfield 31, 3) := by decide +kernel
theorem dX5_join_67 : decode cX5_join 67 = .ok (.iload_n 2, 1) := by decide +kernel
theorem dX5_join_68 : decode cX5_join 68 = .ok (.aload_n 0, 1) := by decide +kernel
theorem dX5_join_69 : decode cX5_join 69 = .ok (.getfield 31, 3) := by decide +kernel
theorem dX5_join_72 : decode cX5_join 72 = .ok (.iload_n 2, 1) := by decide +kernel
theorem dX5_join_73 : decode cX5_join 73 = .ok (.invokestatic 97, 3) := by decide +kernel
theorem dX5_join_76 : decode cX5_join 76 = .ok (.lload_n 3, 1) := by decide +kernel
theorem dX5_join_77 : decode cX5_join 77 = .ok (.lload 5, 2) := by decide +kernel
theorem dX5_join_79 : decode cX5_join 79 = .ok (.land, 1) := by decide +kernel
theorem dX5_join_80 : decode cX5_join 80 = .ok (.lor, 1) := by decide +kernel
theorem dX5_join_81 : decode cX5_join 81 = .ok (.invokestatic 82, 3) := by decide +kernel
theorem dX5_join_84 : decode cX5_join 84 = .ok (.aload_n 0, 1) := by decide +kernel
theorem dX5_join_85 : decode cX5_join 85 = .ok (.getfield 28, 3) := by decide +kernel
theorem dX5_join_88 : decode cX5_join 88 = .ok (.iload_n 2, 1) := by decide +kernel
theorem dX5_join_89 : decode cX5_join 89 = .ok (.lload 5, 2) := by decide +kernel
theorem dX5_join_91 : decode cX5_join 91 = .ok (.lload_n 3, 1) := by decide +kernel
theorem dX5_join_92 : decode cX5_join 92 = .ok (.lor, 1) := by decide +kernel
theorem dX5_join_93 : decode cX5_join 93 = .ok (.invokestatic 82, 3) := by decide +kernel
theorem dX5_join_96 : decode cX5_join 96 = .ok (.return_, 1) := by decide +kernel
set_option maxRecDepth 20000 in
theorem ggX5_discountOf_X3_at : GoodIn wsX5_discountOf wsX3_at := goodIn_r _ [8] (by decide +kernel) (by decide +kernel)
set_option maxRecDepth 20000 in
theorem gX5_discountOf_X3_at : GoodIn wsX5_discountOf (va_wsS RX5 101 yX3_at wsX3_at) := goodIn_app (goodIn_of _ (by decide +kernel)) ggX5_discountOf_X3_at
set_option maxRecDepth 20000 in
theorem ggX5_discountOf_X3_at_ : GoodIn wsX5_discountOf wsX3_at_ := goodIn_r _ [11] (by decide +kernel) (by decide +kernel)
set_option maxRecDepth 20000 in
theorem gX5_discountOf_X3_at_ : GoodIn wsX5_discountOf (va_wsS RX5 97 yX3_at_ wsX3_at_) := goodIn_app (goodIn_of _ (by decide +kernel)) ggX5_discountOf_X3_at_
theorem dX5_discountOf_0 : decode cX5_discountOf 0 = .ok (.aload_n 0, 1) := by decide +kernel
theorem dX5_discountOf_1 : decode cX5_discountOf 1 = .ok (.getfield 22, 3) := by decide +kernel
theorem dX5_discountOf_4 : decode cX5_discountOf 4 = .ok (.iload_n 1, 1) := by decide +kernel
theorem dX5_discountOf_5 : decode cX5_discountOf 5 = .ok (.invokestatic 101, 3) := by decide +kernel
theorem dX5_discountOf_8 : decode cX5_discountOf 8 = .ok (.ifCond .ne 26, 3) := by decide +kernel
theorem dX5_discountOf_11 : decode cX5_discountOf 11 = .ok (.aload_n 0, 1) := by decide +kernel
theorem dX5_discountOf_12 : decode cX5_discountOf 12 = .ok (.getfield 28, 3) := by decide +kernel
theorem dX5_discountOf_15 : decode cX5_discountOf 15 = .ok (.iload_n 1, 1) := by decide +kernel
theorem dX5_discountOf_16 : decode cX5_discountOf 16 = .ok (.invokestatic 97, 3) := by decide +kernel
theorem dX5_discountOf_19 : decode cX5_discountOf 19 = .ok (.aload_n 0, 1) := by decide +kernel
theorem dX5_discountOf_20 : decode cX5_discountOf 20 = .ok (.getfield 31, 3) := by decide +kernel
theorem dX5_discountOf_23 : decode cX5_discountOf 23 = .ok (.iload_n 1, 1) := by decide +kernel
theorem dX5_discountOf_24 : decode cX5_discountOf 24 = .ok (.invokestatic 97, 3) := by decide +kernel
theorem dX5_discountOf_27 : decode cX5_discountOf 27 = .ok (.lcmp, 1) := by decide +kernel
theorem dX5_discountOf_28 : decode cX5_discountOf 28 = .ok (.ifCond .ne 6, 3) := by decide +kernel
theorem dX5_discountOf_31 : decode cX5_discountOf 31 = .ok (.bipush 8, 2) := by decide +kernel
theorem dX5_discountOf_33 : decode cX5_discountOf 33 = .ok (.ireturn, 1) := by decide +kernel
theorem dX5_discountOf_34 : decode cX5_discountOf 34 = .ok (.aload_n 0, 1) := by decide +kernel
theorem dX5_discountOf_35 : decode cX5_discountOf 35 = .ok (.getfield 19, 3) := by decide +kernel
theorem dX5_discountOf_38 : decode cX5_discountOf 38 = .ok (.iload_n 1, 1) := by decide +kernel
theorem dX5_discountOf_39 : decode cX5_discountOf 39 = .ok (.invokestatic 101, 3) := by decide +kernel
theorem dX5_discountOf_42 : decode cX5_discountOf 42 = .ok (.iconst 3, 1) := by decide +kernel
theorem dX5_discountOf_43 : decode cX5_discountOf 43 = .ok (.if_icmp .lt 7, 3) := by decide +kernel
theorem dX5_discountOf_46 : decode cX5_discountOf 46 = .ok (.iconst 4, 1) := by decide +kernel
theorem dX5_discountOf_47 : decode cX5_discountOf 47 = .ok (.goto 4, 3) := by decide +kernel
theorem dX5_discountOf_50 : decode cX5_discountOf 50 = .ok (.iconst 0, 1) := by decide +kernel
theorem dX5_discountOf_51 : decode cX5_discountOf 51 = .ok (.ireturn, 1) := by decide +kernel
set_option maxRecDepth 20000 in
theorem ggX5_isOpen_X3_at : GoodIn wsX5_isOpen wsX3_at := goodIn_r _ [5] (by decide +kernel) (by decide +kernel)
set_option maxRecDepth 20000 in
theorem gX5_isOpen_X3_at : GoodIn wsX5_isOpen (va_wsS RX5 101 yX3_at wsX3_at) := goodIn_app (goodIn_of _ (by decide +kernel)) ggX5_isOpen_X3_at
theorem dX5_isOpen_0 : decode cX5_isOpen 0 = .ok (.aload_n 0, 1) := by decide +kernel
theorem dX5_isOpen_1 : decode cX5_isOpen 1 = .ok (.getfield 22, 3) := by decide +kernel
theorem dX5_isOpen_4 : decode cX5_isOpen 4 = .ok (.iload_n 1, 1) := by decide +kernel
theorem dX5_isOpen_5 : decode cX5_isOpen 5 = .ok (.invokestatic 101, 3) := by decide +kernel
theorem dX5_isOpen_8 : decode cX5_isOpen 8 = .ok (.iconst 1, 1) := by decide +kernel
theorem dX5_isOpen_9 : decode cX5_isOpen 9 = .ok (.if_icmp .ne 7, 3) := by decide +kernel
theorem dX5_isOpen_12 : decode cX5_isOpen 12 = .ok (.iconst 1, 1) := by decide +kernel
theorem dX5_isOpen_13 : decode cX5_isOpen 13 = .ok (.goto 4, 3) := by decide +kernel
theorem dX5_isOpen_16 : decode cX5_isOpen 16 = .ok (.iconst 0, 1) := by decide +kernel
theorem dX5_isOpen_17 : decode cX5_isOpen 17 = .ok (.ireturn, 1) := by decide +kernel
set_option maxRecDepth 20000 in
theorem ggX5_numberAt_X3_at : GoodIn wsX5_numberAt wsX3_at := goodIn_r _ [5] (by decide +kernel) (by decide +kernel)
set_option maxRecDepth 20000 in
theorem gX5_numberAt_X3_at : GoodIn wsX5_numberAt (va_wsS RX5 101 yX3_at wsX3_at) := goodIn_app (goodIn_of _ (by decide +kernel)) ggX5_numberAt_X3_at
theorem dX5_numberAt_0 : decode cX5_numberAt 0 = .ok (.aload_n 0, 1) := by decide +kernel
theorem dX5_numberAt_1 : decode cX5_numberAt 1 = .ok (.getfield 15, 3) := by decide +kernel
theorem dX5_numberAt_4 : decode cX5_numberAt 4 = .ok (.iload_n 1, 1) := by decide +kernel
theorem dX5_numberAt_5 : decode cX5_numberAt 5 = .ok (.invokestatic 101, 3) := by decide +kernel
theorem dX5_numberAt_8 : decode cX5_numberAt 8 = .ok (.ireturn, 1) := by decide +kernel
set_option maxRecDepth 20000 in
theorem ggX5_propertyOf_X3_at : GoodIn wsX5_propertyOf wsX3_at := goodIn_r _ [9] (by decide +kernel) (by decide +kernel)
set_option maxRecDepth 20000 in
theorem gX5_propertyOf_X3_at : GoodIn wsX5_propertyOf (va_wsS RX5 101 yX3_at wsX3_at) := goodIn_app (goodIn_of _ (by decide +kernel)) ggX5_propertyOf_X3_at
set_option maxRecDepth 20000 in
theorem ggX5_propertyOf_X3_at_ : GoodIn wsX5_propertyOf wsX3_at_ := goodIn_r _ [12] (by decide +kernel) (by decide +kernel)
set_option maxRecDepth 20000 in
theorem gX5_propertyOf_X3_at_ : GoodIn wsX5_propertyOf (va_wsS RX5 97 yX3_at_ wsX3_at_) := goodIn_app (goodIn_of _ (by decide +kernel)) ggX5_propertyOf_X3_at_
set_option maxRecDepth 20000 in
theorem ggX5_propertyOf_J13_bitCount_95d88 : GoodIn wsX5_propertyOf wsJ13_bitCount_95d88 := goodIn_r _ [16, 17, 18, 19] (by decide +kernel) (by decide +kernel)
set_option maxRecDepth 20000 in
theorem gX5_propertyOf_J13_bitCount_95d88 : GoodIn wsX5_propertyOf (va_wsS RX5 91 yJ13_bitCount_95d88 wsJ13_bitCount_95d88) := goodIn_app (goodIn_of _ (by decide +kernel)) ggX5_propertyOf_J13_bitCount_95d88
theorem dX5_propertyOf_0 : decode cX5_propertyOf 0 = .ok (.iload_n 2, 1) := by decide +kernel
theorem dX5_propertyOf_1 : decode cX5_propertyOf 1 = .ok (.tableswitch 80 0 3 #[31, 40, 59, 68], 31) := by decide +kernel
theorem dX5_propertyOf_32 : decode cX5_propertyOf 32 = .ok (.aload_n 0, 1) := by decide +kernel
theorem dX5_propertyOf_33 : decode cX5_propertyOf 33 = .ok (.getfield 19, 3) := by decide +kernel
theorem dX5_propertyOf_36 : decode cX5_propertyOf 36 = .ok (.iload_n 1, 1) := by decide +kernel
theorem dX5_propertyOf_37 : decode cX5_propertyOf 37 = .ok (.invokestatic 101, 3) := by decide +kernel
theorem dX5_propertyOf_40 : decode cX5_propertyOf 40 = .ok (.ireturn, 1) := by decide +kernel
theorem dX5_propertyOf_41 : decode cX5_propertyOf 41 = .ok (.aload_n 0, 1) := by decide +kernel
theorem dX5_propertyOf_42 : decode cX5_propertyOf 42 = .ok (.getfield 25, 3) := by decide +kernel
theorem dX5_propertyOf_45 : decode cX5_propertyOf 45 = .ok (.iload_n 1, 1) := by decide +kernel
theorem dX5_propertyOf_46 : decode cX5_propertyOf 46 = .ok (.invokestatic 101, 3) := by decide +kernel
theorem dX5_propertyOf_49 : decode cX5_propertyOf 49 = .ok (.bipush 8, 2) := by decide +kernel
theorem dX5_propertyOf_51 : decode cX5_propertyOf 51 = .ok (.if_icmp .ne 7, 3) := by decide +kernel
theorem dX5_propertyOf_54 : decode cX5_propertyOf 54 = .ok (.iconst 1, 1) := by decide +kernel
theorem dX5_propertyOf_55 : decode cX5_propertyOf 55 = .ok (.goto 4, 3) := by decide +kernel
theorem dX5_propertyOf_58 : decode cX5_propertyOf 58 = .ok (.iconst 0, 1) := by decide +kernel
theorem dX5_propertyOf_59 : decode cX5_propertyOf 59 = .ok (.ireturn, 1) := by decide +kernel
theorem dX5_propertyOf_60 : decode cX5_propertyOf 60 = .ok (.aload_n 0, 1) := by decide +kernel
theorem dX5_propertyOf_61 : decode cX5_propertyOf 61 = .ok (.getfield 22, 3) := by decide +kernel
theorem dX5_propertyOf_64 : decode cX5_propertyOf 64 = .ok (.iload_n 1, 1) := by decide +kernel
theorem dX5_propertyOf_65 : decode cX5_propertyOf 65 = .ok (.invokestatic 101, 3) := by decide +kernel
theorem dX5_propertyOf_68 : decode cX5_propertyOf 68 = .ok (.ireturn, 1) := by decide +kernel
theorem dX5_propertyOf_69 : decode cX5_propertyOf 69 = .ok (.aload_n 0, 1) := by decide +kernel
theorem dX5_propertyOf_70 : decode cX5_propertyOf 70 = .ok (.getfield 28, 3) := by decide +kernel
theorem dX5_propertyOf_73 : decode cX5_propertyOf 73 = .ok (.iload_n 1, 1) := by decide +kernel
theorem dX5_propertyOf_74 : decode cX5_propertyOf 74 = .ok (.invokestatic 97, 3) := by decide +kernel
theorem dX5_propertyOf_77 : decode cX5_propertyOf 77 = .ok (.invokestatic 91, 3) := by decide +kernel
theorem dX5_propertyOf_80 : decode cX5_propertyOf 80 = .ok (.ireturn, 1) := by decide +kernel
theorem dX5_propertyOf_81 : decode cX5_propertyOf 81 = .ok (.aload_n 0, 1) := by decide +kernel
theorem dX5_propertyOf_82 : decode cX5_propertyOf 82 = .ok (.getfield 28, 3) := by decide +kernel
theorem dX5_propertyOf_85 : decode cX5_propertyOf 85 = .ok (.iload_n 1, 1) := by decide +kernel
theorem dX5_propertyOf_86 : decode cX5_propertyOf 86 = .ok (.invokestatic 97, 3) := by decide +kernel
theorem dX5_propertyOf_89 : decode cX5_propertyOf 89 = .ok (.aload_n 0, 1) := by decide +kernel
theorem dX5_propertyOf_90 : decode cX5_propertyOf 90 = .ok (.getfield 76, 3) := by decide +kernel
theorem dX5_propertyOf_93 : decode cX5_propertyOf 93 = .ok (.land, 1) := by decide +kernel
theorem dX5_propertyOf_94 : decode cX5_propertyOf 94 = .ok (.invokestatic 91, 3) := by decide +kernel
theorem dX5_propertyOf_97 : decode cX5_propertyOf 97 = .ok (.ireturn, 1) := by decide +kernel
set_option maxRecDepth 20000 in
theorem ggX5_summaryOf_X5_countWith : GoodIn wsX5_summaryOf wsX5_countWith := goodIn_r _ [7, 8, 9, 10, 11, 12, 13, 35, 36, 37, 38, 39, 40, 41, 42, 43, 44, 45, 46, 47, 48, 49, 50] (by decide +kernel) (by decide +kernel)
set_option maxRecDepth 20000 in
theorem gX5_summaryOf_X5_countWith : GoodIn wsX5_summaryOf (wsV RX5 112 RX5 yX5_countWith wsX5_countWith) := goodIn_app (goodIn_of _ (by decide +kernel)) ggX5_summaryOf_X5_countWith
set_option maxRecDepth 20000 in
theorem ggX5_summaryOf_X5_isAllClosed : GoodIn wsX5_summaryOf wsX5_isAllClosed := goodIn_r _ [17, 8, 1, 18, 19, 20, 6, 21, 22, 10, 11, 12, 13, 35, 36, 37, 38, 39, 40, 41, 42, 43, 44, 45, 46, 47, 48, 49, 50] (by decide +kernel) (by decide +kernel)
set_option maxRecDepth 20000 in
theorem gX5_summaryOf_X5_isAllClosed : GoodIn wsX5_summaryOf (wsV RX5 115 RX5 yX5_isAllClosed wsX5_isAllClosed) := goodIn_app (goodIn_of _ (by decide +kernel)) ggX5_summaryOf_X5_isAllClosed
set_option maxRecDepth 20000 in
theorem ggX5_summaryOf_X5_controlledValue : GoodIn wsX5_summaryOf wsX5_controlledValue := goodIn_r _ [26, 8, 9, 27, 10, 11, 12, 13, 35, 36, 37, 38, 39, 40, 41, 42, 43, 44, 45, 46, 47, 48, 49, 50] (by decide +kernel) (by decide +kernel)
set_option maxRecDepth 20000 in
theorem gX5_summaryOf_X5_controlledValue : GoodIn wsX5_summaryOf (wsV RX5 119 RX5 yX5_controlledValue wsX5_controlledValue) := goodIn_app (goodIn_of _ (by decide +kernel)) ggX5_summaryOf_X5_controlledValue
set_option maxRecDepth 20000 in
theorem ggX5_summaryOf_X0_cornerCount : GoodIn wsX5_summaryOf wsX0_cornerCount := goodIn_r _ [32, 33, 34, 51, 52, 53, 54, 55, 56, 57] (by decide +kernel) (by decide +kernel)
set_option maxRecDepth 20000 in
theorem gX5_summaryOf_X0_cornerCount : GoodIn wsX5_summaryOf (wsV RX5 123 RX0 yX0_cornerCount wsX0_cornerCount) := goodIn_app (goodIn_of _ (by decide +kernel)) ggX5_summaryOf_X0_cornerCount
theorem dX5_summaryOf_0 : decode cX5_summaryOf 0 = .ok (.iload_n 1, 1) := by decide +kernel
theorem dX5_summaryOf_1 : decode cX5_summaryOf 1 = .ok (.tableswitch 71 0 4 #[35, 41, 48, 53, 66], 35) := by decide +kernel
theorem dX5_summaryOf_36 : decode cX5_summaryOf 36 = .ok (.aload_n 0, 1) := by decide +kernel
theorem dX5_summaryOf_37 : decode cX5_summaryOf 37 = .ok (.iconst 4, 1) := by decide +kernel
theorem dX5_summaryOf_38 : decode cX5_summaryOf 38 = .ok (.invokevirtual 112, 3) := by decide +kernel
theorem dX5_summaryOf_41 : decode cX5_summaryOf 41 = .ok (.ireturn, 1) := by decide +kernel
theorem dX5_summaryOf_42 : decode cX5_summaryOf 42 = .ok (.aload_n 0, 1) := by decide +kernel
theorem dX5_summaryOf_43 : decode cX5_summaryOf 43 = .ok (.bipush 8, 2) := by decide +kernel
theorem dX5_summaryOf_45 : decode cX5_summaryOf 45 = .ok (.invokevirtual 112, 3) := by decide +kernel
theorem dX5_summaryOf_48 : decode cX5_summaryOf 48 = .ok (.ireturn, 1) := by decide +kernel
theorem dX5_summaryOf_49 : decode cX5_summaryOf 49 = .ok (.aload_n 0, 1) := by decide +kernel
theorem dX5_summaryOf_50 : decode cX5_summaryOf 50 = .ok (.getfield 73, 3) := by decide +kernel
theorem dX5_summaryOf_53 : decode cX5_summaryOf 53 = .ok (.ireturn, 1) := by decide +kernel
theorem dX5_summaryOf_54 : decode cX5_summaryOf 54 = .ok (.aload_n 0, 1) := by decide +kernel
theorem dX5_summaryOf_55 : decode cX5_summaryOf 55 = .ok (.invokevirtual 115, 3) := by decide +kernel
theorem dX5_summaryOf_58 : decode cX5_summaryOf 58 = .ok (.ifCond .eq 7, 3) := by decide +kernel
theorem dX5_summaryOf_61 : decode cX5_summaryOf 61 = .ok (.iconst 1, 1) := by decide +kernel
theorem dX5_summaryOf_62 : decode cX5_summaryOf 62 = .ok (.goto 4, 3) := by decide +kernel
theorem dX5_summaryOf_65 : decode cX5_summaryOf 65 = .ok (.iconst 0, 1) := by decide +kernel
theorem dX5_summaryOf_66 : decode cX5_summaryOf 66 = .ok (.ireturn, 1) := by decide +kernel
theorem dX5_summaryOf_67 : decode cX5_summaryOf 67 = .ok (.aload_n 0, 1) := by decide +kernel
theorem dX5_summaryOf_68 : decode cX5_summaryOf 68 = .ok (.invokevirtual 119, 3) := by decide +kernel
theorem dX5_summaryOf_71 : decode cX5_summaryOf 71 = .ok (.ireturn, 1) := by decide +kernel
theorem dX5_summaryOf_72 : decode cX5_summaryOf 72 = .ok (.aload_n 0, 1) := by decide +kernel
theorem dX5_summaryOf_73 : decode cX5_summaryOf 73 = .ok (.getfield 37, 3) := by decide +kernel
theorem dX5_summaryOf_76 : decode cX5_summaryOf 76 = .ok (.invokevirtual 123, 3) := by decide +kernel
theorem dX5_summaryOf_79 : decode cX5_summaryOf 79 = .ok (.aload_n 0, 1) := by decide +kernel
theorem dX5_summaryOf_80 : decode cX5_summaryOf 80 = .ok (.iconst 4, 1) := by decide +kernel
theorem dX5_summaryOf_81 : decode cX5_summaryOf 81 = .ok (.invokevirtual 112, 3) := by decide +kernel
theorem dX5_summaryOf_84 : decode cX5_summaryOf 84 = .ok (.iadd, 1) := by decide +kernel
theorem dX5_summaryOf_85 : decode cX5_summaryOf 85 = .ok (.iconst 2, 1) := by decide +kernel
theorem dX5_summaryOf_86 : decode cX5_summaryOf 86 = .ok (.irem, 1) := by decide +kernel
theorem dX5_summaryOf_87 : decode cX5_summaryOf 87 = .ok (.ireturn, 1) := by decide +kernel
set_option maxRecDepth 20000 in
theorem ggX5_countWith_X3_at : GoodIn wsX5_countWith wsX3_at := goodIn_r _ [6] (by decide +kernel) (by decide +kernel)
set_option maxRecDepth 20000 in
theorem gX5_countWith_X3_at : GoodIn wsX5_countWith (va_wsS RX5 101 yX3_at wsX3_at) := goodIn_app (goodIn_of _ (by decide +kernel)) ggX5_countWith_X3_at
theorem dX5_countWith_0 : decode cX5_countWith 0 = .ok (.iconst 0, 1) := by decide +kernel
theorem dX5_countWith_1 : decode cX5_countWith 1 = .ok (.istore_n 2, 1) := by decide +kernel
theorem dX5_countWith_2 : decode cX5_countWith 2 = .ok (.iconst 0, 1) := by decide +kernel
theorem dX5_countWith_3 : decode cX5_countWith 3 = .ok (.istore_n 3, 1) := by decide +kernel
theorem dX5_countWith_4 : decode cX5_countWith 4 = .ok (.iload_n 3, 1) := by decide +kernel
theorem dX5_countWith_5 : decode cX5_countWith 5 = .ok (.aload_n 0, 1) := by decide +kernel
theorem dX5_countWith_6 : decode cX5_countWith 6 = .ok (.getfield 56, 3) := by decide +kernel
theorem dX5_countWith_9 : decode cX5_countWith 9 = .ok (.if_icmp .ge 24, 3) := by decide +kernel
theorem dX5_countWith_12 : decode cX5_countWith 12 = .ok (.aload_n 0, 1) := by decide +kernel
theorem dX5_countWith_13 : decode cX5_countWith 13 = .ok (.getfield 25, 3) := by decide +kernel
theorem dX5_countWith_16 : decode cX5_countWith 16 = .ok (.iload_n 3, 1) := by decide +kernel
theorem dX5_countWith_17 : decode cX5_countWith 17 = .ok (.invokestatic 101, 3) := by decide +kernel
theorem dX5_countWith_20 : decode cX5_countWith 20 = .ok (.iload_n 1, 1) := by decide +kernel
theorem dX5_countWith_21 : decode cX5_countWith 21 = .ok (.if_icmp .ne 6, 3) := by decide +kernel
theorem dX5_countWith_24 : decode cX5_countWith 24 = .ok (.iinc 2 1, 3) := by decide +kernel
theorem dX5_countWith_27 : decode cX5_countWith 27 = .ok (.iinc 3 1, 3) := by decide +kernel
theorem dX5_countWith_30 : decode cX5_countWith 30 = .ok (.goto (-26), 3) := by decide +kernel
theorem dX5_countWith_33 : decode cX5_countWith 33 = .ok (.iload_n 2, 1) := by decide +kernel
theorem dX5_countWith_34 : decode cX5_countWith 34 = .ok (.ireturn, 1) := by decide +kernel
set_option maxRecDepth 20000 in
theorem ggX5_isAllClosed_X5_isOpen : GoodIn wsX5_isAllClosed wsX5_isOpen := goodIn_r _ [7, 8, 9, 10, 11, 12, 13, 14, 15, 16, 17, 18, 19, 20, 21, 22, 23, 24, 25, 26, 27, 28] (by decide +kernel) (by decide +kernel)
set_option maxRecDepth 20000 in
theorem gX5_isAllClosed_X5_isOpen : GoodIn wsX5_isAllClosed (wsV RX5 126 RX5 yX5_isOpen wsX5_isOpen) := goodIn_app (goodIn_of _ (by decide +kernel)) ggX5_isAllClosed_X5_isOpen
theorem dX5_isAllClosed_0 : decode cX5_isAllClosed 0 = .ok (.iconst 0, 1) := by decide +kernel
theorem dX5_isAllClosed_1 : decode cX5_isAllClosed 1 = .ok (.istore_n 1, 1) := by decide +kernel
theorem dX5_isAllClosed_2 : decode cX5_isAllClosed 2 = .ok (.iload_n 1, 1) := by decide +kernel
theorem dX5_isAllClosed_3 : decode cX5_isAllClosed 3 = .ok (.aload_n 0, 1) := by decide +kernel
theorem dX5_isAllClosed_4 : decode cX5_isAllClosed 4 = .ok (.getfield 56, 3) := by decide +kernel
theorem dX5_isAllClosed_7 : decode cX5_isAllClosed 7 = .ok (.if_icmp .ge 19, 3) := by decide +kernel
theorem dX5_isAllClosed_10 : decode cX5_isAllClosed 10 = .ok (.aload_n 0, 1) := by decide +kernel
theorem dX5_isAllClosed_11 : decode cX5_isAllClosed 11 = .ok (.iload_n 1, 1) := by decide +kernel
theorem dX5_isAllClosed_12 : decode cX5_isAllClosed 12 = .ok (.invokevirtual 126, 3) := by decide +kernel
theorem dX5_isAllClosed_15 : decode cX5_isAllClosed 15 = .ok (.ifCond .eq 5, 3) := by decide +kernel
theorem dX5_isAllClosed_18 : decode cX5_isAllClosed 18 = .ok (.iconst 0, 1) := by decide +kernel
theorem dX5_isAllClosed_19 : decode cX5_isAllClosed 19 = .ok (.ireturn, 1) := by decide +kernel
theorem dX5_isAllClosed_20 : decode cX5_isAllClosed 20 = .ok (.iinc 1 1, 3) := by decide +kernel
theorem dX5_isAllClosed_23 : decode cX5_isAllClosed 23 = .ok (.goto (-21), 3) := by decide +kernel
theorem dX5_isAllClosed_26 : decode cX5_isAllClosed 26 = .ok (.aload_n 0, 1) := by decide +kernel
theorem dX5_isAllClosed_27 : decode cX5_isAllClosed 27 = .ok (.getfield 73, 3) := by decide +kernel
theorem dX5_isAllClosed_30 : decode cX5_isAllClosed 30 = .ok (.ifCond .ne 7, 3) := by decide +kernel
theorem dX5_isAllClosed_33 : decode cX5_isAllClosed 33 = .ok (.iconst 1, 1) := by decide +kernel
theorem dX5_isAllClosed_34 : decode cX5_isAllClosed 34 = .ok (.goto 4, 3) := by decide +kernel
theorem dX5_isAllClosed_37 : decode cX5_isAllClosed 37 = .ok (.iconst 0, 1) := by decide +kernel
theorem dX5_isAllClosed_38 : decode cX5_isAllClosed 38 = .ok (.ireturn, 1) := by decide +kernel
set_option maxRecDepth 20000 in
theorem ggX5_controlledValue_X3_at : GoodIn wsX5_controlledValue wsX3_at := goodIn_r _ [7] (by decide +kernel) (by decide +kernel)
set_option maxRecDepth 20000 in
theorem gX5_controlledValue_X3_at : GoodIn wsX5_controlledValue (va_wsS RX5 101 yX3_at wsX3_at) := goodIn_app (goodIn_of _ (by decide +kernel)) ggX5_controlledValue_X3_at
theorem dX5_controlledValue_0 : decode cX5_controlledValue 0 = .ok (.iconst 0, 1) := by decide +kernel
theorem dX5_controlledValue_1 : decode cX5_controlledValue 1 = .ok (.istore_n 1, 1) := by decide +kernel
theorem dX5_controlledValue_2 : decode cX5_controlledValue 2 = .ok (.iconst 0, 1) := by decide +kernel
theorem dX5_controlledValue_3 : decode cX5_controlledValue 3 = .ok (.istore_n 2, 1) := by decide +kernel
theorem dX5_controlledValue_4 : decode cX5_controlledValue 4 = .ok (.iload_n 2, 1) := by decide +kernel
theorem dX5_controlledValue_5 : decode cX5_controlledValue 5 = .ok (.aload_n 0, 1) := by decide +kernel
theorem dX5_controlledValue_6 : decode cX5_controlledValue 6 = .ok (.getfield 56, 3) := by decide +kernel
theorem dX5_controlledValue_9 : decode cX5_controlledValue 9 = .ok (.if_icmp .ge 35, 3) := by decide +kernel
theorem dX5_controlledValue_12 : decode cX5_controlledValue 12 = .ok (.aload_n 0, 1) := by decide +kernel
theorem dX5_controlledValue_13 : decode cX5_controlledValue 13 = .ok (.getfield 25, 3) := by decide +kernel
theorem dX5_controlledValue_16 : decode cX5_controlledValue 16 = .ok (.iload_n 2, 1) := by decide +kernel
theorem dX5_controlledValue_17 : decode cX5_controlledValue 17 = .ok (.invokestatic 101, 3) := by decide +kernel
theorem dX5_controlledValue_20 : decode cX5_controlledValue 20 = .ok (.istore_n 3, 1) := by decide +kernel
theorem dX5_controlledValue_21 : decode cX5_controlledValue 21 = .ok (.iload_n 3, 1) := by decide +kernel
theorem dX5_controlledValue_22 : decode cX5_controlledValue 22 = .ok (.ifCond .eq 16, 3) := by decide +kernel
theorem dX5_controlledValue_25 : decode cX5_controlledValue 25 = .ok (.iload_n 1, 1) := by decide +kernel
theorem dX5_controlledValue_26 : decode cX5_controlledValue 26 = .ok (.aload_n 0, 1) := by decide +kernel
theorem dX5_controlledValue_27 : decode cX5_controlledValue 27 = .ok (.getfield 19, 3) := by decide +kernel
theorem dX5_controlledValue_30 : decode cX5_controlledValue 30 = .ok (.iload_n 2, 1) := by decide +kernel
theorem dX5_controlledValue_31 : decode cX5_controlledValue 31 = .ok (.invokestatic 101, 3) := by decide +kernel
theorem dX5_controlledValue_34 : decode cX5_controlledValue 34 = .ok (.iload_n 3, 1) := by decide +kernel
theorem dX5_controlledValue_35 : decode cX5_controlledValue 35 = .ok (.isub, 1) := by decide +kernel
theorem dX5_controlledValue_36 : decode cX5_controlledValue 36 = .ok (.iadd, 1) := by decide +kernel
theorem dX5_controlledValue_37 : decode cX5_controlledValue 37 = .ok (.istore_n 1, 1) := by decide +kernel
theorem dX5_controlledValue_38 : decode cX5_controlledValue 38 = .ok (.iinc 2 1, 3) := by decide +kernel
theorem dX5_controlledValue_41 : decode cX5_controlledValue 41 = .ok (.goto (-37), 3) := by decide +kernel
theorem dX5_controlledValue_44 : decode cX5_controlledValue 44 = .ok (.iload_n 1, 1) := by decide +kernel
theorem dX5_controlledValue_45 : decode cX5_controlledValue 45 = .ok (.ireturn, 1) := by decide +kernel
set_option maxRecDepth 20000 in
theorem ggX5_predict_X5_predictAll : GoodIn wsX5_predict wsX5_predictAll := goodIn_r _ [7, 8, 9, 10, 11, 12, 13, 14, 15, 16, 17, 18, 19, 20, 6, 21, 22, 23, 24, 25, 26, 27, 28, 29, 30, 31, 32, 33, 34, 35, 36, 37, 38, 39, 40, 41, 42, 43, 44, 45, 46, 47, 48, 49] (by decide +kernel) (by decide +kernel)
set_option maxRecDepth 20000 in
theorem gX5_predict_X5_predictAll : GoodIn wsX5_predict (wsV RX5 129 RX5 yX5_predictAll wsX5_predictAll) := goodIn_app (goodIn_of _ (by decide +kernel)) ggX5_predict_X5_predictAll
theorem dX5_predict_0 : decode cX5_predict 0 = .ok (.aload_n 0, 1) := by decide +kernel
theorem dX5_predict_1 : decode cX5_predict 1 = .ok (.getfield 49, 3) := by decide +kernel
theorem dX5_predict_4 : decode cX5_predict 4 = .ok (.ifCond .ne 16, 3) := by decide +kernel
theorem dX5_predict_7 : decode cX5_predict 7 = .ok (.aload_n 0, 1) := by decide +kernel
theorem dX5_predict_8 : decode cX5_predict 8 = .ok (.aload_n 0, 1) := by decide +kernel
theorem dX5_predict_9 : decode cX5_predict 9 = .ok (.invokevirtual 129, 3) := by decide +kernel
theorem dX5_predict_12 : decode cX5_predict 12 = .ok (.putfield 132, 3) := by decide +kernel
theorem dX5_predict_15 : decode cX5_predict 15 = .ok (.aload_n 0, 1) := by decide +kernel
theorem dX5_predict_16 : decode cX5_predict 16 = .ok (.iconst 1, 1) := by decide +kernel
theorem dX5_predict_17 : decode cX5_predict 17 = .ok (.putfield 49, 3) := by decide +kernel
theorem dX5_predict_20 : decode cX5_predict 20 = .ok (.aload_n 0, 1) := by decide +kernel
theorem dX5_predict_21 : decode cX5_predict 21 = .ok (.getfield 132, 3) := by decide +kernel
theorem dX5_predict_24 : decode cX5_predict 24 = .ok (.ireturn, 1) := by decide +kernel
set_option maxRecDepth 20000 in
theorem ggX5_predictAll_X3_put : GoodIn wsX5_predictAll wsX3_put := goodIn_r _ [10] (by decide +kernel) (by decide +kernel)
set_option maxRecDepth 20000 in
theorem gX5_predictAll_X3_put : GoodIn wsX5_predictAll (va_wsS RX5 88 yX3_put wsX3_put) := goodIn_app (goodIn_of _ (by decide +kernel)) ggX5_predictAll_X3_put
set_option maxRecDepth 20000 in
theorem ggX5_predictAll_X5_predictSet : GoodIn wsX5_predictAll wsX5_predictSet := goodIn_r _ [15, 1, 6, 2, 3, 4, 5, 16, 17, 9, 18, 19, 20, 21, 14, 22, 23, 24, 25, 26, 27, 28, 29, 30, 31, 32, 33, 34, 35, 36, 37, 38, 39, 40, 41, 42, 43] (by decide +kernel) (by decide +kernel)
set_option maxRecDepth 20000 in
theorem gX5_predictAll_X5_predictSet : GoodIn wsX5_predictAll (wsV RX5 141 RX5 yX5_predictSet wsX5_predictSet) := goodIn_app (goodIn_of _ (by decide +kernel)) ggX5_predictAll_X5_predictSet
set_option maxRecDepth 20000 in
theorem ggX5_predictAll_X3_at : GoodIn wsX5_predictAll wsX3_at := goodIn_r _ [18] (by decide +kernel) (by decide +kernel)
set_option maxRecDepth 20000 in
theorem gX5_predictAll_X3_at : GoodIn wsX5_predictAll (va_wsS RX5 101 yX3_at wsX3_at) := goodIn_app (goodIn_of _ (by decide +kernel)) ggX5_predictAll_X3_at
theorem dX5_predictAll_0 : decode cX5_predictAll 0 = .ok (.iconst 1, 1) := by decide +kernel
theorem dX5_predictAll_1 : decode cX5_predictAll 1 = .ok (.aload_n 0, 1) := by decide +kernel
theorem dX5_predictAll_2 : decode cX5_predictAll 2 = .ok (.getfield 56, 3) := by decide +kernel
theorem dX5_predictAll_5 : decode cX5_predictAll 5 = .ok (.bipush 10, 2) := by decide +kernel
theorem dX5_predictAll_7 : decode cX5_predictAll 7 = .ok (.invokestatic 135, 3) := by decide +kernel
theorem dX5_predictAll_10 : decode cX5_predictAll 10 = .ok (.ishl, 1) := by decide +kernel
theorem dX5_predictAll_11 : decode cX5_predictAll 11 = .ok (.istore_n 1, 1) := by decide +kernel
theorem dX5_predictAll_12 : decode cX5_predictAll 12 = .ok (.aload_n 0, 1) := by decide +kernel
theorem dX5_predictAll_13 : decode cX5_predictAll 13 = .ok (.getfield 34, 3) := by decide +kernel
theorem dX5_predictAll_16 : decode cX5_predictAll 16 = .ok (.iconst 0, 1) := by decide +kernel
theorem dX5_predictAll_17 : decode cX5_predictAll 17 = .ok (.iconst 0, 1) := by decide +kernel
theorem dX5_predictAll_18 : decode cX5_predictAll 18 = .ok (.invokestatic 88, 3) := by decide +kernel
theorem dX5_predictAll_21 : decode cX5_predictAll 21 = .ok (.iconst 1, 1) := by decide +kernel
theorem dX5_predictAll_22 : decode cX5_predictAll 22 = .ok (.istore_n 2, 1) := by decide +kernel
theorem dX5_predictAll_23 : decode cX5_predictAll 23 = .ok (.iload_n 2, 1) := by decide +kernel
theorem dX5_predictAll_24 : decode cX5_predictAll 24 = .ok (.iload_n 1, 1) := by decide +kernel
theorem dX5_predictAll_25 : decode cX5_predictAll 25 = .ok (.if_icmp .ge 22, 3) := by decide +kernel
theorem dX5_predictAll_28 : decode cX5_predictAll 28 = .ok (.aload_n 0, 1) := by decide +kernel
theorem dX5_predictAll_29 : decode cX5_predictAll 29 = .ok (.getfield 34, 3) := by decide +kernel
theorem dX5_predictAll_32 : decode cX5_predictAll 32 = .ok (.iload_n 2, 1) := by decide +kernel
theorem dX5_predictAll_33 : decode cX5_predictAll 33 = .ok (.aload_n 0, 1) := by decide +kernel
theorem dX5_predictAll_34 : decode cX5_predictAll 34 = .ok (.iload_n 2, 1) := by decide +kernel
theorem dX5_predictAll_35 : decode cX5_predictAll 35 = .ok (.invokevirtual 141, 3) := by decide +kernel
theorem dX5_predictAll_38 : decode cX5_predictAll 38 = .ok (.invokestatic 88, 3) := by decide +kernel
theorem dX5_predictAll_41 : decode cX5_predictAll 41 = .ok (.iinc 2 1, 3) := by decide +kernel
theorem dX5_predictAll_44 : decode cX5_predictAll 44 = .ok (.goto (-21), 3) := by decide +kernel
theorem dX5_predictAll_47 : decode cX5_predictAll 47 = .ok (.aload_n 0, 1) := by decide +kernel
theorem dX5_predictAll_48 : decode cX5_predictAll 48 = .ok (.getfield 34, 3) := by decide +kernel
theorem dX5_predictAll_51 : decode cX5_predictAll 51 = .ok (.iload_n 1, 1) := by decide +kernel
theorem dX5_predictAll_52 : decode cX5_predictAll 52 = .ok (.iconst 1, 1) := by decide +kernel
theorem dX5_predictAll_53 : decode cX5_predictAll 53 = .ok (.isub, 1) := by decide +kernel
theorem dX5_predictAll_54 : decode cX5_predictAll 54 = .ok (.invokestatic 101, 3) := by decide +kernel
theorem dX5_predictAll_57 : decode cX5_predictAll 57 = .ok (.ireturn, 1) := by decide +kernel
set_option maxRecDepth 20000 in
theorem ggX5_predictSet_X3_at : GoodIn wsX5_predictSet wsX3_at := goodIn_r _ [10] (by decide +kernel) (by decide +kernel)
set_option maxRecDepth 20000 in
theorem gX5_predictSet_X3_at : GoodIn wsX5_predictSet (va_wsS RX5 101 yX3_at wsX3_at) := goodIn_app (goodIn_of _ (by decide +kernel)) ggX5_predictSet_X3_at
set_option maxRecDepth 20000 in
theorem ggX5_predictSet_X5_valueAfter : GoodIn wsX5_predictSet wsX5_valueAfter := goodIn_r _ [15, 16, 17, 18, 19, 5, 20, 7, 8, 9, 10, 21, 22, 23, 24, 25, 26, 27, 28, 29, 30, 31, 32, 33, 34, 35, 36] (by decide +kernel) (by decide +kernel)
set_option maxRecDepth 20000 in
theorem gX5_predictSet_X5_valueAfter : GoodIn wsX5_predictSet (wsV RX5 144 RX5 yX5_valueAfter wsX5_valueAfter) := goodIn_app (goodIn_of _ (by decide +kernel)) ggX5_predictSet_X5_valueAfter
theorem dX5_predictSet_0 : decode cX5_predictSet 0 = .ok (.sipush 1000, 3) := by decide +kernel
theorem dX5_predictSet_3 : decode cX5_predictSet 3 = .ok (.istore_n 2, 1) := by decide +kernel
theorem dX5_predictSet_4 : decode cX5_predictSet 4 = .ok (.iconst 0, 1) := by decide +kernel
theorem dX5_predictSet_5 : decode cX5_predictSet 5 = .ok (.istore_n 3, 1) := by decide +kernel
theorem dX5_predictSet_6 : decode cX5_predictSet 6 = .ok (.iload_n 3, 1) := by decide +kernel
theorem dX5_predictSet_7 : decode cX5_predictSet 7 = .ok (.aload_n 0, 1) := by decide +kernel
theorem dX5_predictSet_8 : decode cX5_predictSet 8 = .ok (.getfield 56, 3) := by decide +kernel
theorem dX5_predictSet_11 : decode cX5_predictSet 11 = .ok (.if_icmp .ge 44, 3) := by decide +kernel
theorem dX5_predictSet_14 : decode cX5_predictSet 14 = .ok (.iconst 1, 1) := by decide +kernel
theorem dX5_predictSet_15 : decode cX5_predictSet 15 = .ok (.iload_n 3, 1) := by decide +kernel
theorem dX5_predictSet_16 : decode cX5_predictSet 16 = .ok (.ishl, 1) := by decide +kernel
theorem dX5_predictSet_17 : decode cX5_predictSet 17 = .ok (.istore 4, 2) := by decide +kernel
theorem dX5_predictSet_19 : decode cX5_predictSet 19 = .ok (.iload_n 1, 1) := by decide +kernel
theorem dX5_predictSet_20 : decode cX5_predictSet 20 = .ok (.iload 4, 2) := by decide +kernel
theorem dX5_predictSet_22 : decode cX5_predictSet 22 = .ok (.iand, 1) := by decide +kernel
theorem dX5_predictSet_23 : decode cX5_predictSet 23 = .ok (.ifCond .eq 26, 3) := by decide +kernel
theorem dX5_predictSet_26 : decode cX5_predictSet 26 = .ok (.iload_n 2, 1) := by decide +kernel
theorem dX5_predictSet_27 : decode cX5_predictSet 27 = .ok (.aload_n 0, 1) := by decide +kernel
theorem dX5_predictSet_28 : decode cX5_predictSet 28 = .ok (.iload_n 3, 1) := by decide +kernel
theorem dX5_predictSet_29 : decode cX5_predictSet 29 = .ok (.aload_n 0, 1) := by decide +kernel
theorem dX5_predictSet_30 : decode cX5_predictSet 30 = .ok (.getfield 34, 3) := by decide +kernel
theorem dX5_predictSet_33 : decode cX5_predictSet 33 = .ok (.iload_n 1, 1) := by decide +kernel
theorem dX5_predictSet_34 : decode cX5_predictSet 34 = .ok (.iload 4, 2) := by decide +kernel
theorem dX5_predictSet_36 : decode cX5_predictSet 36 = .ok (.iconst (-1), 1) := by decide +kernel
theorem dX5_predictSet_37 : decode cX5_predictSet 37 = .ok (.ixor, 1) := by decide +kernel
theorem dX5_predictSet_38 : decode cX5_predictSet 38 = .ok (.iand, 1) := by decide +kernel
theorem dX5_predictSet_39 : decode cX5_predictSet 39 = .ok (.invokestatic 101, 3) := by decide +kernel
theorem dX5_predictSet_42 : decode cX5_predictSet 42 = .ok (.invokevirtual 144, 3) := by decide +kernel
theorem dX5_predictSet_45 : decode cX5_predictSet 45 = .ok (.invokestatic 135, 3) := by decide +kernel
theorem dX5_predictSet_48 : decode cX5_predictSet 48 = .ok (.istore_n 2, 1) := by decide +kernel
theorem dX5_predictSet_49 : decode cX5_predictSet 49 = .ok (.iinc 3 1, 3) := by decide +kernel
theorem dX5_predictSet_52 : decode cX5_predictSet 52 = .ok (.goto (-46), 3) := by decide +kernel
theorem dX5_predictSet_55 : decode cX5_predictSet 55 = .ok (.iload_n 2, 1) := by decide +kernel
theorem dX5_predictSet_56 : decode cX5_predictSet 56 = .ok (.ireturn, 1) := by decide +kernel
set_option maxRecDepth 20000 in
theorem ggX5_valueAfter_X3_at : GoodIn wsX5_valueAfter wsX3_at := goodIn_r _ [10] (by decide +kernel) (by decide +kernel)
set_option maxRecDepth 20000 in
theorem gX5_valueAfter_X3_at : GoodIn wsX5_valueAfter (va_wsS RX5 101 yX3_at wsX3_at) := goodIn_app (goodIn_of _ (by decide +kernel)) ggX5_valueAfter_X3_at
theorem dX5_valueAfter_0 : decode cX5_valueAfter 0 = .ok (.aload_n 0, 1) := by decide +kernel
theorem dX5_valueAfter_1 : decode cX5_valueAfter 1 = .ok (.getfield 19, 3) := by decide +kernel
theorem dX5_valueAfter_4 : decode cX5_valueAfter 4 = .ok (.iload_n 1, 1) := by decide +kernel
theorem dX5_valueAfter_5 : decode cX5_valueAfter 5 = .ok (.invokestatic 101, 3) := by decide +kernel
theorem dX5_valueAfter_8 : decode cX5_valueAfter 8 = .ok (.istore_n 3, 1) := by decide +kernel
theorem dX5_valueAfter_9 : decode cX5_valueAfter 9 = .ok (.aload_n 0, 1) := by decide +kernel
theorem dX5_valueAfter_10 : decode cX5_valueAfter 10 = .ok (.getfield 25, 3) := by decide +kernel
theorem dX5_valueAfter_13 : decode cX5_valueAfter 13 = .ok (.iload_n 1, 1) := by decide +kernel
theorem dX5_valueAfter_14 : decode cX5_valueAfter 14 = .ok (.invokestatic 101, 3) := by decide +kernel
theorem dX5_valueAfter_17 : decode cX5_valueAfter 17 = .ok (.istore 4, 2) := by decide +kernel
theorem dX5_valueAfter_19 : decode cX5_valueAfter 19 = .ok (.iload 4, 2) := by decide +kernel
theorem dX5_valueAfter_21 : decode cX5_valueAfter 21 = .ok (.ifCond .ne 7, 3) := by decide +kernel
theorem dX5_valueAfter_24 : decode cX5_valueAfter 24 = .ok (.iload_n 3, 1) := by decide +kernel
theorem dX5_valueAfter_25 : decode cX5_valueAfter 25 = .ok (.iload_n 2, 1) := by decide +kernel
theorem dX5_valueAfter_26 : decode cX5_valueAfter 26 = .ok (.isub, 1) := by decide +kernel
theorem dX5_valueAfter_27 : decode cX5_valueAfter 27 = .ok (.ireturn, 1) := by decide +kernel
theorem dX5_valueAfter_28 : decode cX5_valueAfter 28 = .ok (.iload_n 3, 1) := by decide +kernel
theorem dX5_valueAfter_29 : decode cX5_valueAfter 29 = .ok (.iload_n 2, 1) := by decide +kernel
theorem dX5_valueAfter_30 : decode cX5_valueAfter 30 = .ok (.isub, 1) := by decide +kernel
theorem dX5_valueAfter_31 : decode cX5_valueAfter 31 = .ok (.iload_n 3, 1) := by decide +kernel
theorem dX5_valueAfter_32 : decode cX5_valueAfter 32 = .ok (.iload 4, 2) := by decide +kernel
theorem dX5_valueAfter_34 : decode cX5_valueAfter 34 = .ok (.isub, 1) := by decide +kernel
theorem dX5_valueAfter_35 : decode cX5_valueAfter 35 = .ok (.iload_n 2, 1) := by decide +kernel
theorem dX5_valueAfter_36 : decode cX5_valueAfter 36 = .ok (.iadd, 1) := by decide +kernel
theorem dX5_valueAfter_37 : decode cX5_valueAfter 37 = .ok (.invokestatic 147, 3) := by decide +kernel
theorem dX5_valueAfter_40 : decode cX5_valueAfter 40 = .ok (.ireturn, 1) := by decide +kernel
